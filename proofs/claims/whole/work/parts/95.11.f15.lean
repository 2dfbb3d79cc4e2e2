/-! ===== functions of methods, by program (wip/whole/tools/gen11.py) ===== -/
theorem dX15_ask_0 : decode cX15_ask 0 = .ok (.aload_n 0, 1) := by decide +kernel
theorem dX15_ask_1 : decode cX15_ask 1 = .ok (.iconst 0, 1) := by decide +kernel
theorem dX15_ask_2 : decode cX15_ask 2 = .ok (.putfield 198, 3) := by decide +kernel
theorem dX15_ask_5 : decode cX15_ask 5 = .ok (.aload_n 0, 1) := by decide +kernel
theorem dX15_ask_6 : decode cX15_ask 6 = .ok (.lconst 0, 1) := by decide +kernel
theorem dX15_ask_7 : decode cX15_ask 7 = .ok (.putfield 201, 3) := by decide +kernel
theorem dX15_ask_10 : decode cX15_ask 10 = .ok (.iload_n 2, 1) := by decide +kernel
theorem dX15_ask_11 : decode cX15_ask 11 = .ok (.aload_n 0, 1) := by decide +kernel
theorem dX15_ask_12 : decode cX15_ask 12 = .ok (.getfield 29, 3) := by decide +kernel
theorem dX15_ask_15 : decode cX15_ask 15 = .ok (.iload_n 1, 1) := by decide +kernel
theorem dX15_ask_16 : decode cX15_ask 16 = .ok (.iaload, 1) := by decide +kernel
theorem dX15_ask_17 : decode cX15_ask 17 = .ok (.if_icmp .ge 5, 3) := by decide +kernel
theorem dX15_ask_22 : decode cX15_ask 22 = .ok (.aload_n 0, 1) := by decide +kernel
theorem dX15_ask_23 : decode cX15_ask 23 = .ok (.getfield 23, 3) := by decide +kernel
theorem dX15_ask_26 : decode cX15_ask 26 = .ok (.iload_n 1, 1) := by decide +kernel
theorem dX15_ask_27 : decode cX15_ask 27 = .ok (.iaload, 1) := by decide +kernel
theorem dX15_ask_28 : decode cX15_ask 28 = .ok (.istore 4, 2) := by decide +kernel
theorem dX15_ask_30 : decode cX15_ask 30 = .ok (.aload_n 0, 1) := by decide +kernel
theorem dX15_ask_31 : decode cX15_ask 31 = .ok (.iload 4, 2) := by decide +kernel
theorem dX15_ask_33 : decode cX15_ask 33 = .ok (.iload_n 3, 1) := by decide +kernel
theorem dX15_ask_34 : decode cX15_ask 34 = .ok (.ifCond .eq 7, 3) := by decide +kernel
theorem dX15_ask_41 : decode cX15_ask 41 = .ok (.iconst (-1), 1) := by decide +kernel
theorem dX15_ask_42 : decode cX15_ask 42 = .ok (.invokevirtual 237, 3) := by decide +kernel
theorem dX15_ask_45 : decode cX15_ask 45 = .ok (.istore 5, 2) := by decide +kernel
theorem dX15_ask_47 : decode cX15_ask 47 = .ok (.aload_n 0, 1) := by decide +kernel
theorem dX15_ask_48 : decode cX15_ask 48 = .ok (.getfield 198, 3) := by decide +kernel
theorem dX15_ask_51 : decode cX15_ask 51 = .ok (.ifCond .le 5, 3) := by decide +kernel
theorem dX15_ask_56 : decode cX15_ask 56 = .ok (.iload 5, 2) := by decide +kernel
theorem dX15_ask_58 : decode cX15_ask 58 = .ok (.ifCond .eq 5, 3) := by decide +kernel
theorem dX15_ask_63 : decode cX15_ask 63 = .ok (.aload_n 0, 1) := by decide +kernel
theorem dX15_ask_64 : decode cX15_ask 64 = .ok (.getfield 26, 3) := by decide +kernel
theorem dX15_ask_67 : decode cX15_ask 67 = .ok (.iload_n 1, 1) := by decide +kernel
theorem dX15_ask_68 : decode cX15_ask 68 = .ok (.iaload, 1) := by decide +kernel
theorem dX15_ask_69 : decode cX15_ask 69 = .ok (.ifCond .le 7, 3) := by decide +kernel
theorem dX15_ask_76 : decode cX15_ask 76 = .ok (.iconst 0, 1) := by decide +kernel
theorem dX15_ask_77 : decode cX15_ask 77 = .ok (.istore 6, 2) := by decide +kernel
theorem dX15_ask_79 : decode cX15_ask 79 = .ok (.iconst 1, 1) := by decide +kernel
theorem dX15_ask_80 : decode cX15_ask 80 = .ok (.istore 7, 2) := by decide +kernel
theorem dX15_ask_82 : decode cX15_ask 82 = .ok (.iload 7, 2) := by decide +kernel
theorem dX15_ask_84 : decode cX15_ask 84 = .ok (.aload_n 0, 1) := by decide +kernel
theorem dX15_ask_85 : decode cX15_ask 85 = .ok (.getfield 26, 3) := by decide +kernel
theorem dX15_ask_88 : decode cX15_ask 88 = .ok (.iload_n 1, 1) := by decide +kernel
theorem dX15_ask_89 : decode cX15_ask 89 = .ok (.iaload, 1) := by decide +kernel
theorem dX15_ask_90 : decode cX15_ask 90 = .ok (.if_icmp .gt 26, 3) := by decide +kernel
theorem dX15_ask_93 : decode cX15_ask 93 = .ok (.iload 6, 2) := by decide +kernel
theorem dX15_ask_95 : decode cX15_ask 95 = .ok (.ifCond .eq 21, 3) := by decide +kernel
theorem dX15_ask_98 : decode cX15_ask 98 = .ok (.aload_n 0, 1) := by decide +kernel
theorem dX15_ask_99 : decode cX15_ask 99 = .ok (.iload 4, 2) := by decide +kernel
theorem dX15_ask_101 : decode cX15_ask 101 = .ok (.iload 7, 2) := by decide +kernel
theorem dX15_ask_103 : decode cX15_ask 103 = .ok (.iadd, 1) := by decide +kernel
theorem dX15_ask_104 : decode cX15_ask 104 = .ok (.iconst (-1), 1) := by decide +kernel
theorem dX15_ask_105 : decode cX15_ask 105 = .ok (.invokevirtual 237, 3) := by decide +kernel
theorem dX15_ask_108 : decode cX15_ask 108 = .ok (.istore 6, 2) := by decide +kernel
theorem dX15_ask_110 : decode cX15_ask 110 = .ok (.iinc 7 1, 3) := by decide +kernel
theorem dX15_ask_113 : decode cX15_ask 113 = .ok (.goto (-31), 3) := by decide +kernel
theorem dX15_ask_116 : decode cX15_ask 116 = .ok (.aload_n 0, 1) := by decide +kernel
theorem dX15_ask_117 : decode cX15_ask 117 = .ok (.getfield 198, 3) := by decide +kernel
theorem dX15_ask_120 : decode cX15_ask 120 = .ok (.ifCond .le 7, 3) := by decide +kernel
theorem dX15_ask_127 : decode cX15_ask 127 = .ok (.iload 6, 2) := by decide +kernel
theorem dX15_ask_129 : decode cX15_ask 129 = .ok (.ifCond .eq 7, 3) := by decide +kernel
theorem dX15_ask_136 : decode cX15_ask 136 = .ok (.iconst 1, 1) := by decide +kernel
theorem dX15_ask_137 : decode cX15_ask 137 = .ok (.ireturn, 1) := by decide +kernel
theorem dX15_ask_132 : decode cX15_ask 132 = .ok (.iconst 2, 1) := by decide +kernel
theorem dX15_ask_133 : decode cX15_ask 133 = .ok (.goto 4, 3) := by decide +kernel
theorem dX15_ask_123 : decode cX15_ask 123 = .ok (.iconst 3, 1) := by decide +kernel
theorem dX15_ask_124 : decode cX15_ask 124 = .ok (.goto 13, 3) := by decide +kernel
theorem dX15_ask_72 : decode cX15_ask 72 = .ok (.iconst 1, 1) := by decide +kernel
theorem dX15_ask_73 : decode cX15_ask 73 = .ok (.goto 4, 3) := by decide +kernel
theorem dX15_ask_61 : decode cX15_ask 61 = .ok (.iconst 0, 1) := by decide +kernel
theorem dX15_ask_62 : decode cX15_ask 62 = .ok (.ireturn, 1) := by decide +kernel
theorem dX15_ask_54 : decode cX15_ask 54 = .ok (.iconst 3, 1) := by decide +kernel
theorem dX15_ask_55 : decode cX15_ask 55 = .ok (.ireturn, 1) := by decide +kernel
theorem dX15_ask_37 : decode cX15_ask 37 = .ok (.iload_n 1, 1) := by decide +kernel
theorem dX15_ask_38 : decode cX15_ask 38 = .ok (.goto 4, 3) := by decide +kernel
theorem dX15_ask_20 : decode cX15_ask 20 = .ok (.iconst 4, 1) := by decide +kernel
theorem dX15_ask_21 : decode cX15_ask 21 = .ok (.ireturn, 1) := by decide +kernel
theorem dX15_run_0 : decode cX15_run 0 = .ok (.aload_n 0, 1) := by decide +kernel
theorem dX15_run_1 : decode cX15_run 1 = .ok (.iload_n 1, 1) := by decide +kernel
theorem dX15_run_2 : decode cX15_run 2 = .ok (.putfield 50, 3) := by decide +kernel
theorem dX15_run_5 : decode cX15_run 5 = .ok (.iconst 0, 1) := by decide +kernel
theorem dX15_run_6 : decode cX15_run 6 = .ok (.istore_n 2, 1) := by decide +kernel
theorem dX15_run_7 : decode cX15_run 7 = .ok (.iconst 0, 1) := by decide +kernel
theorem dX15_run_8 : decode cX15_run 8 = .ok (.istore_n 3, 1) := by decide +kernel
theorem dX15_run_9 : decode cX15_run 9 = .ok (.iload_n 3, 1) := by decide +kernel
theorem dX15_run_10 : decode cX15_run 10 = .ok (.aload_n 0, 1) := by decide +kernel
theorem dX15_run_11 : decode cX15_run 11 = .ok (.getfield 174, 3) := by decide +kernel
theorem dX15_run_14 : decode cX15_run 14 = .ok (.if_icmp .ge 88, 3) := by decide +kernel
theorem dX15_run_17 : decode cX15_run 17 = .ok (.aload_n 0, 1) := by decide +kernel
theorem dX15_run_18 : decode cX15_run 18 = .ok (.getfield 57, 3) := by decide +kernel
theorem dX15_run_21 : decode cX15_run 21 = .ok (.iload_n 3, 1) := by decide +kernel
theorem dX15_run_22 : decode cX15_run 22 = .ok (.lconst 0, 1) := by decide +kernel
theorem dX15_run_23 : decode cX15_run 23 = .ok (.lastore, 1) := by decide +kernel
theorem dX15_run_24 : decode cX15_run 24 = .ok (.aload_n 0, 1) := by decide +kernel
theorem dX15_run_25 : decode cX15_run 25 = .ok (.getfield 60, 3) := by decide +kernel
theorem dX15_run_28 : decode cX15_run 28 = .ok (.iload_n 3, 1) := by decide +kernel
theorem dX15_run_29 : decode cX15_run 29 = .ok (.lconst 0, 1) := by decide +kernel
theorem dX15_run_30 : decode cX15_run 30 = .ok (.lastore, 1) := by decide +kernel
theorem dX15_run_31 : decode cX15_run 31 = .ok (.aload_n 0, 1) := by decide +kernel
theorem dX15_run_32 : decode cX15_run 32 = .ok (.getfield 63, 3) := by decide +kernel
theorem dX15_run_35 : decode cX15_run 35 = .ok (.iload_n 3, 1) := by decide +kernel
theorem dX15_run_36 : decode cX15_run 36 = .ok (.lconst 0, 1) := by decide +kernel
theorem dX15_run_37 : decode cX15_run 37 = .ok (.lastore, 1) := by decide +kernel
theorem dX15_run_38 : decode cX15_run 38 = .ok (.aload_n 0, 1) := by decide +kernel
theorem dX15_run_39 : decode cX15_run 39 = .ok (.getfield 66, 3) := by decide +kernel
theorem dX15_run_42 : decode cX15_run 42 = .ok (.iload_n 3, 1) := by decide +kernel
theorem dX15_run_43 : decode cX15_run 43 = .ok (.lconst 0, 1) := by decide +kernel
theorem dX15_run_44 : decode cX15_run 44 = .ok (.lastore, 1) := by decide +kernel
theorem dX15_run_45 : decode cX15_run 45 = .ok (.aload_n 0, 1) := by decide +kernel
theorem dX15_run_46 : decode cX15_run 46 = .ok (.getfield 54, 3) := by decide +kernel
theorem dX15_run_49 : decode cX15_run 49 = .ok (.iload_n 3, 1) := by decide +kernel
theorem dX15_run_50 : decode cX15_run 50 = .ok (.aload_n 0, 1) := by decide +kernel
theorem dX15_run_51 : decode cX15_run 51 = .ok (.iload_n 3, 1) := by decide +kernel
theorem dX15_run_52 : decode cX15_run 52 = .ok (.iload_n 1, 1) := by decide +kernel
theorem dX15_run_53 : decode cX15_run 53 = .ok (.iconst 1, 1) := by decide +kernel
theorem dX15_run_54 : decode cX15_run 54 = .ok (.invokevirtual 241, 3) := by decide +kernel
theorem dX15_run_57 : decode cX15_run 57 = .ok (.iastore, 1) := by decide +kernel
theorem dX15_run_58 : decode cX15_run 58 = .ok (.aload_n 0, 1) := by decide +kernel
theorem dX15_run_59 : decode cX15_run 59 = .ok (.getfield 69, 3) := by decide +kernel
theorem dX15_run_62 : decode cX15_run 62 = .ok (.iload_n 3, 1) := by decide +kernel
theorem dX15_run_63 : decode cX15_run 63 = .ok (.aload_n 0, 1) := by decide +kernel
theorem dX15_run_64 : decode cX15_run 64 = .ok (.getfield 198, 3) := by decide +kernel
theorem dX15_run_67 : decode cX15_run 67 = .ok (.iastore, 1) := by decide +kernel
theorem dX15_run_68 : decode cX15_run 68 = .ok (.aload_n 0, 1) := by decide +kernel
theorem dX15_run_69 : decode cX15_run 69 = .ok (.getfield 72, 3) := by decide +kernel
theorem dX15_run_72 : decode cX15_run 72 = .ok (.iload_n 3, 1) := by decide +kernel
theorem dX15_run_73 : decode cX15_run 73 = .ok (.aload_n 0, 1) := by decide +kernel
theorem dX15_run_74 : decode cX15_run 74 = .ok (.getfield 201, 3) := by decide +kernel
theorem dX15_run_77 : decode cX15_run 77 = .ok (.lastore, 1) := by decide +kernel
theorem dX15_run_78 : decode cX15_run 78 = .ok (.iload_n 2, 1) := by decide +kernel
theorem dX15_run_79 : decode cX15_run 79 = .ok (.aload_n 0, 1) := by decide +kernel
theorem dX15_run_80 : decode cX15_run 80 = .ok (.getfield 54, 3) := by decide +kernel
theorem dX15_run_83 : decode cX15_run 83 = .ok (.iload_n 3, 1) := by decide +kernel
theorem dX15_run_84 : decode cX15_run 84 = .ok (.iaload, 1) := by decide +kernel
theorem dX15_run_85 : decode cX15_run 85 = .ok (.iconst 1, 1) := by decide +kernel
theorem dX15_run_86 : decode cX15_run 86 = .ok (.if_icmp .ne 7, 3) := by decide +kernel
theorem dX15_run_93 : decode cX15_run 93 = .ok (.iconst 0, 1) := by decide +kernel
theorem dX15_run_94 : decode cX15_run 94 = .ok (.iadd, 1) := by decide +kernel
theorem dX15_run_95 : decode cX15_run 95 = .ok (.istore_n 2, 1) := by decide +kernel
theorem dX15_run_96 : decode cX15_run 96 = .ok (.iinc 3 1, 3) := by decide +kernel
theorem dX15_run_99 : decode cX15_run 99 = .ok (.goto (-90), 3) := by decide +kernel
theorem dX15_run_89 : decode cX15_run 89 = .ok (.iconst 1, 1) := by decide +kernel
theorem dX15_run_90 : decode cX15_run 90 = .ok (.goto 4, 3) := by decide +kernel
theorem dX15_run_102 : decode cX15_run 102 = .ok (.iload_n 2, 1) := by decide +kernel
theorem dX15_run_103 : decode cX15_run 103 = .ok (.ireturn, 1) := by decide +kernel
theorem dX15_told_0 : decode cX15_told 0 = .ok (.iload_n 2, 1) := by decide +kernel
theorem dX15_told_1 : decode cX15_told 1 = .ok (.tableswitch 83 0 5 #[39, 47, 54, 61, 68, 75], 39) := by decide +kernel
theorem dX15_told_84 : decode cX15_told 84 = .ok (.aload_n 0, 1) := by decide +kernel
theorem dX15_told_85 : decode cX15_told 85 = .ok (.getfield 72, 3) := by decide +kernel
theorem dX15_told_88 : decode cX15_told 88 = .ok (.iload_n 1, 1) := by decide +kernel
theorem dX15_told_89 : decode cX15_told 89 = .ok (.laload, 1) := by decide +kernel
theorem dX15_told_90 : decode cX15_told 90 = .ok (.lreturn, 1) := by decide +kernel
theorem dX15_told_40 : decode cX15_told 40 = .ok (.aload_n 0, 1) := by decide +kernel
theorem dX15_told_41 : decode cX15_told 41 = .ok (.getfield 54, 3) := by decide +kernel
theorem dX15_told_44 : decode cX15_told 44 = .ok (.iload_n 1, 1) := by decide +kernel
theorem dX15_told_45 : decode cX15_told 45 = .ok (.iaload, 1) := by decide +kernel
theorem dX15_told_46 : decode cX15_told 46 = .ok (.i2l, 1) := by decide +kernel
theorem dX15_told_47 : decode cX15_told 47 = .ok (.lreturn, 1) := by decide +kernel
theorem dX15_told_48 : decode cX15_told 48 = .ok (.aload_n 0, 1) := by decide +kernel
theorem dX15_told_49 : decode cX15_told 49 = .ok (.getfield 57, 3) := by decide +kernel
theorem dX15_told_52 : decode cX15_told 52 = .ok (.iload_n 1, 1) := by decide +kernel
theorem dX15_told_53 : decode cX15_told 53 = .ok (.laload, 1) := by decide +kernel
theorem dX15_told_54 : decode cX15_told 54 = .ok (.lreturn, 1) := by decide +kernel
theorem dX15_told_55 : decode cX15_told 55 = .ok (.aload_n 0, 1) := by decide +kernel
theorem dX15_told_56 : decode cX15_told 56 = .ok (.getfield 60, 3) := by decide +kernel
theorem dX15_told_59 : decode cX15_told 59 = .ok (.iload_n 1, 1) := by decide +kernel
theorem dX15_told_60 : decode cX15_told 60 = .ok (.laload, 1) := by decide +kernel
theorem dX15_told_61 : decode cX15_told 61 = .ok (.lreturn, 1) := by decide +kernel
theorem dX15_told_62 : decode cX15_told 62 = .ok (.aload_n 0, 1) := by decide +kernel
theorem dX15_told_63 : decode cX15_told 63 = .ok (.getfield 63, 3) := by decide +kernel
theorem dX15_told_66 : decode cX15_told 66 = .ok (.iload_n 1, 1) := by decide +kernel
theorem dX15_told_67 : decode cX15_told 67 = .ok (.laload, 1) := by decide +kernel
theorem dX15_told_68 : decode cX15_told 68 = .ok (.lreturn, 1) := by decide +kernel
theorem dX15_told_69 : decode cX15_told 69 = .ok (.aload_n 0, 1) := by decide +kernel
theorem dX15_told_70 : decode cX15_told 70 = .ok (.getfield 66, 3) := by decide +kernel
theorem dX15_told_73 : decode cX15_told 73 = .ok (.iload_n 1, 1) := by decide +kernel
theorem dX15_told_74 : decode cX15_told 74 = .ok (.laload, 1) := by decide +kernel
theorem dX15_told_75 : decode cX15_told 75 = .ok (.lreturn, 1) := by decide +kernel
theorem dX15_told_76 : decode cX15_told 76 = .ok (.aload_n 0, 1) := by decide +kernel
theorem dX15_told_77 : decode cX15_told 77 = .ok (.getfield 69, 3) := by decide +kernel
theorem dX15_told_80 : decode cX15_told 80 = .ok (.iload_n 1, 1) := by decide +kernel
theorem dX15_told_81 : decode cX15_told 81 = .ok (.iaload, 1) := by decide +kernel
theorem dX15_told_82 : decode cX15_told 82 = .ok (.i2l, 1) := by decide +kernel
theorem dX15_told_83 : decode cX15_told 83 = .ok (.lreturn, 1) := by decide +kernel
theorem dX16_init_0 : decode cX16_init 0 = .ok (.aload_n 0, 1) := by decide +kernel
theorem dX16_init_1 : decode cX16_init 1 = .ok (.invokespecial 1, 3) := by decide +kernel
theorem dX16_init_4 : decode cX16_init 4 = .ok (.aload_n 0, 1) := by decide +kernel
theorem dX16_init_5 : decode cX16_init 5 = .ok (.bipush 20, 2) := by decide +kernel
theorem dX16_init_7 : decode cX16_init 7 = .ok (.newarray .int, 2) := by decide +kernel
theorem dX16_init_9 : decode cX16_init 9 = .ok (.putfield 7, 3) := by decide +kernel
theorem dX16_init_12 : decode cX16_init 12 = .ok (.aload_n 0, 1) := by decide +kernel
theorem dX16_init_13 : decode cX16_init 13 = .ok (.bipush 20, 2) := by decide +kernel
theorem dX16_init_15 : decode cX16_init 15 = .ok (.newarray .int, 2) := by decide +kernel
theorem dX16_init_17 : decode cX16_init 17 = .ok (.putfield 13, 3) := by decide +kernel
theorem dX16_init_20 : decode cX16_init 20 = .ok (.aload_n 0, 1) := by decide +kernel
theorem dX16_init_21 : decode cX16_init 21 = .ok (.bipush 20, 2) := by decide +kernel
theorem dX16_init_23 : decode cX16_init 23 = .ok (.newarray .boolean, 2) := by decide +kernel
theorem dX16_init_25 : decode cX16_init 25 = .ok (.putfield 16, 3) := by decide +kernel
theorem dX16_init_28 : decode cX16_init 28 = .ok (.aload_n 0, 1) := by decide +kernel
theorem dX16_init_29 : decode cX16_init 29 = .ok (.bipush 20, 2) := by decide +kernel
theorem dX16_init_31 : decode cX16_init 31 = .ok (.newarray .int, 2) := by decide +kernel
theorem dX16_init_33 : decode cX16_init 33 = .ok (.putfield 20, 3) := by decide +kernel
theorem dX16_init_36 : decode cX16_init 36 = .ok (.aload_n 0, 1) := by decide +kernel
theorem dX16_init_37 : decode cX16_init 37 = .ok (.bipush 20, 2) := by decide +kernel
theorem dX16_init_39 : decode cX16_init 39 = .ok (.newarray .int, 2) := by decide +kernel
theorem dX16_init_41 : decode cX16_init 41 = .ok (.putfield 23, 3) := by decide +kernel
theorem dX16_init_44 : decode cX16_init 44 = .ok (.aload_n 0, 1) := by decide +kernel
theorem dX16_init_45 : decode cX16_init 45 = .ok (.bipush 120, 2) := by decide +kernel
theorem dX16_init_47 : decode cX16_init 47 = .ok (.newarray .int, 2) := by decide +kernel
theorem dX16_init_49 : decode cX16_init 49 = .ok (.putfield 26, 3) := by decide +kernel
theorem dX16_init_52 : decode cX16_init 52 = .ok (.aload_n 0, 1) := by decide +kernel
theorem dX16_init_53 : decode cX16_init 53 = .ok (.bipush 120, 2) := by decide +kernel
theorem dX16_init_55 : decode cX16_init 55 = .ok (.newarray .int, 2) := by decide +kernel
theorem dX16_init_57 : decode cX16_init 57 = .ok (.putfield 29, 3) := by decide +kernel
theorem dX16_init_60 : decode cX16_init 60 = .ok (.aload_n 0, 1) := by decide +kernel
theorem dX16_init_61 : decode cX16_init 61 = .ok (.bipush 120, 2) := by decide +kernel
theorem dX16_init_63 : decode cX16_init 63 = .ok (.newarray .int, 2) := by decide +kernel
theorem dX16_init_65 : decode cX16_init 65 = .ok (.putfield 32, 3) := by decide +kernel
theorem dX16_init_68 : decode cX16_init 68 = .ok (.aload_n 0, 1) := by decide +kernel
theorem dX16_init_69 : decode cX16_init 69 = .ok (.bipush 40, 2) := by decide +kernel
theorem dX16_init_71 : decode cX16_init 71 = .ok (.newarray .int, 2) := by decide +kernel
theorem dX16_init_73 : decode cX16_init 73 = .ok (.putfield 35, 3) := by decide +kernel
theorem dX16_init_76 : decode cX16_init 76 = .ok (.aload_n 0, 1) := by decide +kernel
theorem dX16_init_77 : decode cX16_init 77 = .ok (.bipush 40, 2) := by decide +kernel
theorem dX16_init_79 : decode cX16_init 79 = .ok (.newarray .int, 2) := by decide +kernel
theorem dX16_init_81 : decode cX16_init 81 = .ok (.putfield 38, 3) := by decide +kernel
theorem dX16_init_84 : decode cX16_init 84 = .ok (.aload_n 0, 1) := by decide +kernel
theorem dX16_init_85 : decode cX16_init 85 = .ok (.sipush 1764, 3) := by decide +kernel
theorem dX16_init_88 : decode cX16_init 88 = .ok (.newarray .int, 2) := by decide +kernel
theorem dX16_init_90 : decode cX16_init 90 = .ok (.putfield 41, 3) := by decide +kernel
theorem dX16_init_93 : decode cX16_init 93 = .ok (.aload_n 0, 1) := by decide +kernel
theorem dX16_init_94 : decode cX16_init 94 = .ok (.bipush 40, 2) := by decide +kernel
theorem dX16_init_96 : decode cX16_init 96 = .ok (.newarray .int, 2) := by decide +kernel
theorem dX16_init_98 : decode cX16_init 98 = .ok (.putfield 44, 3) := by decide +kernel
theorem dX16_init_101 : decode cX16_init 101 = .ok (.aload_n 0, 1) := by decide +kernel
theorem dX16_init_102 : decode cX16_init 102 = .ok (.bipush 40, 2) := by decide +kernel
theorem dX16_init_104 : decode cX16_init 104 = .ok (.newarray .int, 2) := by decide +kernel
theorem dX16_init_106 : decode cX16_init 106 = .ok (.putfield 47, 3) := by decide +kernel
theorem dX16_init_109 : decode cX16_init 109 = .ok (.aload_n 0, 1) := by decide +kernel
theorem dX16_init_110 : decode cX16_init 110 = .ok (.sipush 1764, 3) := by decide +kernel
theorem dX16_init_113 : decode cX16_init 113 = .ok (.newarray .int, 2) := by decide +kernel
theorem dX16_init_115 : decode cX16_init 115 = .ok (.putfield 50, 3) := by decide +kernel
theorem dX16_init_118 : decode cX16_init 118 = .ok (.aload_n 0, 1) := by decide +kernel
theorem dX16_init_119 : decode cX16_init 119 = .ok (.sipush 400, 3) := by decide +kernel
theorem dX16_init_122 : decode cX16_init 122 = .ok (.newarray .int, 2) := by decide +kernel
theorem dX16_init_124 : decode cX16_init 124 = .ok (.putfield 53, 3) := by decide +kernel
theorem dX16_init_127 : decode cX16_init 127 = .ok (.aload_n 0, 1) := by decide +kernel
theorem dX16_init_128 : decode cX16_init 128 = .ok (.sipush 400, 3) := by decide +kernel
theorem dX16_init_131 : decode cX16_init 131 = .ok (.newarray .int, 2) := by decide +kernel
theorem dX16_init_133 : decode cX16_init 133 = .ok (.putfield 56, 3) := by decide +kernel
theorem dX16_init_136 : decode cX16_init 136 = .ok (.aload_n 0, 1) := by decide +kernel
theorem dX16_init_137 : decode cX16_init 137 = .ok (.sipush 460, 3) := by decide +kernel
theorem dX16_init_140 : decode cX16_init 140 = .ok (.newarray .int, 2) := by decide +kernel
theorem dX16_init_142 : decode cX16_init 142 = .ok (.putfield 59, 3) := by decide +kernel
theorem dX16_init_145 : decode cX16_init 145 = .ok (.aload_n 0, 1) := by decide +kernel
theorem dX16_init_146 : decode cX16_init 146 = .ok (.sipush 460, 3) := by decide +kernel
theorem dX16_init_149 : decode cX16_init 149 = .ok (.newarray .int, 2) := by decide +kernel
theorem dX16_init_151 : decode cX16_init 151 = .ok (.putfield 62, 3) := by decide +kernel
theorem dX16_init_154 : decode cX16_init 154 = .ok (.aload_n 0, 1) := by decide +kernel
theorem dX16_init_155 : decode cX16_init 155 = .ok (.sipush 460, 3) := by decide +kernel
theorem dX16_init_158 : decode cX16_init 158 = .ok (.newarray .int, 2) := by decide +kernel
theorem dX16_init_160 : decode cX16_init 160 = .ok (.putfield 65, 3) := by decide +kernel
theorem dX16_init_163 : decode cX16_init 163 = .ok (.aload_n 0, 1) := by decide +kernel
theorem dX16_init_164 : decode cX16_init 164 = .ok (.sipush 460, 3) := by decide +kernel
theorem dX16_init_167 : decode cX16_init 167 = .ok (.newarray .int, 2) := by decide +kernel
theorem dX16_init_169 : decode cX16_init 169 = .ok (.putfield 68, 3) := by decide +kernel
theorem dX16_init_172 : decode cX16_init 172 = .ok (.aload_n 0, 1) := by decide +kernel
theorem dX16_init_173 : decode cX16_init 173 = .ok (.sipush 460, 3) := by decide +kernel
theorem dX16_init_176 : decode cX16_init 176 = .ok (.newarray .int, 2) := by decide +kernel
theorem dX16_init_178 : decode cX16_init 178 = .ok (.putfield 71, 3) := by decide +kernel
theorem dX16_init_181 : decode cX16_init 181 = .ok (.aload_n 0, 1) := by decide +kernel
theorem dX16_init_182 : decode cX16_init 182 = .ok (.sipush 920, 3) := by decide +kernel
theorem dX16_init_185 : decode cX16_init 185 = .ok (.newarray .boolean, 2) := by decide +kernel
theorem dX16_init_187 : decode cX16_init 187 = .ok (.putfield 74, 3) := by decide +kernel
theorem dX16_init_190 : decode cX16_init 190 = .ok (.aload_n 0, 1) := by decide +kernel
theorem dX16_init_191 : decode cX16_init 191 = .ok (.sipush 460, 3) := by decide +kernel
theorem dX16_init_194 : decode cX16_init 194 = .ok (.newarray .int, 2) := by decide +kernel
theorem dX16_init_196 : decode cX16_init 196 = .ok (.putfield 77, 3) := by decide +kernel
theorem dX16_init_199 : decode cX16_init 199 = .ok (.aload_n 0, 1) := by decide +kernel
theorem dX16_init_200 : decode cX16_init 200 = .ok (.sipush 460, 3) := by decide +kernel
theorem dX16_init_203 : decode cX16_init 203 = .ok (.newarray .int, 2) := by decide +kernel
theorem dX16_init_205 : decode cX16_init 205 = .ok (.putfield 80, 3) := by decide +kernel
theorem dX16_init_208 : decode cX16_init 208 = .ok (.aload_n 0, 1) := by decide +kernel
theorem dX16_init_209 : decode cX16_init 209 = .ok (.sipush 1764, 3) := by decide +kernel
theorem dX16_init_212 : decode cX16_init 212 = .ok (.newarray .int, 2) := by decide +kernel
theorem dX16_init_214 : decode cX16_init 214 = .ok (.putfield 83, 3) := by decide +kernel
theorem dX16_init_217 : decode cX16_init 217 = .ok (.aload_n 0, 1) := by decide +kernel
theorem dX16_init_218 : decode cX16_init 218 = .ok (.sipush 401, 3) := by decide +kernel
theorem dX16_init_221 : decode cX16_init 221 = .ok (.newarray .int, 2) := by decide +kernel
theorem dX16_init_223 : decode cX16_init 223 = .ok (.putfield 86, 3) := by decide +kernel
theorem dX16_init_226 : decode cX16_init 226 = .ok (.return_, 1) := by decide +kernel
theorem dX16_highX_0 : decode cX16_highX 0 = .ok (.aload_n 0, 1) := by decide +kernel
theorem dX16_highX_1 : decode cX16_highX 1 = .ok (.getfield 7, 3) := by decide +kernel
theorem dX16_highX_4 : decode cX16_highX 4 = .ok (.iload_n 1, 1) := by decide +kernel
theorem dX16_highX_5 : decode cX16_highX 5 = .ok (.iaload, 1) := by decide +kernel
theorem dX16_highX_6 : decode cX16_highX 6 = .ok (.aload_n 0, 1) := by decide +kernel
theorem dX16_highX_7 : decode cX16_highX 7 = .ok (.getfield 16, 3) := by decide +kernel
theorem dX16_highX_10 : decode cX16_highX 10 = .ok (.iload_n 1, 1) := by decide +kernel
theorem dX16_highX_11 : decode cX16_highX 11 = .ok (.baload, 1) := by decide +kernel
theorem dX16_highX_12 : decode cX16_highX 12 = .ok (.ifCond .eq 12, 3) := by decide +kernel
theorem dX16_highX_24 : decode cX16_highX 24 = .ok (.iconst 0, 1) := by decide +kernel
theorem dX16_highX_25 : decode cX16_highX 25 = .ok (.iadd, 1) := by decide +kernel
theorem dX16_highX_26 : decode cX16_highX 26 = .ok (.ireturn, 1) := by decide +kernel
theorem dX16_highX_15 : decode cX16_highX 15 = .ok (.aload_n 0, 1) := by decide +kernel
theorem dX16_highX_16 : decode cX16_highX 16 = .ok (.getfield 20, 3) := by decide +kernel
theorem dX16_highX_19 : decode cX16_highX 19 = .ok (.iload_n 1, 1) := by decide +kernel
theorem dX16_highX_20 : decode cX16_highX 20 = .ok (.iaload, 1) := by decide +kernel
theorem dX16_highX_21 : decode cX16_highX 21 = .ok (.goto 4, 3) := by decide +kernel
theorem dX16_highY_0 : decode cX16_highY 0 = .ok (.aload_n 0, 1) := by decide +kernel
theorem dX16_highY_1 : decode cX16_highY 1 = .ok (.getfield 13, 3) := by decide +kernel
theorem dX16_highY_4 : decode cX16_highY 4 = .ok (.iload_n 1, 1) := by decide +kernel
theorem dX16_highY_5 : decode cX16_highY 5 = .ok (.iaload, 1) := by decide +kernel
theorem dX16_highY_6 : decode cX16_highY 6 = .ok (.aload_n 0, 1) := by decide +kernel
theorem dX16_highY_7 : decode cX16_highY 7 = .ok (.getfield 16, 3) := by decide +kernel
theorem dX16_highY_10 : decode cX16_highY 10 = .ok (.iload_n 1, 1) := by decide +kernel
theorem dX16_highY_11 : decode cX16_highY 11 = .ok (.baload, 1) := by decide +kernel
theorem dX16_highY_12 : decode cX16_highY 12 = .ok (.ifCond .eq 7, 3) := by decide +kernel
theorem dX16_highY_19 : decode cX16_highY 19 = .ok (.aload_n 0, 1) := by decide +kernel
theorem dX16_highY_20 : decode cX16_highY 20 = .ok (.getfield 20, 3) := by decide +kernel
theorem dX16_highY_23 : decode cX16_highY 23 = .ok (.iload_n 1, 1) := by decide +kernel
theorem dX16_highY_24 : decode cX16_highY 24 = .ok (.iaload, 1) := by decide +kernel
theorem dX16_highY_25 : decode cX16_highY 25 = .ok (.iadd, 1) := by decide +kernel
theorem dX16_highY_26 : decode cX16_highY 26 = .ok (.ireturn, 1) := by decide +kernel
theorem dX16_highY_15 : decode cX16_highY 15 = .ok (.iconst 0, 1) := by decide +kernel
theorem dX16_highY_16 : decode cX16_highY 16 = .ok (.goto 9, 3) := by decide +kernel
theorem dX16_isOn_0 : decode cX16_isOn 0 = .ok (.iload_n 2, 1) := by decide +kernel
theorem dX16_isOn_1 : decode cX16_isOn 1 = .ok (.aload_n 0, 1) := by decide +kernel
theorem dX16_isOn_2 : decode cX16_isOn 2 = .ok (.getfield 7, 3) := by decide +kernel
theorem dX16_isOn_5 : decode cX16_isOn 5 = .ok (.iload_n 1, 1) := by decide +kernel
theorem dX16_isOn_6 : decode cX16_isOn 6 = .ok (.iaload, 1) := by decide +kernel
theorem dX16_isOn_7 : decode cX16_isOn 7 = .ok (.if_icmp .lt 35, 3) := by decide +kernel
theorem dX16_isOn_42 : decode cX16_isOn 42 = .ok (.iconst 0, 1) := by decide +kernel
theorem dX16_isOn_43 : decode cX16_isOn 43 = .ok (.ireturn, 1) := by decide +kernel
theorem dX16_isOn_10 : decode cX16_isOn 10 = .ok (.iload_n 2, 1) := by decide +kernel
theorem dX16_isOn_11 : decode cX16_isOn 11 = .ok (.aload_n 0, 1) := by decide +kernel
theorem dX16_isOn_12 : decode cX16_isOn 12 = .ok (.iload_n 1, 1) := by decide +kernel
theorem dX16_isOn_13 : decode cX16_isOn 13 = .ok (.invokevirtual 89, 3) := by decide +kernel
theorem dX16_isOn_16 : decode cX16_isOn 16 = .ok (.if_icmp .gt 26, 3) := by decide +kernel
theorem dX16_isOn_19 : decode cX16_isOn 19 = .ok (.iload_n 3, 1) := by decide +kernel
theorem dX16_isOn_20 : decode cX16_isOn 20 = .ok (.aload_n 0, 1) := by decide +kernel
theorem dX16_isOn_21 : decode cX16_isOn 21 = .ok (.getfield 13, 3) := by decide +kernel
theorem dX16_isOn_24 : decode cX16_isOn 24 = .ok (.iload_n 1, 1) := by decide +kernel
theorem dX16_isOn_25 : decode cX16_isOn 25 = .ok (.iaload, 1) := by decide +kernel
theorem dX16_isOn_26 : decode cX16_isOn 26 = .ok (.if_icmp .lt 16, 3) := by decide +kernel
theorem dX16_isOn_29 : decode cX16_isOn 29 = .ok (.iload_n 3, 1) := by decide +kernel
theorem dX16_isOn_30 : decode cX16_isOn 30 = .ok (.aload_n 0, 1) := by decide +kernel
theorem dX16_isOn_31 : decode cX16_isOn 31 = .ok (.iload_n 1, 1) := by decide +kernel
theorem dX16_isOn_32 : decode cX16_isOn 32 = .ok (.invokevirtual 93, 3) := by decide +kernel
theorem dX16_isOn_35 : decode cX16_isOn 35 = .ok (.if_icmp .gt 7, 3) := by decide +kernel
theorem dX16_isOn_38 : decode cX16_isOn 38 = .ok (.iconst 1, 1) := by decide +kernel
theorem dX16_isOn_39 : decode cX16_isOn 39 = .ok (.goto 4, 3) := by decide +kernel
theorem dX16_along_0 : decode cX16_along 0 = .ok (.aload_n 0, 1) := by decide +kernel
theorem dX16_along_1 : decode cX16_along 1 = .ok (.getfield 16, 3) := by decide +kernel
theorem dX16_along_4 : decode cX16_along 4 = .ok (.iload_n 1, 1) := by decide +kernel
theorem dX16_along_5 : decode cX16_along 5 = .ok (.baload, 1) := by decide +kernel
theorem dX16_along_6 : decode cX16_along 6 = .ok (.aload_n 0, 1) := by decide +kernel
theorem dX16_along_7 : decode cX16_along 7 = .ok (.getfield 16, 3) := by decide +kernel
theorem dX16_along_10 : decode cX16_along 10 = .ok (.iload_n 2, 1) := by decide +kernel
theorem dX16_along_11 : decode cX16_along 11 = .ok (.baload, 1) := by decide +kernel
theorem dX16_along_12 : decode cX16_along 12 = .ok (.if_icmp .ne 45, 3) := by decide +kernel
theorem dX16_along_57 : decode cX16_along 57 = .ok (.iconst (-1), 1) := by decide +kernel
theorem dX16_along_58 : decode cX16_along 58 = .ok (.ireturn, 1) := by decide +kernel
theorem dX16_along_15 : decode cX16_along 15 = .ok (.aload_n 0, 1) := by decide +kernel
theorem dX16_along_16 : decode cX16_along 16 = .ok (.getfield 16, 3) := by decide +kernel
theorem dX16_along_19 : decode cX16_along 19 = .ok (.iload_n 1, 1) := by decide +kernel
theorem dX16_along_20 : decode cX16_along 20 = .ok (.baload, 1) := by decide +kernel
theorem dX16_along_21 : decode cX16_along 21 = .ok (.ifCond .eq 21, 3) := by decide +kernel
theorem dX16_along_42 : decode cX16_along 42 = .ok (.aload_n 0, 1) := by decide +kernel
theorem dX16_along_43 : decode cX16_along 43 = .ok (.getfield 7, 3) := by decide +kernel
theorem dX16_along_46 : decode cX16_along 46 = .ok (.iload_n 1, 1) := by decide +kernel
theorem dX16_along_47 : decode cX16_along 47 = .ok (.iaload, 1) := by decide +kernel
theorem dX16_along_48 : decode cX16_along 48 = .ok (.aload_n 0, 1) := by decide +kernel
theorem dX16_along_49 : decode cX16_along 49 = .ok (.getfield 7, 3) := by decide +kernel
theorem dX16_along_52 : decode cX16_along 52 = .ok (.iload_n 2, 1) := by decide +kernel
theorem dX16_along_53 : decode cX16_along 53 = .ok (.iaload, 1) := by decide +kernel
theorem dX16_along_54 : decode cX16_along 54 = .ok (.if_icmp .eq 5, 3) := by decide +kernel
theorem dX16_along_59 : decode cX16_along 59 = .ok (.aload_n 0, 1) := by decide +kernel
theorem dX16_along_60 : decode cX16_along 60 = .ok (.getfield 16, 3) := by decide +kernel
theorem dX16_along_63 : decode cX16_along 63 = .ok (.iload_n 1, 1) := by decide +kernel
theorem dX16_along_64 : decode cX16_along 64 = .ok (.baload, 1) := by decide +kernel
theorem dX16_along_65 : decode cX16_along 65 = .ok (.ifCond .eq 36, 3) := by decide +kernel
theorem dX16_along_101 : decode cX16_along 101 = .ok (.aload_n 0, 1) := by decide +kernel
theorem dX16_along_102 : decode cX16_along 102 = .ok (.getfield 13, 3) := by decide +kernel
theorem dX16_along_105 : decode cX16_along 105 = .ok (.iload_n 1, 1) := by decide +kernel
theorem dX16_along_106 : decode cX16_along 106 = .ok (.iaload, 1) := by decide +kernel
theorem dX16_along_107 : decode cX16_along 107 = .ok (.aload_n 0, 1) := by decide +kernel
theorem dX16_along_108 : decode cX16_along 108 = .ok (.getfield 13, 3) := by decide +kernel
theorem dX16_along_111 : decode cX16_along 111 = .ok (.iload_n 2, 1) := by decide +kernel
theorem dX16_along_112 : decode cX16_along 112 = .ok (.iaload, 1) := by decide +kernel
theorem dX16_along_113 : decode cX16_along 113 = .ok (.if_icmp .le 12, 3) := by decide +kernel
theorem dX16_along_125 : decode cX16_along 125 = .ok (.aload_n 0, 1) := by decide +kernel
theorem dX16_along_126 : decode cX16_along 126 = .ok (.getfield 13, 3) := by decide +kernel
theorem dX16_along_129 : decode cX16_along 129 = .ok (.iload_n 2, 1) := by decide +kernel
theorem dX16_along_130 : decode cX16_along 130 = .ok (.iaload, 1) := by decide +kernel
theorem dX16_along_131 : decode cX16_along 131 = .ok (.istore_n 3, 1) := by decide +kernel
theorem dX16_along_132 : decode cX16_along 132 = .ok (.aload_n 0, 1) := by decide +kernel
theorem dX16_along_133 : decode cX16_along 133 = .ok (.getfield 16, 3) := by decide +kernel
theorem dX16_along_136 : decode cX16_along 136 = .ok (.iload_n 1, 1) := by decide +kernel
theorem dX16_along_137 : decode cX16_along 137 = .ok (.baload, 1) := by decide +kernel
theorem dX16_along_138 : decode cX16_along 138 = .ok (.ifCond .eq 32, 3) := by decide +kernel
theorem dX16_along_170 : decode cX16_along 170 = .ok (.aload_n 0, 1) := by decide +kernel
theorem dX16_along_171 : decode cX16_along 171 = .ok (.iload_n 1, 1) := by decide +kernel
theorem dX16_along_172 : decode cX16_along 172 = .ok (.invokevirtual 93, 3) := by decide +kernel
theorem dX16_along_175 : decode cX16_along 175 = .ok (.aload_n 0, 1) := by decide +kernel
theorem dX16_along_176 : decode cX16_along 176 = .ok (.iload_n 2, 1) := by decide +kernel
theorem dX16_along_177 : decode cX16_along 177 = .ok (.invokevirtual 93, 3) := by decide +kernel
theorem dX16_along_180 : decode cX16_along 180 = .ok (.if_icmp .ge 11, 3) := by decide +kernel
theorem dX16_along_191 : decode cX16_along 191 = .ok (.aload_n 0, 1) := by decide +kernel
theorem dX16_along_192 : decode cX16_along 192 = .ok (.iload_n 2, 1) := by decide +kernel
theorem dX16_along_193 : decode cX16_along 193 = .ok (.invokevirtual 93, 3) := by decide +kernel
theorem dX16_along_196 : decode cX16_along 196 = .ok (.istore 4, 2) := by decide +kernel
theorem dX16_along_198 : decode cX16_along 198 = .ok (.iload 4, 2) := by decide +kernel
theorem dX16_along_200 : decode cX16_along 200 = .ok (.iload_n 3, 1) := by decide +kernel
theorem dX16_along_201 : decode cX16_along 201 = .ok (.isub, 1) := by decide +kernel
theorem dX16_along_202 : decode cX16_along 202 = .ok (.ireturn, 1) := by decide +kernel
theorem dX16_along_183 : decode cX16_along 183 = .ok (.aload_n 0, 1) := by decide +kernel
theorem dX16_along_184 : decode cX16_along 184 = .ok (.iload_n 1, 1) := by decide +kernel
theorem dX16_along_185 : decode cX16_along 185 = .ok (.invokevirtual 93, 3) := by decide +kernel
theorem dX16_along_188 : decode cX16_along 188 = .ok (.goto 8, 3) := by decide +kernel
theorem dX16_along_141 : decode cX16_along 141 = .ok (.aload_n 0, 1) := by decide +kernel
theorem dX16_along_142 : decode cX16_along 142 = .ok (.iload_n 1, 1) := by decide +kernel
theorem dX16_along_143 : decode cX16_along 143 = .ok (.invokevirtual 89, 3) := by decide +kernel
theorem dX16_along_146 : decode cX16_along 146 = .ok (.aload_n 0, 1) := by decide +kernel
theorem dX16_along_147 : decode cX16_along 147 = .ok (.iload_n 2, 1) := by decide +kernel
theorem dX16_along_148 : decode cX16_along 148 = .ok (.invokevirtual 89, 3) := by decide +kernel
theorem dX16_along_151 : decode cX16_along 151 = .ok (.if_icmp .ge 11, 3) := by decide +kernel
theorem dX16_along_162 : decode cX16_along 162 = .ok (.aload_n 0, 1) := by decide +kernel
theorem dX16_along_163 : decode cX16_along 163 = .ok (.iload_n 2, 1) := by decide +kernel
theorem dX16_along_164 : decode cX16_along 164 = .ok (.invokevirtual 89, 3) := by decide +kernel
theorem dX16_along_167 : decode cX16_along 167 = .ok (.goto 29, 3) := by decide +kernel
theorem dX16_along_154 : decode cX16_along 154 = .ok (.aload_n 0, 1) := by decide +kernel
theorem dX16_along_155 : decode cX16_along 155 = .ok (.iload_n 1, 1) := by decide +kernel
theorem dX16_along_156 : decode cX16_along 156 = .ok (.invokevirtual 89, 3) := by decide +kernel
theorem dX16_along_159 : decode cX16_along 159 = .ok (.goto 37, 3) := by decide +kernel
theorem dX16_along_116 : decode cX16_along 116 = .ok (.aload_n 0, 1) := by decide +kernel
theorem dX16_along_117 : decode cX16_along 117 = .ok (.getfield 13, 3) := by decide +kernel
theorem dX16_along_120 : decode cX16_along 120 = .ok (.iload_n 1, 1) := by decide +kernel
theorem dX16_along_121 : decode cX16_along 121 = .ok (.iaload, 1) := by decide +kernel
theorem dX16_along_122 : decode cX16_along 122 = .ok (.goto 9, 3) := by decide +kernel
theorem dX16_along_68 : decode cX16_along 68 = .ok (.aload_n 0, 1) := by decide +kernel
theorem dX16_along_69 : decode cX16_along 69 = .ok (.getfield 7, 3) := by decide +kernel
theorem dX16_along_72 : decode cX16_along 72 = .ok (.iload_n 1, 1) := by decide +kernel
theorem dX16_along_73 : decode cX16_along 73 = .ok (.iaload, 1) := by decide +kernel
theorem dX16_along_74 : decode cX16_along 74 = .ok (.aload_n 0, 1) := by decide +kernel
theorem dX16_along_75 : decode cX16_along 75 = .ok (.getfield 7, 3) := by decide +kernel
theorem dX16_along_78 : decode cX16_along 78 = .ok (.iload_n 2, 1) := by decide +kernel
theorem dX16_along_79 : decode cX16_along 79 = .ok (.iaload, 1) := by decide +kernel
theorem dX16_along_80 : decode cX16_along 80 = .ok (.if_icmp .le 12, 3) := by decide +kernel
theorem dX16_along_92 : decode cX16_along 92 = .ok (.aload_n 0, 1) := by decide +kernel
theorem dX16_along_93 : decode cX16_along 93 = .ok (.getfield 7, 3) := by decide +kernel
theorem dX16_along_96 : decode cX16_along 96 = .ok (.iload_n 2, 1) := by decide +kernel
theorem dX16_along_97 : decode cX16_along 97 = .ok (.iaload, 1) := by decide +kernel
theorem dX16_along_98 : decode cX16_along 98 = .ok (.goto 33, 3) := by decide +kernel
theorem dX16_along_83 : decode cX16_along 83 = .ok (.aload_n 0, 1) := by decide +kernel
theorem dX16_along_84 : decode cX16_along 84 = .ok (.getfield 7, 3) := by decide +kernel
theorem dX16_along_87 : decode cX16_along 87 = .ok (.iload_n 1, 1) := by decide +kernel
theorem dX16_along_88 : decode cX16_along 88 = .ok (.iaload, 1) := by decide +kernel
theorem dX16_along_89 : decode cX16_along 89 = .ok (.goto 42, 3) := by decide +kernel
theorem dX16_along_24 : decode cX16_along 24 = .ok (.aload_n 0, 1) := by decide +kernel
theorem dX16_along_25 : decode cX16_along 25 = .ok (.getfield 13, 3) := by decide +kernel
theorem dX16_along_28 : decode cX16_along 28 = .ok (.iload_n 1, 1) := by decide +kernel
theorem dX16_along_29 : decode cX16_along 29 = .ok (.iaload, 1) := by decide +kernel
theorem dX16_along_30 : decode cX16_along 30 = .ok (.aload_n 0, 1) := by decide +kernel
theorem dX16_along_31 : decode cX16_along 31 = .ok (.getfield 13, 3) := by decide +kernel
theorem dX16_along_34 : decode cX16_along 34 = .ok (.iload_n 2, 1) := by decide +kernel
theorem dX16_along_35 : decode cX16_along 35 = .ok (.iaload, 1) := by decide +kernel
theorem dX16_along_36 : decode cX16_along 36 = .ok (.if_icmp .eq 23, 3) := by decide +kernel
theorem dX16_along_39 : decode cX16_along 39 = .ok (.goto 18, 3) := by decide +kernel
theorem dX16_isAlone_0 : decode cX16_isAlone 0 = .ok (.iconst 1, 1) := by decide +kernel
theorem dX16_isAlone_1 : decode cX16_isAlone 1 = .ok (.istore_n 2, 1) := by decide +kernel
theorem dX16_isAlone_2 : decode cX16_isAlone 2 = .ok (.iconst 0, 1) := by decide +kernel
theorem dX16_isAlone_3 : decode cX16_isAlone 3 = .ok (.istore_n 3, 1) := by decide +kernel
theorem dX16_isAlone_4 : decode cX16_isAlone 4 = .ok (.iload_n 3, 1) := by decide +kernel
theorem dX16_isAlone_5 : decode cX16_isAlone 5 = .ok (.aload_n 0, 1) := by decide +kernel
theorem dX16_isAlone_6 : decode cX16_isAlone 6 = .ok (.getfield 96, 3) := by decide +kernel
theorem dX16_isAlone_9 : decode cX16_isAlone 9 = .ok (.if_icmp .ge 34, 3) := by decide +kernel
theorem dX16_isAlone_12 : decode cX16_isAlone 12 = .ok (.iload_n 2, 1) := by decide +kernel
theorem dX16_isAlone_13 : decode cX16_isAlone 13 = .ok (.ifCond .eq 22, 3) := by decide +kernel
theorem dX16_isAlone_35 : decode cX16_isAlone 35 = .ok (.iconst 0, 1) := by decide +kernel
theorem dX16_isAlone_36 : decode cX16_isAlone 36 = .ok (.istore_n 2, 1) := by decide +kernel
theorem dX16_isAlone_37 : decode cX16_isAlone 37 = .ok (.iinc 3 1, 3) := by decide +kernel
theorem dX16_isAlone_40 : decode cX16_isAlone 40 = .ok (.goto (-36), 3) := by decide +kernel
theorem dX16_isAlone_16 : decode cX16_isAlone 16 = .ok (.iload_n 3, 1) := by decide +kernel
theorem dX16_isAlone_17 : decode cX16_isAlone 17 = .ok (.iload_n 1, 1) := by decide +kernel
theorem dX16_isAlone_18 : decode cX16_isAlone 18 = .ok (.if_icmp .eq 13, 3) := by decide +kernel
theorem dX16_isAlone_31 : decode cX16_isAlone 31 = .ok (.iconst 1, 1) := by decide +kernel
theorem dX16_isAlone_32 : decode cX16_isAlone 32 = .ok (.goto 4, 3) := by decide +kernel
theorem dX16_isAlone_21 : decode cX16_isAlone 21 = .ok (.aload_n 0, 1) := by decide +kernel
theorem dX16_isAlone_22 : decode cX16_isAlone 22 = .ok (.iload_n 3, 1) := by decide +kernel
theorem dX16_isAlone_23 : decode cX16_isAlone 23 = .ok (.iload_n 1, 1) := by decide +kernel
theorem dX16_isAlone_24 : decode cX16_isAlone 24 = .ok (.invokevirtual 100, 3) := by decide +kernel
theorem dX16_isAlone_27 : decode cX16_isAlone 27 = .ok (.iconst 1, 1) := by decide +kernel
theorem dX16_isAlone_28 : decode cX16_isAlone 28 = .ok (.if_icmp .ge 7, 3) := by decide +kernel
theorem dX16_isAlone_43 : decode cX16_isAlone 43 = .ok (.iload_n 2, 1) := by decide +kernel
theorem dX16_isAlone_44 : decode cX16_isAlone 44 = .ok (.ireturn, 1) := by decide +kernel
theorem dX16_isIn_0 : decode cX16_isIn 0 = .ok (.iload_n 0, 1) := by decide +kernel
theorem dX16_isIn_1 : decode cX16_isIn 1 = .ok (.ifCond .lt 13, 3) := by decide +kernel
theorem dX16_isIn_14 : decode cX16_isIn 14 = .ok (.iconst 0, 1) := by decide +kernel
theorem dX16_isIn_15 : decode cX16_isIn 15 = .ok (.ireturn, 1) := by decide +kernel
theorem dX16_isIn_4 : decode cX16_isIn 4 = .ok (.iload_n 0, 1) := by decide +kernel
theorem dX16_isIn_5 : decode cX16_isIn 5 = .ok (.bipush 24, 2) := by decide +kernel
theorem dX16_isIn_7 : decode cX16_isIn 7 = .ok (.if_icmp .gt 7, 3) := by decide +kernel
theorem dX16_isIn_10 : decode cX16_isIn 10 = .ok (.iconst 1, 1) := by decide +kernel
theorem dX16_isIn_11 : decode cX16_isIn 11 = .ok (.goto 4, 3) := by decide +kernel
theorem dX16_lengthOf_0 : decode cX16_lengthOf 0 = .ok (.aload_n 0, 1) := by decide +kernel
theorem dX16_lengthOf_1 : decode cX16_lengthOf 1 = .ok (.getfield 20, 3) := by decide +kernel
theorem dX16_lengthOf_4 : decode cX16_lengthOf 4 = .ok (.iload_n 1, 1) := by decide +kernel
theorem dX16_lengthOf_5 : decode cX16_lengthOf 5 = .ok (.iaload, 1) := by decide +kernel
theorem dX16_lengthOf_6 : decode cX16_lengthOf 6 = .ok (.ireturn, 1) := by decide +kernel
theorem dX16_line_0 : decode cX16_line 0 = .ok (.aload_n 0, 1) := by decide +kernel
theorem dX16_line_1 : decode cX16_line 1 = .ok (.getfield 7, 3) := by decide +kernel
theorem dX16_line_4 : decode cX16_line 4 = .ok (.aload_n 0, 1) := by decide +kernel
theorem dX16_line_5 : decode cX16_line 5 = .ok (.getfield 96, 3) := by decide +kernel
theorem dX16_line_8 : decode cX16_line 8 = .ok (.iload_n 1, 1) := by decide +kernel
theorem dX16_line_9 : decode cX16_line 9 = .ok (.iload_n 3, 1) := by decide +kernel
theorem dX16_line_10 : decode cX16_line 10 = .ok (.if_icmp .ge 7, 3) := by decide +kernel
theorem dX16_line_17 : decode cX16_line 17 = .ok (.iload_n 3, 1) := by decide +kernel
theorem dX16_line_18 : decode cX16_line 18 = .ok (.iastore, 1) := by decide +kernel
theorem dX16_line_19 : decode cX16_line 19 = .ok (.aload_n 0, 1) := by decide +kernel
theorem dX16_line_20 : decode cX16_line 20 = .ok (.getfield 13, 3) := by decide +kernel
theorem dX16_line_23 : decode cX16_line 23 = .ok (.aload_n 0, 1) := by decide +kernel
theorem dX16_line_24 : decode cX16_line 24 = .ok (.getfield 96, 3) := by decide +kernel
theorem dX16_line_27 : decode cX16_line 27 = .ok (.iload_n 2, 1) := by decide +kernel
theorem dX16_line_28 : decode cX16_line 28 = .ok (.iload 4, 2) := by decide +kernel
theorem dX16_line_30 : decode cX16_line 30 = .ok (.if_icmp .ge 7, 3) := by decide +kernel
theorem dX16_line_37 : decode cX16_line 37 = .ok (.iload 4, 2) := by decide +kernel
theorem dX16_line_39 : decode cX16_line 39 = .ok (.iastore, 1) := by decide +kernel
theorem dX16_line_40 : decode cX16_line 40 = .ok (.aload_n 0, 1) := by decide +kernel
theorem dX16_line_41 : decode cX16_line 41 = .ok (.getfield 16, 3) := by decide +kernel
theorem dX16_line_44 : decode cX16_line 44 = .ok (.aload_n 0, 1) := by decide +kernel
theorem dX16_line_45 : decode cX16_line 45 = .ok (.getfield 96, 3) := by decide +kernel
theorem dX16_line_48 : decode cX16_line 48 = .ok (.iload_n 2, 1) := by decide +kernel
theorem dX16_line_49 : decode cX16_line 49 = .ok (.iload 4, 2) := by decide +kernel
theorem dX16_line_51 : decode cX16_line 51 = .ok (.if_icmp .ne 7, 3) := by decide +kernel
theorem dX16_line_58 : decode cX16_line 58 = .ok (.iconst 0, 1) := by decide +kernel
theorem dX16_line_59 : decode cX16_line 59 = .ok (.bastore, 1) := by decide +kernel
theorem dX16_line_60 : decode cX16_line 60 = .ok (.aload_n 0, 1) := by decide +kernel
theorem dX16_line_61 : decode cX16_line 61 = .ok (.getfield 20, 3) := by decide +kernel
theorem dX16_line_64 : decode cX16_line 64 = .ok (.aload_n 0, 1) := by decide +kernel
theorem dX16_line_65 : decode cX16_line 65 = .ok (.getfield 96, 3) := by decide +kernel
theorem dX16_line_68 : decode cX16_line 68 = .ok (.iload_n 1, 1) := by decide +kernel
theorem dX16_line_69 : decode cX16_line 69 = .ok (.iload_n 3, 1) := by decide +kernel
theorem dX16_line_70 : decode cX16_line 70 = .ok (.iadd, 1) := by decide +kernel
theorem dX16_line_71 : decode cX16_line 71 = .ok (.iconst 2, 1) := by decide +kernel
theorem dX16_line_72 : decode cX16_line 72 = .ok (.aload_n 0, 1) := by decide +kernel
theorem dX16_line_73 : decode cX16_line 73 = .ok (.getfield 7, 3) := by decide +kernel
theorem dX16_line_76 : decode cX16_line 76 = .ok (.aload_n 0, 1) := by decide +kernel
theorem dX16_line_77 : decode cX16_line 77 = .ok (.getfield 96, 3) := by decide +kernel
theorem dX16_line_80 : decode cX16_line 80 = .ok (.iaload, 1) := by decide +kernel
theorem dX16_line_81 : decode cX16_line 81 = .ok (.imul, 1) := by decide +kernel
theorem dX16_line_82 : decode cX16_line 82 = .ok (.isub, 1) := by decide +kernel
theorem dX16_line_83 : decode cX16_line 83 = .ok (.iload_n 2, 1) := by decide +kernel
theorem dX16_line_84 : decode cX16_line 84 = .ok (.iadd, 1) := by decide +kernel
theorem dX16_line_85 : decode cX16_line 85 = .ok (.iload 4, 2) := by decide +kernel
theorem dX16_line_87 : decode cX16_line 87 = .ok (.iadd, 1) := by decide +kernel
theorem dX16_line_88 : decode cX16_line 88 = .ok (.iconst 2, 1) := by decide +kernel
theorem dX16_line_89 : decode cX16_line 89 = .ok (.aload_n 0, 1) := by decide +kernel
theorem dX16_line_90 : decode cX16_line 90 = .ok (.getfield 13, 3) := by decide +kernel
theorem dX16_line_93 : decode cX16_line 93 = .ok (.aload_n 0, 1) := by decide +kernel
theorem dX16_line_94 : decode cX16_line 94 = .ok (.getfield 96, 3) := by decide +kernel
theorem dX16_line_97 : decode cX16_line 97 = .ok (.iaload, 1) := by decide +kernel
theorem dX16_line_98 : decode cX16_line 98 = .ok (.imul, 1) := by decide +kernel
theorem dX16_line_99 : decode cX16_line 99 = .ok (.isub, 1) := by decide +kernel
theorem dX16_line_100 : decode cX16_line 100 = .ok (.iastore, 1) := by decide +kernel
theorem dX16_line_101 : decode cX16_line 101 = .ok (.aload_n 0, 1) := by decide +kernel
theorem dX16_line_102 : decode cX16_line 102 = .ok (.getfield 23, 3) := by decide +kernel
theorem dX16_line_105 : decode cX16_line 105 = .ok (.aload_n 0, 1) := by decide +kernel
theorem dX16_line_106 : decode cX16_line 106 = .ok (.getfield 96, 3) := by decide +kernel
theorem dX16_line_109 : decode cX16_line 109 = .ok (.iconst 0, 1) := by decide +kernel
theorem dX16_line_110 : decode cX16_line 110 = .ok (.iastore, 1) := by decide +kernel
theorem dX16_line_111 : decode cX16_line 111 = .ok (.aload_n 0, 1) := by decide +kernel
theorem dX16_line_112 : decode cX16_line 112 = .ok (.aload_n 0, 1) := by decide +kernel
theorem dX16_line_113 : decode cX16_line 113 = .ok (.getfield 96, 3) := by decide +kernel
theorem dX16_line_116 : decode cX16_line 116 = .ok (.invokevirtual 104, 3) := by decide +kernel
theorem dX16_line_119 : decode cX16_line 119 = .ok (.ifCond .ne 5, 3) := by decide +kernel
theorem dX16_line_124 : decode cX16_line 124 = .ok (.aload_n 0, 1) := by decide +kernel
theorem dX16_line_125 : decode cX16_line 125 = .ok (.dup, 1) := by decide +kernel
theorem dX16_line_126 : decode cX16_line 126 = .ok (.getfield 96, 3) := by decide +kernel
theorem dX16_line_129 : decode cX16_line 129 = .ok (.iconst 1, 1) := by decide +kernel
theorem dX16_line_130 : decode cX16_line 130 = .ok (.iadd, 1) := by decide +kernel
theorem dX16_line_131 : decode cX16_line 131 = .ok (.putfield 96, 3) := by decide +kernel
theorem dX16_line_134 : decode cX16_line 134 = .ok (.aload_n 0, 1) := by decide +kernel
theorem dX16_line_135 : decode cX16_line 135 = .ok (.iconst 0, 1) := by decide +kernel
theorem dX16_line_136 : decode cX16_line 136 = .ok (.putfield 108, 3) := by decide +kernel
theorem dX16_line_139 : decode cX16_line 139 = .ok (.aload_n 0, 1) := by decide +kernel
theorem dX16_line_140 : decode cX16_line 140 = .ok (.getfield 96, 3) := by decide +kernel
theorem dX16_line_143 : decode cX16_line 143 = .ok (.iconst 1, 1) := by decide +kernel
theorem dX16_line_144 : decode cX16_line 144 = .ok (.isub, 1) := by decide +kernel
theorem dX16_line_145 : decode cX16_line 145 = .ok (.ireturn, 1) := by decide +kernel
theorem dX16_line_122 : decode cX16_line 122 = .ok (.iconst (-1), 1) := by decide +kernel
theorem dX16_line_123 : decode cX16_line 123 = .ok (.ireturn, 1) := by decide +kernel
theorem dX16_line_54 : decode cX16_line 54 = .ok (.iconst 1, 1) := by decide +kernel
theorem dX16_line_55 : decode cX16_line 55 = .ok (.goto 4, 3) := by decide +kernel
theorem dX16_line_33 : decode cX16_line 33 = .ok (.iload_n 2, 1) := by decide +kernel
theorem dX16_line_34 : decode cX16_line 34 = .ok (.goto 5, 3) := by decide +kernel
theorem dX16_line_13 : decode cX16_line 13 = .ok (.iload_n 1, 1) := by decide +kernel
theorem dX16_line_14 : decode cX16_line 14 = .ok (.goto 4, 3) := by decide +kernel
theorem dX16_mayGo_0 : decode cX16_mayGo 0 = .ok (.iload_n 2, 1) := by decide +kernel
theorem dX16_mayGo_1 : decode cX16_mayGo 1 = .ok (.bipush (-24), 2) := by decide +kernel
theorem dX16_mayGo_3 : decode cX16_mayGo 3 = .ok (.if_icmp .lt 79, 3) := by decide +kernel
theorem dX16_mayGo_82 : decode cX16_mayGo 82 = .ok (.iconst 0, 1) := by decide +kernel
theorem dX16_mayGo_83 : decode cX16_mayGo 83 = .ok (.ireturn, 1) := by decide +kernel
theorem dX16_mayGo_6 : decode cX16_mayGo 6 = .ok (.iload_n 2, 1) := by decide +kernel
theorem dX16_mayGo_7 : decode cX16_mayGo 7 = .ok (.bipush 24, 2) := by decide +kernel
theorem dX16_mayGo_9 : decode cX16_mayGo 9 = .ok (.if_icmp .gt 73, 3) := by decide +kernel
theorem dX16_mayGo_12 : decode cX16_mayGo 12 = .ok (.iload_n 3, 1) := by decide +kernel
theorem dX16_mayGo_13 : decode cX16_mayGo 13 = .ok (.bipush (-24), 2) := by decide +kernel
theorem dX16_mayGo_15 : decode cX16_mayGo 15 = .ok (.if_icmp .lt 67, 3) := by decide +kernel
theorem dX16_mayGo_18 : decode cX16_mayGo 18 = .ok (.iload_n 3, 1) := by decide +kernel
theorem dX16_mayGo_19 : decode cX16_mayGo 19 = .ok (.bipush 24, 2) := by decide +kernel
theorem dX16_mayGo_21 : decode cX16_mayGo 21 = .ok (.if_icmp .gt 61, 3) := by decide +kernel
theorem dX16_mayGo_24 : decode cX16_mayGo 24 = .ok (.aload_n 0, 1) := by decide +kernel
theorem dX16_mayGo_25 : decode cX16_mayGo 25 = .ok (.getfield 7, 3) := by decide +kernel
theorem dX16_mayGo_28 : decode cX16_mayGo 28 = .ok (.iload_n 1, 1) := by decide +kernel
theorem dX16_mayGo_29 : decode cX16_mayGo 29 = .ok (.iaload, 1) := by decide +kernel
theorem dX16_mayGo_30 : decode cX16_mayGo 30 = .ok (.iload_n 2, 1) := by decide +kernel
theorem dX16_mayGo_31 : decode cX16_mayGo 31 = .ok (.iadd, 1) := by decide +kernel
theorem dX16_mayGo_32 : decode cX16_mayGo 32 = .ok (.invokestatic 112, 3) := by decide +kernel
theorem dX16_mayGo_35 : decode cX16_mayGo 35 = .ok (.ifCond .eq 47, 3) := by decide +kernel
theorem dX16_mayGo_38 : decode cX16_mayGo 38 = .ok (.aload_n 0, 1) := by decide +kernel
theorem dX16_mayGo_39 : decode cX16_mayGo 39 = .ok (.getfield 13, 3) := by decide +kernel
theorem dX16_mayGo_42 : decode cX16_mayGo 42 = .ok (.iload_n 1, 1) := by decide +kernel
theorem dX16_mayGo_43 : decode cX16_mayGo 43 = .ok (.iaload, 1) := by decide +kernel
theorem dX16_mayGo_44 : decode cX16_mayGo 44 = .ok (.iload_n 3, 1) := by decide +kernel
theorem dX16_mayGo_45 : decode cX16_mayGo 45 = .ok (.iadd, 1) := by decide +kernel
theorem dX16_mayGo_46 : decode cX16_mayGo 46 = .ok (.invokestatic 112, 3) := by decide +kernel
theorem dX16_mayGo_49 : decode cX16_mayGo 49 = .ok (.ifCond .eq 33, 3) := by decide +kernel
theorem dX16_mayGo_52 : decode cX16_mayGo 52 = .ok (.aload_n 0, 1) := by decide +kernel
theorem dX16_mayGo_53 : decode cX16_mayGo 53 = .ok (.iload_n 1, 1) := by decide +kernel
theorem dX16_mayGo_54 : decode cX16_mayGo 54 = .ok (.invokevirtual 89, 3) := by decide +kernel
theorem dX16_mayGo_57 : decode cX16_mayGo 57 = .ok (.iload_n 2, 1) := by decide +kernel
theorem dX16_mayGo_58 : decode cX16_mayGo 58 = .ok (.iadd, 1) := by decide +kernel
theorem dX16_mayGo_59 : decode cX16_mayGo 59 = .ok (.invokestatic 112, 3) := by decide +kernel
theorem dX16_mayGo_62 : decode cX16_mayGo 62 = .ok (.ifCond .eq 20, 3) := by decide +kernel
theorem dX16_mayGo_65 : decode cX16_mayGo 65 = .ok (.aload_n 0, 1) := by decide +kernel
theorem dX16_mayGo_66 : decode cX16_mayGo 66 = .ok (.iload_n 1, 1) := by decide +kernel
theorem dX16_mayGo_67 : decode cX16_mayGo 67 = .ok (.invokevirtual 93, 3) := by decide +kernel
theorem dX16_mayGo_70 : decode cX16_mayGo 70 = .ok (.iload_n 3, 1) := by decide +kernel
theorem dX16_mayGo_71 : decode cX16_mayGo 71 = .ok (.iadd, 1) := by decide +kernel
theorem dX16_mayGo_72 : decode cX16_mayGo 72 = .ok (.invokestatic 112, 3) := by decide +kernel
theorem dX16_mayGo_75 : decode cX16_mayGo 75 = .ok (.ifCond .eq 7, 3) := by decide +kernel
theorem dX16_mayGo_78 : decode cX16_mayGo 78 = .ok (.iconst 1, 1) := by decide +kernel
theorem dX16_mayGo_79 : decode cX16_mayGo 79 = .ok (.goto 4, 3) := by decide +kernel
theorem dX16_move_0 : decode cX16_move 0 = .ok (.aload_n 0, 1) := by decide +kernel
theorem dX16_move_1 : decode cX16_move 1 = .ok (.getfield 7, 3) := by decide +kernel
theorem dX16_move_4 : decode cX16_move 4 = .ok (.iload_n 1, 1) := by decide +kernel
theorem dX16_move_5 : decode cX16_move 5 = .ok (.dup2, 1) := by decide +kernel
theorem dX16_move_6 : decode cX16_move 6 = .ok (.iaload, 1) := by decide +kernel
theorem dX16_move_7 : decode cX16_move 7 = .ok (.iload_n 2, 1) := by decide +kernel
theorem dX16_move_8 : decode cX16_move 8 = .ok (.iadd, 1) := by decide +kernel
theorem dX16_move_9 : decode cX16_move 9 = .ok (.iastore, 1) := by decide +kernel
theorem dX16_move_10 : decode cX16_move 10 = .ok (.aload_n 0, 1) := by decide +kernel
theorem dX16_move_11 : decode cX16_move 11 = .ok (.getfield 13, 3) := by decide +kernel
theorem dX16_move_14 : decode cX16_move 14 = .ok (.iload_n 1, 1) := by decide +kernel
theorem dX16_move_15 : decode cX16_move 15 = .ok (.dup2, 1) := by decide +kernel
theorem dX16_move_16 : decode cX16_move 16 = .ok (.iaload, 1) := by decide +kernel
theorem dX16_move_17 : decode cX16_move 17 = .ok (.iload_n 3, 1) := by decide +kernel
theorem dX16_move_18 : decode cX16_move 18 = .ok (.iadd, 1) := by decide +kernel
theorem dX16_move_19 : decode cX16_move 19 = .ok (.iastore, 1) := by decide +kernel
theorem dX16_move_20 : decode cX16_move 20 = .ok (.aload_n 0, 1) := by decide +kernel
theorem dX16_move_21 : decode cX16_move 21 = .ok (.iload_n 1, 1) := by decide +kernel
theorem dX16_move_22 : decode cX16_move 22 = .ok (.invokevirtual 104, 3) := by decide +kernel
theorem dX16_move_25 : decode cX16_move 25 = .ok (.istore 4, 2) := by decide +kernel
theorem dX16_move_27 : decode cX16_move 27 = .ok (.aload_n 0, 1) := by decide +kernel
theorem dX16_move_28 : decode cX16_move 28 = .ok (.getfield 7, 3) := by decide +kernel
theorem dX16_move_31 : decode cX16_move 31 = .ok (.iload_n 1, 1) := by decide +kernel
theorem dX16_move_32 : decode cX16_move 32 = .ok (.dup2, 1) := by decide +kernel
theorem dX16_move_33 : decode cX16_move 33 = .ok (.iaload, 1) := by decide +kernel
theorem dX16_move_34 : decode cX16_move 34 = .ok (.iload 4, 2) := by decide +kernel
theorem dX16_move_36 : decode cX16_move 36 = .ok (.ifCond .eq 7, 3) := by decide +kernel
theorem dX16_move_43 : decode cX16_move 43 = .ok (.iload_n 2, 1) := by decide +kernel
theorem dX16_move_44 : decode cX16_move 44 = .ok (.isub, 1) := by decide +kernel
theorem dX16_move_45 : decode cX16_move 45 = .ok (.iastore, 1) := by decide +kernel
theorem dX16_move_46 : decode cX16_move 46 = .ok (.aload_n 0, 1) := by decide +kernel
theorem dX16_move_47 : decode cX16_move 47 = .ok (.getfield 13, 3) := by decide +kernel
theorem dX16_move_50 : decode cX16_move 50 = .ok (.iload_n 1, 1) := by decide +kernel
theorem dX16_move_51 : decode cX16_move 51 = .ok (.dup2, 1) := by decide +kernel
theorem dX16_move_52 : decode cX16_move 52 = .ok (.iaload, 1) := by decide +kernel
theorem dX16_move_53 : decode cX16_move 53 = .ok (.iload 4, 2) := by decide +kernel
theorem dX16_move_55 : decode cX16_move 55 = .ok (.ifCond .eq 7, 3) := by decide +kernel
theorem dX16_move_62 : decode cX16_move 62 = .ok (.iload_n 3, 1) := by decide +kernel
theorem dX16_move_63 : decode cX16_move 63 = .ok (.isub, 1) := by decide +kernel
theorem dX16_move_64 : decode cX16_move 64 = .ok (.iastore, 1) := by decide +kernel
theorem dX16_move_65 : decode cX16_move 65 = .ok (.aload_n 0, 1) := by decide +kernel
theorem dX16_move_66 : decode cX16_move 66 = .ok (.aload_n 0, 1) := by decide +kernel
theorem dX16_move_67 : decode cX16_move 67 = .ok (.getfield 108, 3) := by decide +kernel
theorem dX16_move_70 : decode cX16_move 70 = .ok (.ifCond .eq 12, 3) := by decide +kernel
theorem dX16_move_82 : decode cX16_move 82 = .ok (.iconst 0, 1) := by decide +kernel
theorem dX16_move_83 : decode cX16_move 83 = .ok (.putfield 108, 3) := by decide +kernel
theorem dX16_move_86 : decode cX16_move 86 = .ok (.iload 4, 2) := by decide +kernel
theorem dX16_move_88 : decode cX16_move 88 = .ok (.ireturn, 1) := by decide +kernel
theorem dX16_move_73 : decode cX16_move 73 = .ok (.iload 4, 2) := by decide +kernel
theorem dX16_move_75 : decode cX16_move 75 = .ok (.ifCond .ne 7, 3) := by decide +kernel
theorem dX16_move_78 : decode cX16_move 78 = .ok (.iconst 1, 1) := by decide +kernel
theorem dX16_move_79 : decode cX16_move 79 = .ok (.goto 4, 3) := by decide +kernel
theorem dX16_move_58 : decode cX16_move 58 = .ok (.iconst 0, 1) := by decide +kernel
theorem dX16_move_59 : decode cX16_move 59 = .ok (.goto 4, 3) := by decide +kernel
theorem dX16_move_39 : decode cX16_move 39 = .ok (.iconst 0, 1) := by decide +kernel
theorem dX16_move_40 : decode cX16_move 40 = .ok (.goto 4, 3) := by decide +kernel
theorem dX16_door_0 : decode cX16_door 0 = .ok (.aload_n 0, 1) := by decide +kernel
theorem dX16_door_1 : decode cX16_door 1 = .ok (.getfield 26, 3) := by decide +kernel
theorem dX16_door_4 : decode cX16_door 4 = .ok (.bipush 6, 2) := by decide +kernel
theorem dX16_door_6 : decode cX16_door 6 = .ok (.iload_n 1, 1) := by decide +kernel
theorem dX16_door_7 : decode cX16_door 7 = .ok (.imul, 1) := by decide +kernel
theorem dX16_door_8 : decode cX16_door 8 = .ok (.aload_n 0, 1) := by decide +kernel
theorem dX16_door_9 : decode cX16_door 9 = .ok (.getfield 23, 3) := by decide +kernel
theorem dX16_door_12 : decode cX16_door 12 = .ok (.iload_n 1, 1) := by decide +kernel
theorem dX16_door_13 : decode cX16_door 13 = .ok (.iaload, 1) := by decide +kernel
theorem dX16_door_14 : decode cX16_door 14 = .ok (.iadd, 1) := by decide +kernel
theorem dX16_door_15 : decode cX16_door 15 = .ok (.iload_n 2, 1) := by decide +kernel
theorem dX16_door_16 : decode cX16_door 16 = .ok (.iastore, 1) := by decide +kernel
theorem dX16_door_17 : decode cX16_door 17 = .ok (.aload_n 0, 1) := by decide +kernel
theorem dX16_door_18 : decode cX16_door 18 = .ok (.getfield 29, 3) := by decide +kernel
theorem dX16_door_21 : decode cX16_door 21 = .ok (.bipush 6, 2) := by decide +kernel
theorem dX16_door_23 : decode cX16_door 23 = .ok (.iload_n 1, 1) := by decide +kernel
theorem dX16_door_24 : decode cX16_door 24 = .ok (.imul, 1) := by decide +kernel
theorem dX16_door_25 : decode cX16_door 25 = .ok (.aload_n 0, 1) := by decide +kernel
theorem dX16_door_26 : decode cX16_door 26 = .ok (.getfield 23, 3) := by decide +kernel
theorem dX16_door_29 : decode cX16_door 29 = .ok (.iload_n 1, 1) := by decide +kernel
theorem dX16_door_30 : decode cX16_door 30 = .ok (.iaload, 1) := by decide +kernel
theorem dX16_door_31 : decode cX16_door 31 = .ok (.iadd, 1) := by decide +kernel
theorem dX16_door_32 : decode cX16_door 32 = .ok (.iload_n 3, 1) := by decide +kernel
theorem dX16_door_33 : decode cX16_door 33 = .ok (.iastore, 1) := by decide +kernel
theorem dX16_door_34 : decode cX16_door 34 = .ok (.aload_n 0, 1) := by decide +kernel
theorem dX16_door_35 : decode cX16_door 35 = .ok (.getfield 32, 3) := by decide +kernel
theorem dX16_door_38 : decode cX16_door 38 = .ok (.bipush 6, 2) := by decide +kernel
theorem dX16_door_40 : decode cX16_door 40 = .ok (.iload_n 1, 1) := by decide +kernel
theorem dX16_door_41 : decode cX16_door 41 = .ok (.imul, 1) := by decide +kernel
theorem dX16_door_42 : decode cX16_door 42 = .ok (.aload_n 0, 1) := by decide +kernel
theorem dX16_door_43 : decode cX16_door 43 = .ok (.getfield 23, 3) := by decide +kernel
theorem dX16_door_46 : decode cX16_door 46 = .ok (.iload_n 1, 1) := by decide +kernel
theorem dX16_door_47 : decode cX16_door 47 = .ok (.iaload, 1) := by decide +kernel
theorem dX16_door_48 : decode cX16_door 48 = .ok (.iadd, 1) := by decide +kernel
theorem dX16_door_49 : decode cX16_door 49 = .ok (.iload 4, 2) := by decide +kernel
theorem dX16_door_51 : decode cX16_door 51 = .ok (.iastore, 1) := by decide +kernel
theorem dX16_door_52 : decode cX16_door 52 = .ok (.aload_n 0, 1) := by decide +kernel
theorem dX16_door_53 : decode cX16_door 53 = .ok (.getfield 23, 3) := by decide +kernel
theorem dX16_door_56 : decode cX16_door 56 = .ok (.iload_n 1, 1) := by decide +kernel
theorem dX16_door_57 : decode cX16_door 57 = .ok (.dup2, 1) := by decide +kernel
theorem dX16_door_58 : decode cX16_door 58 = .ok (.iaload, 1) := by decide +kernel
theorem dX16_door_59 : decode cX16_door 59 = .ok (.iconst 1, 1) := by decide +kernel
theorem dX16_door_60 : decode cX16_door 60 = .ok (.iadd, 1) := by decide +kernel
theorem dX16_door_61 : decode cX16_door 61 = .ok (.iastore, 1) := by decide +kernel
theorem dX16_door_62 : decode cX16_door 62 = .ok (.aload_n 0, 1) := by decide +kernel
theorem dX16_door_63 : decode cX16_door 63 = .ok (.getfield 23, 3) := by decide +kernel
theorem dX16_door_66 : decode cX16_door 66 = .ok (.iload_n 1, 1) := by decide +kernel
theorem dX16_door_67 : decode cX16_door 67 = .ok (.iaload, 1) := by decide +kernel
theorem dX16_door_68 : decode cX16_door 68 = .ok (.ireturn, 1) := by decide +kernel
theorem dX16_insert_0 : decode cX16_insert 0 = .ok (.iconst 0, 1) := by decide +kernel
theorem dX16_insert_1 : decode cX16_insert 1 = .ok (.istore_n 3, 1) := by decide +kernel
theorem dX16_insert_2 : decode cX16_insert 2 = .ok (.iload_n 3, 1) := by decide +kernel
theorem dX16_insert_3 : decode cX16_insert 3 = .ok (.iload_n 1, 1) := by decide +kernel
theorem dX16_insert_4 : decode cX16_insert 4 = .ok (.if_icmp .ge 16, 3) := by decide +kernel
theorem dX16_insert_7 : decode cX16_insert 7 = .ok (.aload_n 0, 1) := by decide +kernel
theorem dX16_insert_8 : decode cX16_insert 8 = .ok (.iload_n 3, 1) := by decide +kernel
theorem dX16_insert_9 : decode cX16_insert 9 = .ok (.iaload, 1) := by decide +kernel
theorem dX16_insert_10 : decode cX16_insert 10 = .ok (.iload_n 2, 1) := by decide +kernel
theorem dX16_insert_11 : decode cX16_insert 11 = .ok (.if_icmp .ge 9, 3) := by decide +kernel
theorem dX16_insert_14 : decode cX16_insert 14 = .ok (.iinc 3 1, 3) := by decide +kernel
theorem dX16_insert_17 : decode cX16_insert 17 = .ok (.goto (-15), 3) := by decide +kernel
theorem dX16_insert_20 : decode cX16_insert 20 = .ok (.iload_n 3, 1) := by decide +kernel
theorem dX16_insert_21 : decode cX16_insert 21 = .ok (.iload_n 1, 1) := by decide +kernel
theorem dX16_insert_22 : decode cX16_insert 22 = .ok (.if_icmp .ge 12, 3) := by decide +kernel
theorem dX16_insert_34 : decode cX16_insert 34 = .ok (.iload_n 1, 1) := by decide +kernel
theorem dX16_insert_35 : decode cX16_insert 35 = .ok (.istore 4, 2) := by decide +kernel
theorem dX16_insert_37 : decode cX16_insert 37 = .ok (.iload 4, 2) := by decide +kernel
theorem dX16_insert_39 : decode cX16_insert 39 = .ok (.iload_n 3, 1) := by decide +kernel
theorem dX16_insert_40 : decode cX16_insert 40 = .ok (.if_icmp .le 19, 3) := by decide +kernel
theorem dX16_insert_43 : decode cX16_insert 43 = .ok (.aload_n 0, 1) := by decide +kernel
theorem dX16_insert_44 : decode cX16_insert 44 = .ok (.iload 4, 2) := by decide +kernel
theorem dX16_insert_46 : decode cX16_insert 46 = .ok (.aload_n 0, 1) := by decide +kernel
theorem dX16_insert_47 : decode cX16_insert 47 = .ok (.iload 4, 2) := by decide +kernel
theorem dX16_insert_49 : decode cX16_insert 49 = .ok (.iconst 1, 1) := by decide +kernel
theorem dX16_insert_50 : decode cX16_insert 50 = .ok (.isub, 1) := by decide +kernel
theorem dX16_insert_51 : decode cX16_insert 51 = .ok (.iaload, 1) := by decide +kernel
theorem dX16_insert_52 : decode cX16_insert 52 = .ok (.iastore, 1) := by decide +kernel
theorem dX16_insert_53 : decode cX16_insert 53 = .ok (.iinc 4 (-1), 3) := by decide +kernel
theorem dX16_insert_56 : decode cX16_insert 56 = .ok (.goto (-19), 3) := by decide +kernel
theorem dX16_insert_59 : decode cX16_insert 59 = .ok (.aload_n 0, 1) := by decide +kernel
theorem dX16_insert_60 : decode cX16_insert 60 = .ok (.iload_n 3, 1) := by decide +kernel
theorem dX16_insert_61 : decode cX16_insert 61 = .ok (.iload_n 2, 1) := by decide +kernel
theorem dX16_insert_62 : decode cX16_insert 62 = .ok (.iastore, 1) := by decide +kernel
theorem dX16_insert_63 : decode cX16_insert 63 = .ok (.iload_n 1, 1) := by decide +kernel
theorem dX16_insert_64 : decode cX16_insert 64 = .ok (.iconst 1, 1) := by decide +kernel
theorem dX16_insert_65 : decode cX16_insert 65 = .ok (.iadd, 1) := by decide +kernel
theorem dX16_insert_66 : decode cX16_insert 66 = .ok (.ireturn, 1) := by decide +kernel
theorem dX16_insert_25 : decode cX16_insert 25 = .ok (.aload_n 0, 1) := by decide +kernel
theorem dX16_insert_26 : decode cX16_insert 26 = .ok (.iload_n 3, 1) := by decide +kernel
theorem dX16_insert_27 : decode cX16_insert 27 = .ok (.iaload, 1) := by decide +kernel
theorem dX16_insert_28 : decode cX16_insert 28 = .ok (.iload_n 2, 1) := by decide +kernel
theorem dX16_insert_29 : decode cX16_insert 29 = .ok (.if_icmp .ne 5, 3) := by decide +kernel
theorem dX16_insert_32 : decode cX16_insert 32 = .ok (.iload_n 1, 1) := by decide +kernel
theorem dX16_insert_33 : decode cX16_insert 33 = .ok (.ireturn, 1) := by decide +kernel
theorem dX16_indexOf_0 : decode cX16_indexOf 0 = .ok (.iconst 0, 1) := by decide +kernel
theorem dX16_indexOf_1 : decode cX16_indexOf 1 = .ok (.istore_n 2, 1) := by decide +kernel
theorem dX16_indexOf_2 : decode cX16_indexOf 2 = .ok (.aload_n 0, 1) := by decide +kernel
theorem dX16_indexOf_3 : decode cX16_indexOf 3 = .ok (.iload_n 2, 1) := by decide +kernel
theorem dX16_indexOf_4 : decode cX16_indexOf 4 = .ok (.iaload, 1) := by decide +kernel
theorem dX16_indexOf_5 : decode cX16_indexOf 5 = .ok (.iload_n 1, 1) := by decide +kernel
theorem dX16_indexOf_6 : decode cX16_indexOf 6 = .ok (.if_icmp .eq 9, 3) := by decide +kernel
theorem dX16_indexOf_9 : decode cX16_indexOf 9 = .ok (.iinc 2 1, 3) := by decide +kernel
theorem dX16_indexOf_12 : decode cX16_indexOf 12 = .ok (.goto (-10), 3) := by decide +kernel
theorem dX16_indexOf_15 : decode cX16_indexOf 15 = .ok (.iload_n 2, 1) := by decide +kernel
theorem dX16_indexOf_16 : decode cX16_indexOf 16 = .ok (.ireturn, 1) := by decide +kernel
theorem dX16_isShut_0 : decode cX16_isShut 0 = .ok (.iconst 0, 1) := by decide +kernel
theorem dX16_isShut_1 : decode cX16_isShut 1 = .ok (.istore 4, 2) := by decide +kernel
theorem dX16_isShut_3 : decode cX16_isShut 3 = .ok (.iconst 0, 1) := by decide +kernel
theorem dX16_isShut_4 : decode cX16_isShut 4 = .ok (.istore 5, 2) := by decide +kernel
theorem dX16_isShut_6 : decode cX16_isShut 6 = .ok (.iload 5, 2) := by decide +kernel
theorem dX16_isShut_8 : decode cX16_isShut 8 = .ok (.aload_n 0, 1) := by decide +kernel
theorem dX16_isShut_9 : decode cX16_isShut 9 = .ok (.getfield 96, 3) := by decide +kernel
theorem dX16_isShut_12 : decode cX16_isShut 12 = .ok (.if_icmp .ge 197, 3) := by decide +kernel
theorem dX16_isShut_15 : decode cX16_isShut 15 = .ok (.aload_n 0, 1) := by decide +kernel
theorem dX16_isShut_16 : decode cX16_isShut 16 = .ok (.getfield 16, 3) := by decide +kernel
theorem dX16_isShut_19 : decode cX16_isShut 19 = .ok (.iload 5, 2) := by decide +kernel
theorem dX16_isShut_21 : decode cX16_isShut 21 = .ok (.baload, 1) := by decide +kernel
theorem dX16_isShut_22 : decode cX16_isShut 22 = .ok (.iload_n 3, 1) := by decide +kernel
theorem dX16_isShut_23 : decode cX16_isShut 23 = .ok (.if_icmp .eq 180, 3) := by decide +kernel
theorem dX16_isShut_203 : decode cX16_isShut 203 = .ok (.iinc 5 1, 3) := by decide +kernel
theorem dX16_isShut_206 : decode cX16_isShut 206 = .ok (.goto (-200), 3) := by decide +kernel
theorem dX16_isShut_26 : decode cX16_isShut 26 = .ok (.iload_n 3, 1) := by decide +kernel
theorem dX16_isShut_27 : decode cX16_isShut 27 = .ok (.ifCond .eq 13, 3) := by decide +kernel
theorem dX16_isShut_40 : decode cX16_isShut 40 = .ok (.aload_n 0, 1) := by decide +kernel
theorem dX16_isShut_41 : decode cX16_isShut 41 = .ok (.getfield 13, 3) := by decide +kernel
theorem dX16_isShut_44 : decode cX16_isShut 44 = .ok (.iload 5, 2) := by decide +kernel
theorem dX16_isShut_46 : decode cX16_isShut 46 = .ok (.iaload, 1) := by decide +kernel
theorem dX16_isShut_47 : decode cX16_isShut 47 = .ok (.istore 6, 2) := by decide +kernel
theorem dX16_isShut_49 : decode cX16_isShut 49 = .ok (.iload_n 3, 1) := by decide +kernel
theorem dX16_isShut_50 : decode cX16_isShut 50 = .ok (.ifCond .eq 12, 3) := by decide +kernel
theorem dX16_isShut_62 : decode cX16_isShut 62 = .ok (.aload_n 0, 1) := by decide +kernel
theorem dX16_isShut_63 : decode cX16_isShut 63 = .ok (.getfield 38, 3) := by decide +kernel
theorem dX16_isShut_66 : decode cX16_isShut 66 = .ok (.iload_n 2, 1) := by decide +kernel
theorem dX16_isShut_67 : decode cX16_isShut 67 = .ok (.iaload, 1) := by decide +kernel
theorem dX16_isShut_68 : decode cX16_isShut 68 = .ok (.istore 7, 2) := by decide +kernel
theorem dX16_isShut_70 : decode cX16_isShut 70 = .ok (.iload_n 3, 1) := by decide +kernel
theorem dX16_isShut_71 : decode cX16_isShut 71 = .ok (.ifCond .eq 56, 3) := by decide +kernel
theorem dX16_isShut_127 : decode cX16_isShut 127 = .ok (.iload_n 1, 1) := by decide +kernel
theorem dX16_isShut_128 : decode cX16_isShut 128 = .ok (.ifCond .le 48, 3) := by decide +kernel
theorem dX16_isShut_176 : decode cX16_isShut 176 = .ok (.iconst 0, 1) := by decide +kernel
theorem dX16_isShut_177 : decode cX16_isShut 177 = .ok (.istore 8, 2) := by decide +kernel
theorem dX16_isShut_179 : decode cX16_isShut 179 = .ok (.iload 4, 2) := by decide +kernel
theorem dX16_isShut_181 : decode cX16_isShut 181 = .ok (.ifCond .ne 15, 3) := by decide +kernel
theorem dX16_isShut_196 : decode cX16_isShut 196 = .ok (.iconst 1, 1) := by decide +kernel
theorem dX16_isShut_197 : decode cX16_isShut 197 = .ok (.goto 4, 3) := by decide +kernel
theorem dX16_isShut_201 : decode cX16_isShut 201 = .ok (.istore 4, 2) := by decide +kernel
theorem dX16_isShut_184 : decode cX16_isShut 184 = .ok (.iload 6, 2) := by decide +kernel
theorem dX16_isShut_186 : decode cX16_isShut 186 = .ok (.iload 7, 2) := by decide +kernel
theorem dX16_isShut_188 : decode cX16_isShut 188 = .ok (.if_icmp .ne 12, 3) := by decide +kernel
theorem dX16_isShut_200 : decode cX16_isShut 200 = .ok (.iconst 0, 1) := by decide +kernel
theorem dX16_isShut_191 : decode cX16_isShut 191 = .ok (.iload 8, 2) := by decide +kernel
theorem dX16_isShut_193 : decode cX16_isShut 193 = .ok (.ifCond .eq 7, 3) := by decide +kernel
theorem dX16_isShut_131 : decode cX16_isShut 131 = .ok (.iload_n 1, 1) := by decide +kernel
theorem dX16_isShut_132 : decode cX16_isShut 132 = .ok (.aload_n 0, 1) := by decide +kernel
theorem dX16_isShut_133 : decode cX16_isShut 133 = .ok (.getfield 118, 3) := by decide +kernel
theorem dX16_isShut_136 : decode cX16_isShut 136 = .ok (.if_icmp .ge 40, 3) := by decide +kernel
theorem dX16_isShut_139 : decode cX16_isShut 139 = .ok (.aload_n 0, 1) := by decide +kernel
theorem dX16_isShut_140 : decode cX16_isShut 140 = .ok (.getfield 7, 3) := by decide +kernel
theorem dX16_isShut_143 : decode cX16_isShut 143 = .ok (.iload 5, 2) := by decide +kernel
theorem dX16_isShut_145 : decode cX16_isShut 145 = .ok (.iaload, 1) := by decide +kernel
theorem dX16_isShut_146 : decode cX16_isShut 146 = .ok (.aload_n 0, 1) := by decide +kernel
theorem dX16_isShut_147 : decode cX16_isShut 147 = .ok (.getfield 35, 3) := by decide +kernel
theorem dX16_isShut_150 : decode cX16_isShut 150 = .ok (.iload_n 1, 1) := by decide +kernel
theorem dX16_isShut_151 : decode cX16_isShut 151 = .ok (.iconst 1, 1) := by decide +kernel
theorem dX16_isShut_152 : decode cX16_isShut 152 = .ok (.isub, 1) := by decide +kernel
theorem dX16_isShut_153 : decode cX16_isShut 153 = .ok (.iaload, 1) := by decide +kernel
theorem dX16_isShut_154 : decode cX16_isShut 154 = .ok (.if_icmp .gt 22, 3) := by decide +kernel
theorem dX16_isShut_157 : decode cX16_isShut 157 = .ok (.aload_n 0, 1) := by decide +kernel
theorem dX16_isShut_158 : decode cX16_isShut 158 = .ok (.iload 5, 2) := by decide +kernel
theorem dX16_isShut_160 : decode cX16_isShut 160 = .ok (.invokevirtual 89, 3) := by decide +kernel
theorem dX16_isShut_163 : decode cX16_isShut 163 = .ok (.aload_n 0, 1) := by decide +kernel
theorem dX16_isShut_164 : decode cX16_isShut 164 = .ok (.getfield 35, 3) := by decide +kernel
theorem dX16_isShut_167 : decode cX16_isShut 167 = .ok (.iload_n 1, 1) := by decide +kernel
theorem dX16_isShut_168 : decode cX16_isShut 168 = .ok (.iaload, 1) := by decide +kernel
theorem dX16_isShut_169 : decode cX16_isShut 169 = .ok (.if_icmp .lt 7, 3) := by decide +kernel
theorem dX16_isShut_172 : decode cX16_isShut 172 = .ok (.iconst 1, 1) := by decide +kernel
theorem dX16_isShut_173 : decode cX16_isShut 173 = .ok (.goto 4, 3) := by decide +kernel
theorem dX16_isShut_74 : decode cX16_isShut 74 = .ok (.iload_n 2, 1) := by decide +kernel
theorem dX16_isShut_75 : decode cX16_isShut 75 = .ok (.ifCond .le 48, 3) := by decide +kernel
theorem dX16_isShut_123 : decode cX16_isShut 123 = .ok (.iconst 0, 1) := by decide +kernel
theorem dX16_isShut_124 : decode cX16_isShut 124 = .ok (.goto 53, 3) := by decide +kernel
theorem dX16_isShut_78 : decode cX16_isShut 78 = .ok (.iload_n 2, 1) := by decide +kernel
theorem dX16_isShut_79 : decode cX16_isShut 79 = .ok (.aload_n 0, 1) := by decide +kernel
theorem dX16_isShut_80 : decode cX16_isShut 80 = .ok (.getfield 115, 3) := by decide +kernel
theorem dX16_isShut_83 : decode cX16_isShut 83 = .ok (.if_icmp .ge 40, 3) := by decide +kernel
theorem dX16_isShut_86 : decode cX16_isShut 86 = .ok (.aload_n 0, 1) := by decide +kernel
theorem dX16_isShut_87 : decode cX16_isShut 87 = .ok (.getfield 13, 3) := by decide +kernel
theorem dX16_isShut_90 : decode cX16_isShut 90 = .ok (.iload 5, 2) := by decide +kernel
theorem dX16_isShut_92 : decode cX16_isShut 92 = .ok (.iaload, 1) := by decide +kernel
theorem dX16_isShut_93 : decode cX16_isShut 93 = .ok (.aload_n 0, 1) := by decide +kernel
theorem dX16_isShut_94 : decode cX16_isShut 94 = .ok (.getfield 38, 3) := by decide +kernel
theorem dX16_isShut_97 : decode cX16_isShut 97 = .ok (.iload_n 2, 1) := by decide +kernel
theorem dX16_isShut_98 : decode cX16_isShut 98 = .ok (.iconst 1, 1) := by decide +kernel
theorem dX16_isShut_99 : decode cX16_isShut 99 = .ok (.isub, 1) := by decide +kernel
theorem dX16_isShut_100 : decode cX16_isShut 100 = .ok (.iaload, 1) := by decide +kernel
theorem dX16_isShut_101 : decode cX16_isShut 101 = .ok (.if_icmp .gt 22, 3) := by decide +kernel
theorem dX16_isShut_104 : decode cX16_isShut 104 = .ok (.aload_n 0, 1) := by decide +kernel
theorem dX16_isShut_105 : decode cX16_isShut 105 = .ok (.iload 5, 2) := by decide +kernel
theorem dX16_isShut_107 : decode cX16_isShut 107 = .ok (.invokevirtual 93, 3) := by decide +kernel
theorem dX16_isShut_110 : decode cX16_isShut 110 = .ok (.aload_n 0, 1) := by decide +kernel
theorem dX16_isShut_111 : decode cX16_isShut 111 = .ok (.getfield 38, 3) := by decide +kernel
theorem dX16_isShut_114 : decode cX16_isShut 114 = .ok (.iload_n 2, 1) := by decide +kernel
theorem dX16_isShut_115 : decode cX16_isShut 115 = .ok (.iaload, 1) := by decide +kernel
theorem dX16_isShut_116 : decode cX16_isShut 116 = .ok (.if_icmp .lt 7, 3) := by decide +kernel
theorem dX16_isShut_119 : decode cX16_isShut 119 = .ok (.iconst 1, 1) := by decide +kernel
theorem dX16_isShut_120 : decode cX16_isShut 120 = .ok (.goto 57, 3) := by decide +kernel
theorem dX16_isShut_53 : decode cX16_isShut 53 = .ok (.aload_n 0, 1) := by decide +kernel
theorem dX16_isShut_54 : decode cX16_isShut 54 = .ok (.getfield 35, 3) := by decide +kernel
theorem dX16_isShut_57 : decode cX16_isShut 57 = .ok (.iload_n 1, 1) := by decide +kernel
theorem dX16_isShut_58 : decode cX16_isShut 58 = .ok (.iaload, 1) := by decide +kernel
theorem dX16_isShut_59 : decode cX16_isShut 59 = .ok (.goto 9, 3) := by decide +kernel
theorem dX16_isShut_30 : decode cX16_isShut 30 = .ok (.aload_n 0, 1) := by decide +kernel
theorem dX16_isShut_31 : decode cX16_isShut 31 = .ok (.getfield 7, 3) := by decide +kernel
theorem dX16_isShut_34 : decode cX16_isShut 34 = .ok (.iload 5, 2) := by decide +kernel
theorem dX16_isShut_36 : decode cX16_isShut 36 = .ok (.iaload, 1) := by decide +kernel
theorem dX16_isShut_37 : decode cX16_isShut 37 = .ok (.goto 10, 3) := by decide +kernel
theorem dX16_isShut_209 : decode cX16_isShut 209 = .ok (.iload 4, 2) := by decide +kernel
theorem dX16_isShut_211 : decode cX16_isShut 211 = .ok (.ireturn, 1) := by decide +kernel
theorem dX16_join_0 : decode cX16_join 0 = .ok (.aload_n 0, 1) := by decide +kernel
theorem dX16_join_1 : decode cX16_join 1 = .ok (.getfield 41, 3) := by decide +kernel
theorem dX16_join_4 : decode cX16_join 4 = .ok (.iload_n 1, 1) := by decide +kernel
theorem dX16_join_5 : decode cX16_join 5 = .ok (.iaload, 1) := by decide +kernel
theorem dX16_join_6 : decode cX16_join 6 = .ok (.aload_n 0, 1) := by decide +kernel
theorem dX16_join_7 : decode cX16_join 7 = .ok (.getfield 41, 3) := by decide +kernel
theorem dX16_join_10 : decode cX16_join 10 = .ok (.iload_n 2, 1) := by decide +kernel
theorem dX16_join_11 : decode cX16_join 11 = .ok (.iaload, 1) := by decide +kernel
theorem dX16_join_12 : decode cX16_join 12 = .ok (.if_icmp .ge 12, 3) := by decide +kernel
theorem dX16_join_24 : decode cX16_join 24 = .ok (.aload_n 0, 1) := by decide +kernel
theorem dX16_join_25 : decode cX16_join 25 = .ok (.getfield 41, 3) := by decide +kernel
theorem dX16_join_28 : decode cX16_join 28 = .ok (.iload_n 2, 1) := by decide +kernel
theorem dX16_join_29 : decode cX16_join 29 = .ok (.iaload, 1) := by decide +kernel
theorem dX16_join_30 : decode cX16_join 30 = .ok (.istore_n 3, 1) := by decide +kernel
theorem dX16_join_31 : decode cX16_join 31 = .ok (.aload_n 0, 1) := by decide +kernel
theorem dX16_join_32 : decode cX16_join 32 = .ok (.getfield 41, 3) := by decide +kernel
theorem dX16_join_35 : decode cX16_join 35 = .ok (.iload_n 1, 1) := by decide +kernel
theorem dX16_join_36 : decode cX16_join 36 = .ok (.iaload, 1) := by decide +kernel
theorem dX16_join_37 : decode cX16_join 37 = .ok (.aload_n 0, 1) := by decide +kernel
theorem dX16_join_38 : decode cX16_join 38 = .ok (.getfield 41, 3) := by decide +kernel
theorem dX16_join_41 : decode cX16_join 41 = .ok (.iload_n 2, 1) := by decide +kernel
theorem dX16_join_42 : decode cX16_join 42 = .ok (.iaload, 1) := by decide +kernel
theorem dX16_join_43 : decode cX16_join 43 = .ok (.if_icmp .eq 7, 3) := by decide +kernel
theorem dX16_join_50 : decode cX16_join 50 = .ok (.iconst 0, 1) := by decide +kernel
theorem dX16_join_51 : decode cX16_join 51 = .ok (.istore 4, 2) := by decide +kernel
theorem dX16_join_53 : decode cX16_join 53 = .ok (.aload_n 0, 1) := by decide +kernel
theorem dX16_join_54 : decode cX16_join 54 = .ok (.getfield 41, 3) := by decide +kernel
theorem dX16_join_57 : decode cX16_join 57 = .ok (.iload_n 1, 1) := by decide +kernel
theorem dX16_join_58 : decode cX16_join 58 = .ok (.iload_n 3, 1) := by decide +kernel
theorem dX16_join_59 : decode cX16_join 59 = .ok (.iastore, 1) := by decide +kernel
theorem dX16_join_60 : decode cX16_join 60 = .ok (.aload_n 0, 1) := by decide +kernel
theorem dX16_join_61 : decode cX16_join 61 = .ok (.getfield 41, 3) := by decide +kernel
theorem dX16_join_64 : decode cX16_join 64 = .ok (.iload_n 2, 1) := by decide +kernel
theorem dX16_join_65 : decode cX16_join 65 = .ok (.iload_n 3, 1) := by decide +kernel
theorem dX16_join_66 : decode cX16_join 66 = .ok (.iastore, 1) := by decide +kernel
theorem dX16_join_67 : decode cX16_join 67 = .ok (.iload 4, 2) := by decide +kernel
theorem dX16_join_69 : decode cX16_join 69 = .ok (.ireturn, 1) := by decide +kernel
theorem dX16_join_46 : decode cX16_join 46 = .ok (.iconst 1, 1) := by decide +kernel
theorem dX16_join_47 : decode cX16_join 47 = .ok (.goto 4, 3) := by decide +kernel
theorem dX16_join_15 : decode cX16_join 15 = .ok (.aload_n 0, 1) := by decide +kernel
theorem dX16_join_16 : decode cX16_join 16 = .ok (.getfield 41, 3) := by decide +kernel
theorem dX16_join_19 : decode cX16_join 19 = .ok (.iload_n 1, 1) := by decide +kernel
theorem dX16_join_20 : decode cX16_join 20 = .ok (.iaload, 1) := by decide +kernel
theorem dX16_join_21 : decode cX16_join 21 = .ok (.goto 9, 3) := by decide +kernel
theorem dX16_fill_0 : decode cX16_fill 0 = .ok (.iconst 0, 1) := by decide +kernel
theorem dX16_fill_1 : decode cX16_fill 1 = .ok (.istore_n 1, 1) := by decide +kernel
theorem dX16_fill_2 : decode cX16_fill 2 = .ok (.iload_n 1, 1) := by decide +kernel
theorem dX16_fill_3 : decode cX16_fill 3 = .ok (.sipush 1764, 3) := by decide +kernel
theorem dX16_fill_6 : decode cX16_fill 6 = .ok (.if_icmp .ge 16, 3) := by decide +kernel
theorem dX16_fill_9 : decode cX16_fill 9 = .ok (.aload_n 0, 1) := by decide +kernel
theorem dX16_fill_10 : decode cX16_fill 10 = .ok (.getfield 41, 3) := by decide +kernel
theorem dX16_fill_13 : decode cX16_fill 13 = .ok (.iload_n 1, 1) := by decide +kernel
theorem dX16_fill_14 : decode cX16_fill 14 = .ok (.iload_n 1, 1) := by decide +kernel
theorem dX16_fill_15 : decode cX16_fill 15 = .ok (.iastore, 1) := by decide +kernel
theorem dX16_fill_16 : decode cX16_fill 16 = .ok (.iinc 1 1, 3) := by decide +kernel
theorem dX16_fill_19 : decode cX16_fill 19 = .ok (.goto (-17), 3) := by decide +kernel
theorem dX16_fill_22 : decode cX16_fill 22 = .ok (.iconst 1, 1) := by decide +kernel
theorem dX16_fill_23 : decode cX16_fill 23 = .ok (.istore_n 1, 1) := by decide +kernel
theorem dX16_fill_24 : decode cX16_fill 24 = .ok (.iload_n 1, 1) := by decide +kernel
theorem dX16_fill_25 : decode cX16_fill 25 = .ok (.ifCond .eq 127, 3) := by decide +kernel
theorem dX16_fill_28 : decode cX16_fill 28 = .ok (.iconst 0, 1) := by decide +kernel
theorem dX16_fill_29 : decode cX16_fill 29 = .ok (.istore_n 1, 1) := by decide +kernel
theorem dX16_fill_30 : decode cX16_fill 30 = .ok (.iconst 0, 1) := by decide +kernel
theorem dX16_fill_31 : decode cX16_fill 31 = .ok (.istore_n 2, 1) := by decide +kernel
theorem dX16_fill_32 : decode cX16_fill 32 = .ok (.iload_n 2, 1) := by decide +kernel
theorem dX16_fill_33 : decode cX16_fill 33 = .ok (.aload_n 0, 1) := by decide +kernel
theorem dX16_fill_34 : decode cX16_fill 34 = .ok (.getfield 115, 3) := by decide +kernel
theorem dX16_fill_37 : decode cX16_fill 37 = .ok (.if_icmp .gt 112, 3) := by decide +kernel
theorem dX16_fill_40 : decode cX16_fill 40 = .ok (.iconst 0, 1) := by decide +kernel
theorem dX16_fill_41 : decode cX16_fill 41 = .ok (.istore_n 3, 1) := by decide +kernel
theorem dX16_fill_42 : decode cX16_fill 42 = .ok (.iload_n 3, 1) := by decide +kernel
theorem dX16_fill_43 : decode cX16_fill 43 = .ok (.aload_n 0, 1) := by decide +kernel
theorem dX16_fill_44 : decode cX16_fill 44 = .ok (.getfield 118, 3) := by decide +kernel
theorem dX16_fill_47 : decode cX16_fill 47 = .ok (.if_icmp .gt 96, 3) := by decide +kernel
theorem dX16_fill_50 : decode cX16_fill 50 = .ok (.bipush 42, 2) := by decide +kernel
theorem dX16_fill_52 : decode cX16_fill 52 = .ok (.iload_n 2, 1) := by decide +kernel
theorem dX16_fill_53 : decode cX16_fill 53 = .ok (.imul, 1) := by decide +kernel
theorem dX16_fill_54 : decode cX16_fill 54 = .ok (.iload_n 3, 1) := by decide +kernel
theorem dX16_fill_55 : decode cX16_fill 55 = .ok (.iadd, 1) := by decide +kernel
theorem dX16_fill_56 : decode cX16_fill 56 = .ok (.istore 4, 2) := by decide +kernel
theorem dX16_fill_58 : decode cX16_fill 58 = .ok (.iload_n 1, 1) := by decide +kernel
theorem dX16_fill_59 : decode cX16_fill 59 = .ok (.iload_n 3, 1) := by decide +kernel
theorem dX16_fill_60 : decode cX16_fill 60 = .ok (.aload_n 0, 1) := by decide +kernel
theorem dX16_fill_61 : decode cX16_fill 61 = .ok (.getfield 118, 3) := by decide +kernel
theorem dX16_fill_64 : decode cX16_fill 64 = .ok (.if_icmp .ge 30, 3) := by decide +kernel
theorem dX16_fill_94 : decode cX16_fill 94 = .ok (.iconst 0, 1) := by decide +kernel
theorem dX16_fill_95 : decode cX16_fill 95 = .ok (.ior, 1) := by decide +kernel
theorem dX16_fill_96 : decode cX16_fill 96 = .ok (.istore_n 1, 1) := by decide +kernel
theorem dX16_fill_97 : decode cX16_fill 97 = .ok (.iload_n 1, 1) := by decide +kernel
theorem dX16_fill_98 : decode cX16_fill 98 = .ok (.iload_n 2, 1) := by decide +kernel
theorem dX16_fill_99 : decode cX16_fill 99 = .ok (.aload_n 0, 1) := by decide +kernel
theorem dX16_fill_100 : decode cX16_fill 100 = .ok (.getfield 115, 3) := by decide +kernel
theorem dX16_fill_103 : decode cX16_fill 103 = .ok (.if_icmp .ge 31, 3) := by decide +kernel
theorem dX16_fill_134 : decode cX16_fill 134 = .ok (.iconst 0, 1) := by decide +kernel
theorem dX16_fill_135 : decode cX16_fill 135 = .ok (.ior, 1) := by decide +kernel
theorem dX16_fill_136 : decode cX16_fill 136 = .ok (.istore_n 1, 1) := by decide +kernel
theorem dX16_fill_137 : decode cX16_fill 137 = .ok (.iinc 3 1, 3) := by decide +kernel
theorem dX16_fill_140 : decode cX16_fill 140 = .ok (.goto (-98), 3) := by decide +kernel
theorem dX16_fill_106 : decode cX16_fill 106 = .ok (.aload_n 0, 1) := by decide +kernel
theorem dX16_fill_107 : decode cX16_fill 107 = .ok (.iload_n 3, 1) := by decide +kernel
theorem dX16_fill_108 : decode cX16_fill 108 = .ok (.iload_n 2, 1) := by decide +kernel
theorem dX16_fill_109 : decode cX16_fill 109 = .ok (.iconst 0, 1) := by decide +kernel
theorem dX16_fill_110 : decode cX16_fill 110 = .ok (.invokevirtual 121, 3) := by decide +kernel
theorem dX16_fill_113 : decode cX16_fill 113 = .ok (.ifCond .ne 21, 3) := by decide +kernel
theorem dX16_fill_116 : decode cX16_fill 116 = .ok (.aload_n 0, 1) := by decide +kernel
theorem dX16_fill_117 : decode cX16_fill 117 = .ok (.iload 4, 2) := by decide +kernel
theorem dX16_fill_119 : decode cX16_fill 119 = .ok (.iload 4, 2) := by decide +kernel
theorem dX16_fill_121 : decode cX16_fill 121 = .ok (.bipush 42, 2) := by decide +kernel
theorem dX16_fill_123 : decode cX16_fill 123 = .ok (.iadd, 1) := by decide +kernel
theorem dX16_fill_124 : decode cX16_fill 124 = .ok (.invokevirtual 125, 3) := by decide +kernel
theorem dX16_fill_127 : decode cX16_fill 127 = .ok (.ifCond .eq 7, 3) := by decide +kernel
theorem dX16_fill_130 : decode cX16_fill 130 = .ok (.iconst 1, 1) := by decide +kernel
theorem dX16_fill_131 : decode cX16_fill 131 = .ok (.goto 4, 3) := by decide +kernel
theorem dX16_fill_67 : decode cX16_fill 67 = .ok (.aload_n 0, 1) := by decide +kernel
theorem dX16_fill_68 : decode cX16_fill 68 = .ok (.iload_n 3, 1) := by decide +kernel
theorem dX16_fill_69 : decode cX16_fill 69 = .ok (.iload_n 2, 1) := by decide +kernel
theorem dX16_fill_70 : decode cX16_fill 70 = .ok (.iconst 1, 1) := by decide +kernel
theorem dX16_fill_71 : decode cX16_fill 71 = .ok (.invokevirtual 121, 3) := by decide +kernel
theorem dX16_fill_74 : decode cX16_fill 74 = .ok (.ifCond .ne 20, 3) := by decide +kernel
theorem dX16_fill_77 : decode cX16_fill 77 = .ok (.aload_n 0, 1) := by decide +kernel
theorem dX16_fill_78 : decode cX16_fill 78 = .ok (.iload 4, 2) := by decide +kernel
theorem dX16_fill_80 : decode cX16_fill 80 = .ok (.iload 4, 2) := by decide +kernel
theorem dX16_fill_82 : decode cX16_fill 82 = .ok (.iconst 1, 1) := by decide +kernel
theorem dX16_fill_83 : decode cX16_fill 83 = .ok (.iadd, 1) := by decide +kernel
theorem dX16_fill_84 : decode cX16_fill 84 = .ok (.invokevirtual 125, 3) := by decide +kernel
theorem dX16_fill_87 : decode cX16_fill 87 = .ok (.ifCond .eq 7, 3) := by decide +kernel
theorem dX16_fill_90 : decode cX16_fill 90 = .ok (.iconst 1, 1) := by decide +kernel
theorem dX16_fill_91 : decode cX16_fill 91 = .ok (.goto 4, 3) := by decide +kernel
theorem dX16_fill_143 : decode cX16_fill 143 = .ok (.iinc 2 1, 3) := by decide +kernel
theorem dX16_fill_146 : decode cX16_fill 146 = .ok (.goto (-114), 3) := by decide +kernel
theorem dX16_fill_149 : decode cX16_fill 149 = .ok (.goto (-125), 3) := by decide +kernel
theorem dX16_fill_152 : decode cX16_fill 152 = .ok (.return_, 1) := by decide +kernel
theorem dX16_pointAt_0 : decode cX16_pointAt 0 = .ok (.iconst 0, 1) := by decide +kernel
theorem dX16_pointAt_1 : decode cX16_pointAt 1 = .ok (.istore_n 3, 1) := by decide +kernel
theorem dX16_pointAt_2 : decode cX16_pointAt 2 = .ok (.iload_n 3, 1) := by decide +kernel
theorem dX16_pointAt_3 : decode cX16_pointAt 3 = .ok (.aload_n 0, 1) := by decide +kernel
theorem dX16_pointAt_4 : decode cX16_pointAt 4 = .ok (.getfield 129, 3) := by decide +kernel
theorem dX16_pointAt_7 : decode cX16_pointAt 7 = .ok (.if_icmp .ge 29, 3) := by decide +kernel
theorem dX16_pointAt_10 : decode cX16_pointAt 10 = .ok (.aload_n 0, 1) := by decide +kernel
theorem dX16_pointAt_11 : decode cX16_pointAt 11 = .ok (.getfield 59, 3) := by decide +kernel
theorem dX16_pointAt_14 : decode cX16_pointAt 14 = .ok (.iload_n 3, 1) := by decide +kernel
theorem dX16_pointAt_15 : decode cX16_pointAt 15 = .ok (.iaload, 1) := by decide +kernel
theorem dX16_pointAt_16 : decode cX16_pointAt 16 = .ok (.iload_n 1, 1) := by decide +kernel
theorem dX16_pointAt_17 : decode cX16_pointAt 17 = .ok (.if_icmp .ne 13, 3) := by decide +kernel
theorem dX16_pointAt_30 : decode cX16_pointAt 30 = .ok (.iinc 3 1, 3) := by decide +kernel
theorem dX16_pointAt_33 : decode cX16_pointAt 33 = .ok (.goto (-31), 3) := by decide +kernel
theorem dX16_pointAt_20 : decode cX16_pointAt 20 = .ok (.aload_n 0, 1) := by decide +kernel
theorem dX16_pointAt_21 : decode cX16_pointAt 21 = .ok (.getfield 62, 3) := by decide +kernel
theorem dX16_pointAt_24 : decode cX16_pointAt 24 = .ok (.iload_n 3, 1) := by decide +kernel
theorem dX16_pointAt_25 : decode cX16_pointAt 25 = .ok (.iaload, 1) := by decide +kernel
theorem dX16_pointAt_26 : decode cX16_pointAt 26 = .ok (.iload_n 2, 1) := by decide +kernel
theorem dX16_pointAt_27 : decode cX16_pointAt 27 = .ok (.if_icmp .eq 9, 3) := by decide +kernel
theorem dX16_pointAt_36 : decode cX16_pointAt 36 = .ok (.iload_n 3, 1) := by decide +kernel
theorem dX16_pointAt_37 : decode cX16_pointAt 37 = .ok (.ireturn, 1) := by decide +kernel
theorem dX16_point_0 : decode cX16_point 0 = .ok (.aload_n 0, 1) := by decide +kernel
theorem dX16_point_1 : decode cX16_point 1 = .ok (.iload_n 1, 1) := by decide +kernel
theorem dX16_point_2 : decode cX16_point 2 = .ok (.iload_n 2, 1) := by decide +kernel
theorem dX16_point_3 : decode cX16_point 3 = .ok (.invokevirtual 132, 3) := by decide +kernel
theorem dX16_point_6 : decode cX16_point 6 = .ok (.aload_n 0, 1) := by decide +kernel
theorem dX16_point_7 : decode cX16_point 7 = .ok (.getfield 129, 3) := by decide +kernel
theorem dX16_point_10 : decode cX16_point 10 = .ok (.if_icmp .ge 4, 3) := by decide +kernel
theorem dX16_point_14 : decode cX16_point 14 = .ok (.aload_n 0, 1) := by decide +kernel
theorem dX16_point_15 : decode cX16_point 15 = .ok (.getfield 129, 3) := by decide +kernel
theorem dX16_point_18 : decode cX16_point 18 = .ok (.istore_n 3, 1) := by decide +kernel
theorem dX16_point_19 : decode cX16_point 19 = .ok (.iload_n 3, 1) := by decide +kernel
theorem dX16_point_20 : decode cX16_point 20 = .ok (.ifCond .le 73, 3) := by decide +kernel
theorem dX16_point_23 : decode cX16_point 23 = .ok (.aload_n 0, 1) := by decide +kernel
theorem dX16_point_24 : decode cX16_point 24 = .ok (.getfield 59, 3) := by decide +kernel
theorem dX16_point_27 : decode cX16_point 27 = .ok (.iload_n 3, 1) := by decide +kernel
theorem dX16_point_28 : decode cX16_point 28 = .ok (.iconst 1, 1) := by decide +kernel
theorem dX16_point_29 : decode cX16_point 29 = .ok (.isub, 1) := by decide +kernel
theorem dX16_point_30 : decode cX16_point 30 = .ok (.iaload, 1) := by decide +kernel
theorem dX16_point_31 : decode cX16_point 31 = .ok (.iload_n 1, 1) := by decide +kernel
theorem dX16_point_32 : decode cX16_point 32 = .ok (.if_icmp .gt 27, 3) := by decide +kernel
theorem dX16_point_59 : decode cX16_point 59 = .ok (.aload_n 0, 1) := by decide +kernel
theorem dX16_point_60 : decode cX16_point 60 = .ok (.getfield 59, 3) := by decide +kernel
theorem dX16_point_63 : decode cX16_point 63 = .ok (.iload_n 3, 1) := by decide +kernel
theorem dX16_point_64 : decode cX16_point 64 = .ok (.aload_n 0, 1) := by decide +kernel
theorem dX16_point_65 : decode cX16_point 65 = .ok (.getfield 59, 3) := by decide +kernel
theorem dX16_point_68 : decode cX16_point 68 = .ok (.iload_n 3, 1) := by decide +kernel
theorem dX16_point_69 : decode cX16_point 69 = .ok (.iconst 1, 1) := by decide +kernel
theorem dX16_point_70 : decode cX16_point 70 = .ok (.isub, 1) := by decide +kernel
theorem dX16_point_71 : decode cX16_point 71 = .ok (.iaload, 1) := by decide +kernel
theorem dX16_point_72 : decode cX16_point 72 = .ok (.iastore, 1) := by decide +kernel
theorem dX16_point_73 : decode cX16_point 73 = .ok (.aload_n 0, 1) := by decide +kernel
theorem dX16_point_74 : decode cX16_point 74 = .ok (.getfield 62, 3) := by decide +kernel
theorem dX16_point_77 : decode cX16_point 77 = .ok (.iload_n 3, 1) := by decide +kernel
theorem dX16_point_78 : decode cX16_point 78 = .ok (.aload_n 0, 1) := by decide +kernel
theorem dX16_point_79 : decode cX16_point 79 = .ok (.getfield 62, 3) := by decide +kernel
theorem dX16_point_82 : decode cX16_point 82 = .ok (.iload_n 3, 1) := by decide +kernel
theorem dX16_point_83 : decode cX16_point 83 = .ok (.iconst 1, 1) := by decide +kernel
theorem dX16_point_84 : decode cX16_point 84 = .ok (.isub, 1) := by decide +kernel
theorem dX16_point_85 : decode cX16_point 85 = .ok (.iaload, 1) := by decide +kernel
theorem dX16_point_86 : decode cX16_point 86 = .ok (.iastore, 1) := by decide +kernel
theorem dX16_point_87 : decode cX16_point 87 = .ok (.iinc 3 (-1), 3) := by decide +kernel
theorem dX16_point_90 : decode cX16_point 90 = .ok (.goto (-71), 3) := by decide +kernel
theorem dX16_point_35 : decode cX16_point 35 = .ok (.aload_n 0, 1) := by decide +kernel
theorem dX16_point_36 : decode cX16_point 36 = .ok (.getfield 59, 3) := by decide +kernel
theorem dX16_point_39 : decode cX16_point 39 = .ok (.iload_n 3, 1) := by decide +kernel
theorem dX16_point_40 : decode cX16_point 40 = .ok (.iconst 1, 1) := by decide +kernel
theorem dX16_point_41 : decode cX16_point 41 = .ok (.isub, 1) := by decide +kernel
theorem dX16_point_42 : decode cX16_point 42 = .ok (.iaload, 1) := by decide +kernel
theorem dX16_point_43 : decode cX16_point 43 = .ok (.iload_n 1, 1) := by decide +kernel
theorem dX16_point_44 : decode cX16_point 44 = .ok (.if_icmp .ne 49, 3) := by decide +kernel
theorem dX16_point_47 : decode cX16_point 47 = .ok (.aload_n 0, 1) := by decide +kernel
theorem dX16_point_48 : decode cX16_point 48 = .ok (.getfield 62, 3) := by decide +kernel
theorem dX16_point_51 : decode cX16_point 51 = .ok (.iload_n 3, 1) := by decide +kernel
theorem dX16_point_52 : decode cX16_point 52 = .ok (.iconst 1, 1) := by decide +kernel
theorem dX16_point_53 : decode cX16_point 53 = .ok (.isub, 1) := by decide +kernel
theorem dX16_point_54 : decode cX16_point 54 = .ok (.iaload, 1) := by decide +kernel
theorem dX16_point_55 : decode cX16_point 55 = .ok (.iload_n 2, 1) := by decide +kernel
theorem dX16_point_56 : decode cX16_point 56 = .ok (.if_icmp .le 37, 3) := by decide +kernel
theorem dX16_point_93 : decode cX16_point 93 = .ok (.aload_n 0, 1) := by decide +kernel
theorem dX16_point_94 : decode cX16_point 94 = .ok (.getfield 59, 3) := by decide +kernel
theorem dX16_point_97 : decode cX16_point 97 = .ok (.iload_n 3, 1) := by decide +kernel
theorem dX16_point_98 : decode cX16_point 98 = .ok (.iload_n 1, 1) := by decide +kernel
theorem dX16_point_99 : decode cX16_point 99 = .ok (.iastore, 1) := by decide +kernel
theorem dX16_point_100 : decode cX16_point 100 = .ok (.aload_n 0, 1) := by decide +kernel
theorem dX16_point_101 : decode cX16_point 101 = .ok (.getfield 62, 3) := by decide +kernel
theorem dX16_point_104 : decode cX16_point 104 = .ok (.iload_n 3, 1) := by decide +kernel
theorem dX16_point_105 : decode cX16_point 105 = .ok (.iload_n 2, 1) := by decide +kernel
theorem dX16_point_106 : decode cX16_point 106 = .ok (.iastore, 1) := by decide +kernel
theorem dX16_point_107 : decode cX16_point 107 = .ok (.aload_n 0, 1) := by decide +kernel
theorem dX16_point_108 : decode cX16_point 108 = .ok (.dup, 1) := by decide +kernel
theorem dX16_point_109 : decode cX16_point 109 = .ok (.getfield 129, 3) := by decide +kernel
theorem dX16_point_112 : decode cX16_point 112 = .ok (.iconst 1, 1) := by decide +kernel
theorem dX16_point_113 : decode cX16_point 113 = .ok (.iadd, 1) := by decide +kernel
theorem dX16_point_114 : decode cX16_point 114 = .ok (.putfield 129, 3) := by decide +kernel
theorem dX16_point_117 : decode cX16_point 117 = .ok (.return_, 1) := by decide +kernel
theorem dX16_point_13 : decode cX16_point 13 = .ok (.return_, 1) := by decide +kernel
theorem dX16_findPoints_0 : decode cX16_findPoints 0 = .ok (.aload_n 0, 1) := by decide +kernel
theorem dX16_findPoints_1 : decode cX16_findPoints 1 = .ok (.iconst 0, 1) := by decide +kernel
theorem dX16_findPoints_2 : decode cX16_findPoints 2 = .ok (.putfield 129, 3) := by decide +kernel
theorem dX16_findPoints_5 : decode cX16_findPoints 5 = .ok (.iconst 0, 1) := by decide +kernel
theorem dX16_findPoints_6 : decode cX16_findPoints 6 = .ok (.istore_n 1, 1) := by decide +kernel
theorem dX16_findPoints_7 : decode cX16_findPoints 7 = .ok (.iload_n 1, 1) := by decide +kernel
theorem dX16_findPoints_8 : decode cX16_findPoints 8 = .ok (.aload_n 0, 1) := by decide +kernel
theorem dX16_findPoints_9 : decode cX16_findPoints 9 = .ok (.getfield 96, 3) := by decide +kernel
theorem dX16_findPoints_12 : decode cX16_findPoints 12 = .ok (.if_icmp .ge 129, 3) := by decide +kernel
theorem dX16_findPoints_15 : decode cX16_findPoints 15 = .ok (.aload_n 0, 1) := by decide +kernel
theorem dX16_findPoints_16 : decode cX16_findPoints 16 = .ok (.aload_n 0, 1) := by decide +kernel
theorem dX16_findPoints_17 : decode cX16_findPoints 17 = .ok (.getfield 7, 3) := by decide +kernel
theorem dX16_findPoints_20 : decode cX16_findPoints 20 = .ok (.iload_n 1, 1) := by decide +kernel
theorem dX16_findPoints_21 : decode cX16_findPoints 21 = .ok (.iaload, 1) := by decide +kernel
theorem dX16_findPoints_22 : decode cX16_findPoints 22 = .ok (.aload_n 0, 1) := by decide +kernel
theorem dX16_findPoints_23 : decode cX16_findPoints 23 = .ok (.getfield 13, 3) := by decide +kernel
theorem dX16_findPoints_26 : decode cX16_findPoints 26 = .ok (.iload_n 1, 1) := by decide +kernel
theorem dX16_findPoints_27 : decode cX16_findPoints 27 = .ok (.iaload, 1) := by decide +kernel
theorem dX16_findPoints_28 : decode cX16_findPoints 28 = .ok (.invokevirtual 135, 3) := by decide +kernel
theorem dX16_findPoints_31 : decode cX16_findPoints 31 = .ok (.aload_n 0, 1) := by decide +kernel
theorem dX16_findPoints_32 : decode cX16_findPoints 32 = .ok (.aload_n 0, 1) := by decide +kernel
theorem dX16_findPoints_33 : decode cX16_findPoints 33 = .ok (.iload_n 1, 1) := by decide +kernel
theorem dX16_findPoints_34 : decode cX16_findPoints 34 = .ok (.invokevirtual 89, 3) := by decide +kernel
theorem dX16_findPoints_37 : decode cX16_findPoints 37 = .ok (.aload_n 0, 1) := by decide +kernel
theorem dX16_findPoints_38 : decode cX16_findPoints 38 = .ok (.iload_n 1, 1) := by decide +kernel
theorem dX16_findPoints_39 : decode cX16_findPoints 39 = .ok (.invokevirtual 93, 3) := by decide +kernel
theorem dX16_findPoints_42 : decode cX16_findPoints 42 = .ok (.invokevirtual 135, 3) := by decide +kernel
theorem dX16_findPoints_45 : decode cX16_findPoints 45 = .ok (.iconst 0, 1) := by decide +kernel
theorem dX16_findPoints_46 : decode cX16_findPoints 46 = .ok (.istore_n 2, 1) := by decide +kernel
theorem dX16_findPoints_47 : decode cX16_findPoints 47 = .ok (.iload_n 2, 1) := by decide +kernel
theorem dX16_findPoints_48 : decode cX16_findPoints 48 = .ok (.aload_n 0, 1) := by decide +kernel
theorem dX16_findPoints_49 : decode cX16_findPoints 49 = .ok (.getfield 96, 3) := by decide +kernel
theorem dX16_findPoints_52 : decode cX16_findPoints 52 = .ok (.if_icmp .ge 83, 3) := by decide +kernel
theorem dX16_findPoints_55 : decode cX16_findPoints 55 = .ok (.aload_n 0, 1) := by decide +kernel
theorem dX16_findPoints_56 : decode cX16_findPoints 56 = .ok (.getfield 16, 3) := by decide +kernel
theorem dX16_findPoints_59 : decode cX16_findPoints 59 = .ok (.iload_n 1, 1) := by decide +kernel
theorem dX16_findPoints_60 : decode cX16_findPoints 60 = .ok (.baload, 1) := by decide +kernel
theorem dX16_findPoints_61 : decode cX16_findPoints 61 = .ok (.ifCond .eq 68, 3) := by decide +kernel
theorem dX16_findPoints_129 : decode cX16_findPoints 129 = .ok (.iinc 2 1, 3) := by decide +kernel
theorem dX16_findPoints_132 : decode cX16_findPoints 132 = .ok (.goto (-85), 3) := by decide +kernel
theorem dX16_findPoints_64 : decode cX16_findPoints 64 = .ok (.aload_n 0, 1) := by decide +kernel
theorem dX16_findPoints_65 : decode cX16_findPoints 65 = .ok (.getfield 16, 3) := by decide +kernel
theorem dX16_findPoints_68 : decode cX16_findPoints 68 = .ok (.iload_n 2, 1) := by decide +kernel
theorem dX16_findPoints_69 : decode cX16_findPoints 69 = .ok (.baload, 1) := by decide +kernel
theorem dX16_findPoints_70 : decode cX16_findPoints 70 = .ok (.ifCond .ne 59, 3) := by decide +kernel
theorem dX16_findPoints_73 : decode cX16_findPoints 73 = .ok (.aload_n 0, 1) := by decide +kernel
theorem dX16_findPoints_74 : decode cX16_findPoints 74 = .ok (.iload_n 1, 1) := by decide +kernel
theorem dX16_findPoints_75 : decode cX16_findPoints 75 = .ok (.aload_n 0, 1) := by decide +kernel
theorem dX16_findPoints_76 : decode cX16_findPoints 76 = .ok (.getfield 7, 3) := by decide +kernel
theorem dX16_findPoints_79 : decode cX16_findPoints 79 = .ok (.iload_n 2, 1) := by decide +kernel
theorem dX16_findPoints_80 : decode cX16_findPoints 80 = .ok (.iaload, 1) := by decide +kernel
theorem dX16_findPoints_81 : decode cX16_findPoints 81 = .ok (.aload_n 0, 1) := by decide +kernel
theorem dX16_findPoints_82 : decode cX16_findPoints 82 = .ok (.getfield 13, 3) := by decide +kernel
theorem dX16_findPoints_85 : decode cX16_findPoints 85 = .ok (.iload_n 1, 1) := by decide +kernel
theorem dX16_findPoints_86 : decode cX16_findPoints 86 = .ok (.iaload, 1) := by decide +kernel
theorem dX16_findPoints_87 : decode cX16_findPoints 87 = .ok (.invokevirtual 139, 3) := by decide +kernel
theorem dX16_findPoints_90 : decode cX16_findPoints 90 = .ok (.ifCond .eq 39, 3) := by decide +kernel
theorem dX16_findPoints_93 : decode cX16_findPoints 93 = .ok (.aload_n 0, 1) := by decide +kernel
theorem dX16_findPoints_94 : decode cX16_findPoints 94 = .ok (.iload_n 2, 1) := by decide +kernel
theorem dX16_findPoints_95 : decode cX16_findPoints 95 = .ok (.aload_n 0, 1) := by decide +kernel
theorem dX16_findPoints_96 : decode cX16_findPoints 96 = .ok (.getfield 7, 3) := by decide +kernel
theorem dX16_findPoints_99 : decode cX16_findPoints 99 = .ok (.iload_n 2, 1) := by decide +kernel
theorem dX16_findPoints_100 : decode cX16_findPoints 100 = .ok (.iaload, 1) := by decide +kernel
theorem dX16_findPoints_101 : decode cX16_findPoints 101 = .ok (.aload_n 0, 1) := by decide +kernel
theorem dX16_findPoints_102 : decode cX16_findPoints 102 = .ok (.getfield 13, 3) := by decide +kernel
theorem dX16_findPoints_105 : decode cX16_findPoints 105 = .ok (.iload_n 1, 1) := by decide +kernel
theorem dX16_findPoints_106 : decode cX16_findPoints 106 = .ok (.iaload, 1) := by decide +kernel
theorem dX16_findPoints_107 : decode cX16_findPoints 107 = .ok (.invokevirtual 139, 3) := by decide +kernel
theorem dX16_findPoints_110 : decode cX16_findPoints 110 = .ok (.ifCond .eq 19, 3) := by decide +kernel
theorem dX16_findPoints_113 : decode cX16_findPoints 113 = .ok (.aload_n 0, 1) := by decide +kernel
theorem dX16_findPoints_114 : decode cX16_findPoints 114 = .ok (.aload_n 0, 1) := by decide +kernel
theorem dX16_findPoints_115 : decode cX16_findPoints 115 = .ok (.getfield 7, 3) := by decide +kernel
theorem dX16_findPoints_118 : decode cX16_findPoints 118 = .ok (.iload_n 2, 1) := by decide +kernel
theorem dX16_findPoints_119 : decode cX16_findPoints 119 = .ok (.iaload, 1) := by decide +kernel
theorem dX16_findPoints_120 : decode cX16_findPoints 120 = .ok (.aload_n 0, 1) := by decide +kernel
theorem dX16_findPoints_121 : decode cX16_findPoints 121 = .ok (.getfield 13, 3) := by decide +kernel
theorem dX16_findPoints_124 : decode cX16_findPoints 124 = .ok (.iload_n 1, 1) := by decide +kernel
theorem dX16_findPoints_125 : decode cX16_findPoints 125 = .ok (.iaload, 1) := by decide +kernel
theorem dX16_findPoints_126 : decode cX16_findPoints 126 = .ok (.invokevirtual 135, 3) := by decide +kernel
theorem dX16_findPoints_135 : decode cX16_findPoints 135 = .ok (.iinc 1 1, 3) := by decide +kernel
theorem dX16_findPoints_138 : decode cX16_findPoints 138 = .ok (.goto (-131), 3) := by decide +kernel
theorem dX16_findPoints_141 : decode cX16_findPoints 141 = .ok (.aload_n 0, 1) := by decide +kernel
theorem dX16_findPoints_142 : decode cX16_findPoints 142 = .ok (.iconst 0, 1) := by decide +kernel
theorem dX16_findPoints_143 : decode cX16_findPoints 143 = .ok (.putfield 143, 3) := by decide +kernel
theorem dX16_findPoints_146 : decode cX16_findPoints 146 = .ok (.iconst 0, 1) := by decide +kernel
theorem dX16_findPoints_147 : decode cX16_findPoints 147 = .ok (.istore_n 1, 1) := by decide +kernel
theorem dX16_findPoints_148 : decode cX16_findPoints 148 = .ok (.iload_n 1, 1) := by decide +kernel
theorem dX16_findPoints_149 : decode cX16_findPoints 149 = .ok (.aload_n 0, 1) := by decide +kernel
theorem dX16_findPoints_150 : decode cX16_findPoints 150 = .ok (.getfield 96, 3) := by decide +kernel
theorem dX16_findPoints_153 : decode cX16_findPoints 153 = .ok (.if_icmp .ge 93, 3) := by decide +kernel
theorem dX16_findPoints_156 : decode cX16_findPoints 156 = .ok (.iconst (-1), 1) := by decide +kernel
theorem dX16_findPoints_157 : decode cX16_findPoints 157 = .ok (.istore_n 2, 1) := by decide +kernel
theorem dX16_findPoints_158 : decode cX16_findPoints 158 = .ok (.iconst 0, 1) := by decide +kernel
theorem dX16_findPoints_159 : decode cX16_findPoints 159 = .ok (.istore_n 3, 1) := by decide +kernel
theorem dX16_findPoints_160 : decode cX16_findPoints 160 = .ok (.iload_n 3, 1) := by decide +kernel
theorem dX16_findPoints_161 : decode cX16_findPoints 161 = .ok (.aload_n 0, 1) := by decide +kernel
theorem dX16_findPoints_162 : decode cX16_findPoints 162 = .ok (.getfield 129, 3) := by decide +kernel
theorem dX16_findPoints_165 : decode cX16_findPoints 165 = .ok (.if_icmp .ge 75, 3) := by decide +kernel
theorem dX16_findPoints_168 : decode cX16_findPoints 168 = .ok (.aload_n 0, 1) := by decide +kernel
theorem dX16_findPoints_169 : decode cX16_findPoints 169 = .ok (.iload_n 1, 1) := by decide +kernel
theorem dX16_findPoints_170 : decode cX16_findPoints 170 = .ok (.aload_n 0, 1) := by decide +kernel
theorem dX16_findPoints_171 : decode cX16_findPoints 171 = .ok (.getfield 59, 3) := by decide +kernel
theorem dX16_findPoints_174 : decode cX16_findPoints 174 = .ok (.iload_n 3, 1) := by decide +kernel
theorem dX16_findPoints_175 : decode cX16_findPoints 175 = .ok (.iaload, 1) := by decide +kernel
theorem dX16_findPoints_176 : decode cX16_findPoints 176 = .ok (.aload_n 0, 1) := by decide +kernel
theorem dX16_findPoints_177 : decode cX16_findPoints 177 = .ok (.getfield 62, 3) := by decide +kernel
theorem dX16_findPoints_180 : decode cX16_findPoints 180 = .ok (.iload_n 3, 1) := by decide +kernel
theorem dX16_findPoints_181 : decode cX16_findPoints 181 = .ok (.iaload, 1) := by decide +kernel
theorem dX16_findPoints_182 : decode cX16_findPoints 182 = .ok (.invokevirtual 139, 3) := by decide +kernel
theorem dX16_findPoints_185 : decode cX16_findPoints 185 = .ok (.ifCond .eq 49, 3) := by decide +kernel
theorem dX16_findPoints_234 : decode cX16_findPoints 234 = .ok (.iinc 3 1, 3) := by decide +kernel
theorem dX16_findPoints_237 : decode cX16_findPoints 237 = .ok (.goto (-77), 3) := by decide +kernel
theorem dX16_findPoints_188 : decode cX16_findPoints 188 = .ok (.iload_n 2, 1) := by decide +kernel
theorem dX16_findPoints_189 : decode cX16_findPoints 189 = .ok (.ifCond .lt 43, 3) := by decide +kernel
theorem dX16_findPoints_232 : decode cX16_findPoints 232 = .ok (.iload_n 3, 1) := by decide +kernel
theorem dX16_findPoints_233 : decode cX16_findPoints 233 = .ok (.istore_n 2, 1) := by decide +kernel
theorem dX16_findPoints_192 : decode cX16_findPoints 192 = .ok (.aload_n 0, 1) := by decide +kernel
theorem dX16_findPoints_193 : decode cX16_findPoints 193 = .ok (.getfield 65, 3) := by decide +kernel
theorem dX16_findPoints_196 : decode cX16_findPoints 196 = .ok (.aload_n 0, 1) := by decide +kernel
theorem dX16_findPoints_197 : decode cX16_findPoints 197 = .ok (.getfield 143, 3) := by decide +kernel
theorem dX16_findPoints_200 : decode cX16_findPoints 200 = .ok (.iload_n 1, 1) := by decide +kernel
theorem dX16_findPoints_201 : decode cX16_findPoints 201 = .ok (.iastore, 1) := by decide +kernel
theorem dX16_findPoints_202 : decode cX16_findPoints 202 = .ok (.aload_n 0, 1) := by decide +kernel
theorem dX16_findPoints_203 : decode cX16_findPoints 203 = .ok (.getfield 68, 3) := by decide +kernel
theorem dX16_findPoints_206 : decode cX16_findPoints 206 = .ok (.aload_n 0, 1) := by decide +kernel
theorem dX16_findPoints_207 : decode cX16_findPoints 207 = .ok (.getfield 143, 3) := by decide +kernel
theorem dX16_findPoints_210 : decode cX16_findPoints 210 = .ok (.iload_n 2, 1) := by decide +kernel
theorem dX16_findPoints_211 : decode cX16_findPoints 211 = .ok (.iastore, 1) := by decide +kernel
theorem dX16_findPoints_212 : decode cX16_findPoints 212 = .ok (.aload_n 0, 1) := by decide +kernel
theorem dX16_findPoints_213 : decode cX16_findPoints 213 = .ok (.getfield 71, 3) := by decide +kernel
theorem dX16_findPoints_216 : decode cX16_findPoints 216 = .ok (.aload_n 0, 1) := by decide +kernel
theorem dX16_findPoints_217 : decode cX16_findPoints 217 = .ok (.getfield 143, 3) := by decide +kernel
theorem dX16_findPoints_220 : decode cX16_findPoints 220 = .ok (.iload_n 3, 1) := by decide +kernel
theorem dX16_findPoints_221 : decode cX16_findPoints 221 = .ok (.iastore, 1) := by decide +kernel
theorem dX16_findPoints_222 : decode cX16_findPoints 222 = .ok (.aload_n 0, 1) := by decide +kernel
theorem dX16_findPoints_223 : decode cX16_findPoints 223 = .ok (.dup, 1) := by decide +kernel
theorem dX16_findPoints_224 : decode cX16_findPoints 224 = .ok (.getfield 143, 3) := by decide +kernel
theorem dX16_findPoints_227 : decode cX16_findPoints 227 = .ok (.iconst 1, 1) := by decide +kernel
theorem dX16_findPoints_228 : decode cX16_findPoints 228 = .ok (.iadd, 1) := by decide +kernel
theorem dX16_findPoints_229 : decode cX16_findPoints 229 = .ok (.putfield 143, 3) := by decide +kernel
theorem dX16_findPoints_240 : decode cX16_findPoints 240 = .ok (.iinc 1 1, 3) := by decide +kernel
theorem dX16_findPoints_243 : decode cX16_findPoints 243 = .ok (.goto (-95), 3) := by decide +kernel
theorem dX16_findPoints_246 : decode cX16_findPoints 246 = .ok (.return_, 1) := by decide +kernel
theorem zl_X15_237 : zm_L zk_E RX15 237 yX15_holds (.code yX15_holds cX15_holds 8 (some .boolean)) 2 ∧ Cond.instanceMethod yX15_holds ∈ zk_E.2.2.1 ∧ Cond.selects yX15_holds.cls yX15_holds yX15_holds ∈ zk_E.2.2.1 := ⟨⟨zk_b18 114 (by decide +kernel) rfl, zk_b1 15 (by decide +kernel) rfl, zk_b18 111 (by decide +kernel) rfl, by decide +kernel, by decide +kernel, by decide +kernel⟩, zk_b18 113 (by decide +kernel) rfl, zk_s14 (q := (yX15_holds, 44)) 1 (by decide +kernel)⟩
theorem zl_X15_241 : zm_L zk_E RX15 241 yX15_ask (.code yX15_ask cX15_ask 8 (some .int)) 3 ∧ Cond.instanceMethod yX15_ask ∈ zk_E.2.2.1 ∧ Cond.selects yX15_ask.cls yX15_ask yX15_ask ∈ zk_E.2.2.1 := ⟨⟨zk_b18 110 (by decide +kernel) rfl, zk_b1 15 (by decide +kernel) rfl, zk_b18 107 (by decide +kernel) rfl, by decide +kernel, by decide +kernel, by decide +kernel⟩, zk_b18 109 (by decide +kernel) rfl, zk_s14 (q := (yX15_ask, 44)) 0 (by decide +kernel)⟩
theorem zl_X16_1 : Cond.methodLink RX16 1 Lib.objectInit ∈ zk_E.2.2.1 ∧ Cond.instanceMethod Lib.objectInit ∈ zk_E.2.2.1 ∧ Cond.code Lib.objectInit ⟨#[0xb1]⟩ 1 none ∈ zk_E.2.2.1 := ⟨zk_b13 73 (by decide +kernel) rfl, zk_b1 43 (by decide +kernel) rfl, zk_b1 44 (by decide +kernel) rfl⟩
theorem zl_X16_7 : zm_F zk_E RX16 7 16 1 := ⟨RX16, TX16, 40, rfl, zk_i16, by decide, zk_b13 76 (by decide +kernel) rfl⟩
theorem zt_16_1 : zm_T zk_E RX16 16 1 (.array .int) true := ⟨RX16, TX16, 40, tyX16, rfl, tyX16_ok, nmX16, rfl, rfl, rfl⟩
theorem zl_X16_13 : zm_F zk_E RX16 13 16 2 := ⟨RX16, TX16, 40, rfl, zk_i16, by decide, zk_b13 77 (by decide +kernel) rfl⟩
theorem zt_16_2 : zm_T zk_E RX16 16 2 (.array .int) true := ⟨RX16, TX16, 40, tyX16, rfl, tyX16_ok, nmX16, rfl, rfl, rfl⟩
theorem zl_X16_16 : zm_F zk_E RX16 16 16 3 := ⟨RX16, TX16, 40, rfl, zk_i16, by decide, zk_b13 78 (by decide +kernel) rfl⟩
theorem zt_16_3 : zm_T zk_E RX16 16 3 (.array .boolean) true := ⟨RX16, TX16, 40, tyX16, rfl, tyX16_ok, nmX16, rfl, rfl, rfl⟩
theorem zl_X16_20 : zm_F zk_E RX16 20 16 4 := ⟨RX16, TX16, 40, rfl, zk_i16, by decide, zk_b13 79 (by decide +kernel) rfl⟩
theorem zt_16_4 : zm_T zk_E RX16 16 4 (.array .int) true := ⟨RX16, TX16, 40, tyX16, rfl, tyX16_ok, nmX16, rfl, rfl, rfl⟩
theorem zl_X16_23 : zm_F zk_E RX16 23 16 5 := ⟨RX16, TX16, 40, rfl, zk_i16, by decide, zk_b13 80 (by decide +kernel) rfl⟩
theorem zt_16_5 : zm_T zk_E RX16 16 5 (.array .int) true := ⟨RX16, TX16, 40, tyX16, rfl, tyX16_ok, nmX16, rfl, rfl, rfl⟩
theorem zl_X16_26 : zm_F zk_E RX16 26 16 6 := ⟨RX16, TX16, 40, rfl, zk_i16, by decide, zk_b13 82 (by decide +kernel) rfl⟩
theorem zt_16_6 : zm_T zk_E RX16 16 6 (.array .int) true := ⟨RX16, TX16, 40, tyX16, rfl, tyX16_ok, nmX16, rfl, rfl, rfl⟩
theorem zl_X16_29 : zm_F zk_E RX16 29 16 7 := ⟨RX16, TX16, 40, rfl, zk_i16, by decide, zk_b13 83 (by decide +kernel) rfl⟩
theorem zt_16_7 : zm_T zk_E RX16 16 7 (.array .int) true := ⟨RX16, TX16, 40, tyX16, rfl, tyX16_ok, nmX16, rfl, rfl, rfl⟩
theorem zl_X16_32 : zm_F zk_E RX16 32 16 8 := ⟨RX16, TX16, 40, rfl, zk_i16, by decide, zk_b13 84 (by decide +kernel) rfl⟩
theorem zt_16_8 : zm_T zk_E RX16 16 8 (.array .int) true := ⟨RX16, TX16, 40, tyX16, rfl, tyX16_ok, nmX16, rfl, rfl, rfl⟩
theorem zl_X16_35 : zm_F zk_E RX16 35 16 14 := ⟨RX16, TX16, 40, rfl, zk_i16, by decide, zk_b13 93 (by decide +kernel) rfl⟩
theorem zt_16_14 : zm_T zk_E RX16 16 14 (.array .int) false := ⟨RX16, TX16, 40, tyX16, rfl, tyX16_ok, nmX16, rfl, rfl, rfl⟩
theorem zl_X16_38 : zm_F zk_E RX16 38 16 15 := ⟨RX16, TX16, 40, rfl, zk_i16, by decide, zk_b13 94 (by decide +kernel) rfl⟩
theorem zt_16_15 : zm_T zk_E RX16 16 15 (.array .int) false := ⟨RX16, TX16, 40, tyX16, rfl, tyX16_ok, nmX16, rfl, rfl, rfl⟩
theorem zl_X16_41 : zm_F zk_E RX16 41 16 16 := ⟨RX16, TX16, 40, rfl, zk_i16, by decide, zk_b13 95 (by decide +kernel) rfl⟩
theorem zt_16_16 : zm_T zk_E RX16 16 16 (.array .int) false := ⟨RX16, TX16, 40, tyX16, rfl, tyX16_ok, nmX16, rfl, rfl, rfl⟩
theorem zl_X16_44 : zm_F zk_E RX16 44 16 21 := ⟨RX16, TX16, 40, rfl, zk_i16, by decide, zk_b13 101 (by decide +kernel) rfl⟩
theorem zt_16_21 : zm_T zk_E RX16 16 21 (.array .int) false := ⟨RX16, TX16, 40, tyX16, rfl, tyX16_ok, nmX16, rfl, rfl, rfl⟩
theorem zl_X16_47 : zm_F zk_E RX16 47 16 22 := ⟨RX16, TX16, 40, rfl, zk_i16, by decide, zk_b13 102 (by decide +kernel) rfl⟩
theorem zt_16_22 : zm_T zk_E RX16 16 22 (.array .int) false := ⟨RX16, TX16, 40, tyX16, rfl, tyX16_ok, nmX16, rfl, rfl, rfl⟩
theorem zl_X16_50 : zm_F zk_E RX16 50 16 23 := ⟨RX16, TX16, 40, rfl, zk_i16, by decide, zk_b13 103 (by decide +kernel) rfl⟩
theorem zt_16_23 : zm_T zk_E RX16 16 23 (.array .int) false := ⟨RX16, TX16, 40, tyX16, rfl, tyX16_ok, nmX16, rfl, rfl, rfl⟩
theorem zl_X16_53 : zm_F zk_E RX16 53 16 25 := ⟨RX16, TX16, 40, rfl, zk_i16, by decide, zk_b13 105 (by decide +kernel) rfl⟩
theorem zt_16_25 : zm_T zk_E RX16 16 25 (.array .int) false := ⟨RX16, TX16, 40, tyX16, rfl, tyX16_ok, nmX16, rfl, rfl, rfl⟩
theorem zl_X16_56 : zm_F zk_E RX16 56 16 26 := ⟨RX16, TX16, 40, rfl, zk_i16, by decide, zk_b13 107 (by decide +kernel) rfl⟩
theorem zt_16_26 : zm_T zk_E RX16 16 26 (.array .int) false := ⟨RX16, TX16, 40, tyX16, rfl, tyX16_ok, nmX16, rfl, rfl, rfl⟩
theorem zl_X16_59 : zm_F zk_E RX16 59 16 28 := ⟨RX16, TX16, 40, rfl, zk_i16, by decide, zk_b13 110 (by decide +kernel) rfl⟩
theorem zt_16_28 : zm_T zk_E RX16 16 28 (.array .int) true := ⟨RX16, TX16, 40, tyX16, rfl, tyX16_ok, nmX16, rfl, rfl, rfl⟩
theorem zl_X16_62 : zm_F zk_E RX16 62 16 29 := ⟨RX16, TX16, 40, rfl, zk_i16, by decide, zk_b13 111 (by decide +kernel) rfl⟩
theorem zt_16_29 : zm_T zk_E RX16 16 29 (.array .int) true := ⟨RX16, TX16, 40, tyX16, rfl, tyX16_ok, nmX16, rfl, rfl, rfl⟩
theorem zl_X16_65 : zm_F zk_E RX16 65 16 31 := ⟨RX16, TX16, 40, rfl, zk_i16, by decide, zk_b13 114 (by decide +kernel) rfl⟩
theorem zt_16_31 : zm_T zk_E RX16 16 31 (.array .int) true := ⟨RX16, TX16, 40, tyX16, rfl, tyX16_ok, nmX16, rfl, rfl, rfl⟩
theorem zl_X16_68 : zm_F zk_E RX16 68 16 32 := ⟨RX16, TX16, 40, rfl, zk_i16, by decide, zk_b13 115 (by decide +kernel) rfl⟩
theorem zt_16_32 : zm_T zk_E RX16 16 32 (.array .int) true := ⟨RX16, TX16, 40, tyX16, rfl, tyX16_ok, nmX16, rfl, rfl, rfl⟩
theorem zl_X16_71 : zm_F zk_E RX16 71 16 33 := ⟨RX16, TX16, 40, rfl, zk_i16, by decide, zk_b13 116 (by decide +kernel) rfl⟩
theorem zt_16_33 : zm_T zk_E RX16 16 33 (.array .int) true := ⟨RX16, TX16, 40, tyX16, rfl, tyX16_ok, nmX16, rfl, rfl, rfl⟩
theorem zl_X16_74 : zm_F zk_E RX16 74 16 34 := ⟨RX16, TX16, 40, rfl, zk_i16, by decide, zk_b13 117 (by decide +kernel) rfl⟩
theorem zt_16_34 : zm_T zk_E RX16 16 34 (.array .boolean) true := ⟨RX16, TX16, 40, tyX16, rfl, tyX16_ok, nmX16, rfl, rfl, rfl⟩
theorem zl_X16_77 : zm_F zk_E RX16 77 16 36 := ⟨RX16, TX16, 40, rfl, zk_i16, by decide, zk_b13 119 (by decide +kernel) rfl⟩
theorem zt_16_36 : zm_T zk_E RX16 16 36 (.array .int) true := ⟨RX16, TX16, 40, tyX16, rfl, tyX16_ok, nmX16, rfl, rfl, rfl⟩
theorem zl_X16_80 : zm_F zk_E RX16 80 16 37 := ⟨RX16, TX16, 40, rfl, zk_i16, by decide, zk_b13 120 (by decide +kernel) rfl⟩
theorem zt_16_37 : zm_T zk_E RX16 16 37 (.array .int) true := ⟨RX16, TX16, 40, tyX16, rfl, tyX16_ok, nmX16, rfl, rfl, rfl⟩
theorem zl_X16_83 : zm_F zk_E RX16 83 16 38 := ⟨RX16, TX16, 40, rfl, zk_i16, by decide, zk_b13 121 (by decide +kernel) rfl⟩
theorem zt_16_38 : zm_T zk_E RX16 16 38 (.array .int) true := ⟨RX16, TX16, 40, tyX16, rfl, tyX16_ok, nmX16, rfl, rfl, rfl⟩
theorem zl_X16_86 : zm_F zk_E RX16 86 16 39 := ⟨RX16, TX16, 40, rfl, zk_i16, by decide, zk_b13 122 (by decide +kernel) rfl⟩
theorem zt_16_39 : zm_T zk_E RX16 16 39 (.array .int) true := ⟨RX16, TX16, 40, tyX16, rfl, tyX16_ok, nmX16, rfl, rfl, rfl⟩
theorem zl_X16_89 : zm_L zk_E RX16 89 yX16_highX (.code yX16_highX cX16_highX 2 (some .int)) 1 ∧ Cond.instanceMethod yX16_highX ∈ zk_E.2.2.1 ∧ Cond.selects yX16_highX.cls yX16_highX yX16_highX ∈ zk_E.2.2.1 := ⟨⟨zk_b16 238 (by decide +kernel) rfl, zk_b1 14 (by decide +kernel) rfl, zk_b16 235 (by decide +kernel) rfl, by decide +kernel, by decide +kernel, by decide +kernel⟩, zk_b16 237 (by decide +kernel) rfl, zk_s11 (q := (yX16_highX, 40)) 10 (by decide +kernel)⟩
theorem zl_X16_93 : zm_L zk_E RX16 93 yX16_highY (.code yX16_highY cX16_highY 2 (some .int)) 1 ∧ Cond.instanceMethod yX16_highY ∈ zk_E.2.2.1 ∧ Cond.selects yX16_highY.cls yX16_highY yX16_highY ∈ zk_E.2.2.1 := ⟨⟨zk_b17 2 (by decide +kernel) rfl, zk_b1 14 (by decide +kernel) rfl, zk_b16 239 (by decide +kernel) rfl, by decide +kernel, by decide +kernel, by decide +kernel⟩, zk_b17 1 (by decide +kernel) rfl, zk_s11 (q := (yX16_highY, 40)) 11 (by decide +kernel)⟩
theorem zl_X16_96 : zm_F zk_E RX16 96 16 0 := ⟨RX16, TX16, 40, rfl, zk_i16, by decide, zk_b13 74 (by decide +kernel) rfl⟩
theorem zl_X16_100 : zm_L zk_E RX16 100 yX16_along (.code yX16_along cX16_along 5 (some .int)) 2 ∧ Cond.instanceMethod yX16_along ∈ zk_E.2.2.1 ∧ Cond.selects yX16_along.cls yX16_along yX16_along ∈ zk_E.2.2.1 := ⟨⟨zk_b16 234 (by decide +kernel) rfl, zk_b1 14 (by decide +kernel) rfl, zk_b16 231 (by decide +kernel) rfl, by decide +kernel, by decide +kernel, by decide +kernel⟩, zk_b16 233 (by decide +kernel) rfl, zk_s11 (q := (yX16_along, 40)) 9 (by decide +kernel)⟩
theorem zl_X16_104 : zm_L zk_E RX16 104 yX16_isAlone (.code yX16_isAlone cX16_isAlone 4 (some .boolean)) 1 ∧ Cond.instanceMethod yX16_isAlone ∈ zk_E.2.2.1 ∧ Cond.selects yX16_isAlone.cls yX16_isAlone yX16_isAlone ∈ zk_E.2.2.1 := ⟨⟨zk_b16 230 (by decide +kernel) rfl, zk_b1 14 (by decide +kernel) rfl, zk_b16 227 (by decide +kernel) rfl, by decide +kernel, by decide +kernel, by decide +kernel⟩, zk_b16 229 (by decide +kernel) rfl, zk_s11 (q := (yX16_isAlone, 40)) 8 (by decide +kernel)⟩
theorem zt_16_0 : zm_T zk_E RX16 16 0 .int false := ⟨RX16, TX16, 40, tyX16, rfl, tyX16_ok, nmX16, rfl, rfl, rfl⟩
theorem zl_X16_108 : zm_F zk_E RX16 108 16 10 := ⟨RX16, TX16, 40, rfl, zk_i16, by decide, zk_b13 87 (by decide +kernel) rfl⟩
theorem zt_16_10 : zm_T zk_E RX16 16 10 .boolean false := ⟨RX16, TX16, 40, tyX16, rfl, tyX16_ok, nmX16, rfl, rfl, rfl⟩
theorem zl_X16_112 : zm_L zk_E RX16 112 yX16_isIn (.code yX16_isIn cX16_isIn 1 (some .boolean)) 1 ∧ Cond.static yX16_isIn ∈ zk_E.2.2.1 := ⟨⟨zk_b16 218 (by decide +kernel) rfl, zk_b1 14 (by decide +kernel) rfl, zk_b17 14 (by decide +kernel) rfl, by decide +kernel, by decide +kernel, by decide +kernel⟩, zk_b16 217 (by decide +kernel) rfl⟩
theorem zl_X16_118 : zm_F zk_E RX16 118 16 12 := ⟨RX16, TX16, 40, rfl, zk_i16, by decide, zk_b13 91 (by decide +kernel) rfl⟩
theorem zl_X16_115 : zm_F zk_E RX16 115 16 13 := ⟨RX16, TX16, 40, rfl, zk_i16, by decide, zk_b13 92 (by decide +kernel) rfl⟩
theorem zl_X16_121 : zm_L zk_E RX16 121 yX16_isShut (.code yX16_isShut cX16_isShut 9 (some .boolean)) 3 ∧ Cond.instanceMethod yX16_isShut ∈ zk_E.2.2.1 ∧ Cond.selects yX16_isShut.cls yX16_isShut yX16_isShut ∈ zk_E.2.2.1 := ⟨⟨zk_b17 57 (by decide +kernel) rfl, zk_b1 14 (by decide +kernel) rfl, zk_b17 54 (by decide +kernel) rfl, by decide +kernel, by decide +kernel, by decide +kernel⟩, zk_b17 56 (by decide +kernel) rfl, zk_s11 (q := (yX16_isShut, 40)) 15 (by decide +kernel)⟩
theorem zl_X16_125 : zm_L zk_E RX16 125 yX16_join (.code yX16_join cX16_join 5 (some .boolean)) 2 ∧ Cond.instanceMethod yX16_join ∈ zk_E.2.2.1 ∧ Cond.selects yX16_join.cls yX16_join yX16_join ∈ zk_E.2.2.1 := ⟨⟨zk_b17 61 (by decide +kernel) rfl, zk_b1 14 (by decide +kernel) rfl, zk_b17 58 (by decide +kernel) rfl, by decide +kernel, by decide +kernel, by decide +kernel⟩, zk_b17 60 (by decide +kernel) rfl, zk_s12 (q := (yX16_join, 40)) 0 (by decide +kernel)⟩
theorem zl_X16_129 : zm_F zk_E RX16 129 16 27 := ⟨RX16, TX16, 40, rfl, zk_i16, by decide, zk_b13 109 (by decide +kernel) rfl⟩
theorem zl_X16_132 : zm_L zk_E RX16 132 yX16_pointAt (.code yX16_pointAt cX16_pointAt 4 (some .int)) 2 ∧ Cond.instanceMethod yX16_pointAt ∈ zk_E.2.2.1 ∧ Cond.selects yX16_pointAt.cls yX16_pointAt yX16_pointAt ∈ zk_E.2.2.1 := ⟨⟨zk_b17 73 (by decide +kernel) rfl, zk_b1 14 (by decide +kernel) rfl, zk_b17 70 (by decide +kernel) rfl, by decide +kernel, by decide +kernel, by decide +kernel⟩, zk_b17 72 (by decide +kernel) rfl, zk_s12 (q := (yX16_pointAt, 40)) 3 (by decide +kernel)⟩
theorem zt_16_27 : zm_T zk_E RX16 16 27 .int false := ⟨RX16, TX16, 40, tyX16, rfl, tyX16_ok, nmX16, rfl, rfl, rfl⟩
theorem zl_X16_135 : zm_L zk_E RX16 135 yX16_point (.code yX16_point cX16_point 4 none) 2 ∧ Cond.instanceMethod yX16_point ∈ zk_E.2.2.1 ∧ Cond.selects yX16_point.cls yX16_point yX16_point ∈ zk_E.2.2.1 := ⟨⟨zk_b17 69 (by decide +kernel) rfl, zk_b1 14 (by decide +kernel) rfl, zk_b17 66 (by decide +kernel) rfl, by decide +kernel, by decide +kernel, by decide +kernel⟩, zk_b17 68 (by decide +kernel) rfl, zk_s12 (q := (yX16_point, 40)) 2 (by decide +kernel)⟩
theorem zl_X16_139 : zm_L zk_E RX16 139 yX16_isOn (.code yX16_isOn cX16_isOn 4 (some .boolean)) 3 ∧ Cond.instanceMethod yX16_isOn ∈ zk_E.2.2.1 ∧ Cond.selects yX16_isOn.cls yX16_isOn yX16_isOn ∈ zk_E.2.2.1 := ⟨⟨zk_b17 77 (by decide +kernel) rfl, zk_b1 14 (by decide +kernel) rfl, zk_b17 74 (by decide +kernel) rfl, by decide +kernel, by decide +kernel, by decide +kernel⟩, zk_b17 76 (by decide +kernel) rfl, zk_s12 (q := (yX16_isOn, 40)) 4 (by decide +kernel)⟩
theorem zl_X16_143 : zm_F zk_E RX16 143 16 30 := ⟨RX16, TX16, 40, rfl, zk_i16, by decide, zk_b13 113 (by decide +kernel) rfl⟩
theorem zt_16_30 : zm_T zk_E RX16 16 30 .int false := ⟨RX16, TX16, 40, tyX16, rfl, tyX16_ok, nmX16, rfl, rfl, rfl⟩
set_option maxHeartbeats 4000000 in
set_option maxRecDepth 100000 in
theorem zt_X15_ask_L82 {p : Program} {l : Launch} {e : Env} {R : Room} {s : State} {m : MethodId} {args : Array Value} {below : List Frame} {meth : Method} {c : Code} {V : zm_V} {mc ms d rc rs : Nat} (hX : zm_X p R s m args meth c RX15 "ask" cX15_ask 8 zk_E V mc ms) (hr : meth.sig.returnType = (some .int)) (hR : R.frames = d ∧ R.locals = 64 * d) (hd : 6 ≤ d) {N : Nat} {res : (Int32 × zm_S) ⊕ ((Int32) × zm_S)} {out : (Int32 × zm_S)} (a0 : Nat) (i1 : Int32) (i4 : Int32) (hf : ∀ o, res = .inl o → o = out) (hk : ∀ (x6 : Int32) (S' : zm_S), res = .inr (x6, S') → zw p l e R s m args below meth c (vx_MQ below (zm_Qc zk_E V (zo_i out)) (zm_XC zk_E V zo_x) args s mc ms (fun q => V.2.2.2.1 ≤ q)) 8 zk_E V mc ms 116 [(0, .ref a0), (6, .int x6)] [] S' rc rs) : ∀ (n : Nat) (i6 : Int32) (i7 : Int32) (S : zm_S), zf_X15_ask_L82 N n a0 i1 i4 i6 i7 S = some res → zw p l e R s m args below meth c (vx_MQ below (zm_Qc zk_E V (zo_i out)) (zm_XC zk_E V zo_x) args s mc ms (fun q => V.2.2.2.1 ≤ q)) 8 zk_E V mc ms 82 [(0, .ref a0), (1, .int i1), (4, .int i4), (6, .int i6), (7, .int i7)] [] S rc rs := by
  intro n
  induction n with
  | zero => intro i6 i7 S h; cases h
  | succ n ih =>
    intro i6 i7 S h
    rw [zf_X15_ask_L82] at h
    refine zw_iload hX dX15_ask_82 rfl ?_
    refine zw_aload_n hX dX15_ask_84 rfl ?_
    obtain ⟨b12, g, h⟩ := zb_some h
    refine zw_getr hX zl_X15_26 dX15_ask_85 g ?_
    refine zw_iload_n hX dX15_ask_88 rfl ?_
    obtain ⟨v13, g, h⟩ := zb_some h
    refine zw_xi hX dX15_ask_89 g ?_
    refine zw_icmp_gt (tgt := 116) hX dX15_ask_90 (by decide) (fun c90 => ?_) (fun c90 => ?_)
    · rw [if_pos c90] at h
      refine zw_sub (lv' := [(0, .ref a0), (6, .int i6)]) (List.forall_mem_cons.mpr ⟨rfl, (List.forall_mem_cons.mpr ⟨rfl, zs_nil⟩)⟩) ?_
      exact hk _ _ (Option.some.inj h).symm
    · rw [if_neg c90] at h
      refine zw_iload hX dX15_ask_93 rfl ?_
      refine zw_if_eq (tgt := 116) hX dX15_ask_95 (by decide) (fun c95 => ?_) (fun c95 => ?_)
      · rw [if_pos c95] at h
        refine zw_sub (lv' := [(0, .ref a0), (6, .int i6)]) (List.forall_mem_cons.mpr ⟨rfl, (List.forall_mem_cons.mpr ⟨rfl, zs_nil⟩)⟩) ?_
        exact hk _ _ (Option.some.inj h).symm
      · rw [if_neg c95] at h
        refine zw_aload_n hX dX15_ask_98 rfl ?_
        refine zw_iload hX dX15_ask_99 rfl ?_
        refine zw_iload hX dX15_ask_101 rfl ?_
        refine zw_iadd hX dX15_ask_103 ?_
        refine zw_iconst (v := (-1 : Int32)) hX dX15_ask_104 (by decide) ?_
        obtain ⟨_, gi, h⟩ := zb_some h
        obtain ⟨r15, g, h⟩ := zb_some h
        refine zc_Vi (as := [.int (i4 + i7), .int (-1 : Int32)]) hX gi (zt_X15_holds (d := d - 1) (by omega) g) zl_X15_237 rfl dX15_ask_105 ⟨rfl, rfl, Nat.le_of_ble_eq_true rfl⟩ ⟨by omega, by omega⟩ ?_
        refine zw_istore hX dX15_ask_108 (by decide) ?_
        refine zw_iinc (v := (i7 + (1 : Int32))) hX dX15_ask_110 rfl rfl (by decide) ?_
        refine zw_goto (tgt := 82) hX dX15_ask_113 (by decide) ?_
        refine zw_sub (lv' := [(0, .ref a0), (1, .int i1), (4, .int i4), (6, .int r15.1), (7, .int (i7 + (1 : Int32)))]) (List.forall_mem_cons.mpr ⟨rfl, (List.forall_mem_cons.mpr ⟨rfl, (List.forall_mem_cons.mpr ⟨rfl, (List.forall_mem_cons.mpr ⟨rfl, (List.forall_mem_cons.mpr ⟨rfl, zs_nil⟩)⟩)⟩)⟩)⟩) ?_
        exact ih _ _ _ h
set_option maxHeartbeats 4000000 in
set_option maxRecDepth 100000 in
theorem zt_X15_ask_J116 {p : Program} {l : Launch} {e : Env} {R : Room} {s : State} {m : MethodId} {args : Array Value} {below : List Frame} {meth : Method} {c : Code} {V : zm_V} {mc ms d rc rs : Nat} (hX : zm_X p R s m args meth c RX15 "ask" cX15_ask 8 zk_E V mc ms) (hr : meth.sig.returnType = (some .int)) (hR : R.frames = d ∧ R.locals = 64 * d) (hd : 6 ≤ d) {N : Nat} {a0 : Nat} {i6 : Int32} {out : (Int32 × zm_S)} {S : zm_S} (h : zf_X15_ask_J116 N a0 i6 S = some out) : zw p l e R s m args below meth c (vx_MQ below (zm_Qc zk_E V (zo_i out)) (zm_XC zk_E V zo_x) args s mc ms (fun q => V.2.2.2.1 ≤ q)) 8 zk_E V mc ms 116 [(0, .ref a0), (6, .int i6)] [] S rc rs := by
  unfold zf_X15_ask_J116 at h
  refine zw_aload_n hX dX15_ask_116 rfl ?_
  obtain ⟨v18, g, h⟩ := zb_some h
  refine zw_geti hX zl_X15_198 dX15_ask_117 g ?_
  refine zw_if_le (tgt := 127) hX dX15_ask_120 (by decide) (fun c120 => ?_) (fun c120 => ?_)
  · rw [if_pos c120] at h
    refine zw_iload hX dX15_ask_127 rfl ?_
    refine zw_if_eq (tgt := 136) hX dX15_ask_129 (by decide) (fun c129 => ?_) (fun c129 => ?_)
    · rw [if_pos c129] at h
      refine zw_iconst (v := (1 : Int32)) hX dX15_ask_136 (by decide) ?_
      obtain rfl := Option.some.inj h
      exact zw_iret hX hr dX15_ask_137 rfl ⟨rfl, rfl⟩
    · rw [if_neg c129] at h
      refine zw_iconst (v := (2 : Int32)) hX dX15_ask_132 (by decide) ?_
      refine zw_goto (tgt := 137) hX dX15_ask_133 (by decide) ?_
      obtain rfl := Option.some.inj h
      exact zw_iret hX hr dX15_ask_137 rfl ⟨rfl, rfl⟩
  · rw [if_neg c120] at h
    refine zw_iconst (v := (3 : Int32)) hX dX15_ask_123 (by decide) ?_
    refine zw_goto (tgt := 137) hX dX15_ask_124 (by decide) ?_
    obtain rfl := Option.some.inj h
    exact zw_iret hX hr dX15_ask_137 rfl ⟨rfl, rfl⟩
set_option maxHeartbeats 4000000 in
set_option maxRecDepth 100000 in
theorem zt_X15_ask_J77 {p : Program} {l : Launch} {e : Env} {R : Room} {s : State} {m : MethodId} {args : Array Value} {below : List Frame} {meth : Method} {c : Code} {V : zm_V} {mc ms d rc rs : Nat} (hX : zm_X p R s m args meth c RX15 "ask" cX15_ask 8 zk_E V mc ms) (hr : meth.sig.returnType = (some .int)) (hR : R.frames = d ∧ R.locals = 64 * d) (hd : 6 ≤ d) {N : Nat} {a0 : Nat} {i1 : Int32} {i4 : Int32} {t0 : Int32} {out : (Int32 × zm_S)} {S : zm_S} (h : zf_X15_ask_J77 N a0 i1 i4 t0 S = some out) : zw p l e R s m args below meth c (vx_MQ below (zm_Qc zk_E V (zo_i out)) (zm_XC zk_E V zo_x) args s mc ms (fun q => V.2.2.2.1 ≤ q)) 8 zk_E V mc ms 77 [(0, .ref a0), (1, .int i1), (4, .int i4)] [.int t0] S rc rs := by
  unfold zf_X15_ask_J77 at h
  refine zw_istore hX dX15_ask_77 (by decide) ?_
  refine zw_iconst (v := (1 : Int32)) hX dX15_ask_79 (by decide) ?_
  refine zw_istore hX dX15_ask_80 (by decide) ?_
  obtain ⟨r, g, h⟩ := zb_some h
  refine zw_sub (lv' := [(0, .ref a0), (1, .int i1), (4, .int i4), (6, .int t0), (7, .int (1 : Int32))]) (List.forall_mem_cons.mpr ⟨rfl, (List.forall_mem_cons.mpr ⟨rfl, (List.forall_mem_cons.mpr ⟨rfl, (List.forall_mem_cons.mpr ⟨rfl, (List.forall_mem_cons.mpr ⟨rfl, zs_nil⟩)⟩)⟩)⟩)⟩) ?_
  refine zt_X15_ask_L82 hX hr hR hd (res := r) (out := out) a0 i1 i4 ?_ ?_ N _ _ _ g
  · intro o ho
    subst ho
    exact Option.some.inj h
  · intro v17 S16 hx
    subst hx
    try dsimp only at h
    refine zw_sub (lv' := [(0, .ref a0), (6, .int v17)]) (List.forall_mem_cons.mpr ⟨rfl, (List.forall_mem_cons.mpr ⟨rfl, zs_nil⟩)⟩) ?_
    exact zt_X15_ask_J116 hX hr hR hd h
set_option maxHeartbeats 4000000 in
set_option maxRecDepth 100000 in
theorem zt_X15_ask_J42 {p : Program} {l : Launch} {e : Env} {R : Room} {s : State} {m : MethodId} {args : Array Value} {below : List Frame} {meth : Method} {c : Code} {V : zm_V} {mc ms d rc rs : Nat} (hX : zm_X p R s m args meth c RX15 "ask" cX15_ask 8 zk_E V mc ms) (hr : meth.sig.returnType = (some .int)) (hR : R.frames = d ∧ R.locals = 64 * d) (hd : 6 ≤ d) {N : Nat} {a0 : Nat} {i1 : Int32} {i4 : Int32} {t0 : Nat} {t1 : Int32} {t2 : Int32} {out : (Int32 × zm_S)} {S : zm_S} (h : zf_X15_ask_J42 N a0 i1 i4 t0 t1 t2 S = some out) : zw p l e R s m args below meth c (vx_MQ below (zm_Qc zk_E V (zo_i out)) (zm_XC zk_E V zo_x) args s mc ms (fun q => V.2.2.2.1 ≤ q)) 8 zk_E V mc ms 42 [(0, .ref a0), (1, .int i1), (4, .int i4)] [.int t2, .int t1, .ref t0] S rc rs := by
  unfold zf_X15_ask_J42 at h
  obtain ⟨_, gi, h⟩ := zb_some h
  obtain ⟨r8, g, h⟩ := zb_some h
  refine zc_Vi (as := [.int t1, .int t2]) hX gi (zt_X15_holds (d := d - 1) (by omega) g) zl_X15_237 rfl dX15_ask_42 ⟨rfl, rfl, Nat.le_of_ble_eq_true rfl⟩ ⟨by omega, by omega⟩ ?_
  refine zw_istore hX dX15_ask_45 (by decide) ?_
  refine zw_aload_n hX dX15_ask_47 rfl ?_
  obtain ⟨v9, g, h⟩ := zb_some h
  refine zw_geti hX zl_X15_198 dX15_ask_48 g ?_
  refine zw_if_le (tgt := 56) hX dX15_ask_51 (by decide) (fun c51 => ?_) (fun c51 => ?_)
  · rw [if_pos c51] at h
    refine zw_iload hX dX15_ask_56 rfl ?_
    refine zw_if_eq (tgt := 63) hX dX15_ask_58 (by decide) (fun c58 => ?_) (fun c58 => ?_)
    · rw [if_pos c58] at h
      refine zw_aload_n hX dX15_ask_63 rfl ?_
      obtain ⟨b10, g, h⟩ := zb_some h
      refine zw_getr hX zl_X15_26 dX15_ask_64 g ?_
      refine zw_iload_n hX dX15_ask_67 rfl ?_
      obtain ⟨v11, g, h⟩ := zb_some h
      refine zw_xi hX dX15_ask_68 g ?_
      refine zw_if_le (tgt := 76) hX dX15_ask_69 (by decide) (fun c69 => ?_) (fun c69 => ?_)
      · rw [if_pos c69] at h
        refine zw_iconst (v := (0 : Int32)) hX dX15_ask_76 (by decide) ?_
        refine zw_sub (lv' := [(0, .ref a0), (1, .int i1), (4, .int i4)]) (List.forall_mem_cons.mpr ⟨rfl, (List.forall_mem_cons.mpr ⟨rfl, (List.forall_mem_cons.mpr ⟨rfl, zs_nil⟩)⟩)⟩) ?_
        exact zt_X15_ask_J77 hX hr hR hd h
      · rw [if_neg c69] at h
        refine zw_iconst (v := (1 : Int32)) hX dX15_ask_72 (by decide) ?_
        refine zw_goto (tgt := 77) hX dX15_ask_73 (by decide) ?_
        refine zw_sub (lv' := [(0, .ref a0), (1, .int i1), (4, .int i4)]) (List.forall_mem_cons.mpr ⟨rfl, (List.forall_mem_cons.mpr ⟨rfl, (List.forall_mem_cons.mpr ⟨rfl, zs_nil⟩)⟩)⟩) ?_
        exact zt_X15_ask_J77 hX hr hR hd h
    · rw [if_neg c58] at h
      refine zw_iconst (v := (0 : Int32)) hX dX15_ask_61 (by decide) ?_
      obtain rfl := Option.some.inj h
      exact zw_iret hX hr dX15_ask_62 rfl ⟨rfl, rfl⟩
  · rw [if_neg c51] at h
    refine zw_iconst (v := (3 : Int32)) hX dX15_ask_54 (by decide) ?_
    obtain rfl := Option.some.inj h
    exact zw_iret hX hr dX15_ask_55 rfl ⟨rfl, rfl⟩
set_option maxHeartbeats 4000000 in
set_option maxRecDepth 100000 in
theorem zt_X15_ask {l : Launch} {V : zm_V} {N : Nat} {S : zm_S} {out : (Int32 × zm_S)} {d : Nat} {a0 : Nat} {i1 : Int32} {i2 : Int32} {i3 : Int32} (hd : 6 ≤ d) (h : zf_X15_ask N a0 i1 i2 i3 S = some out) : zm_Met l zk_E V yX15_ask (.code yX15_ask cX15_ask 8 (some .int)) d [.ref a0, .int i1, .int i2, .int i3] S 0 0 (zo_i out) zo_x := by
  refine zm_of (by decide +kernel) (Nat.le_of_ble_eq_true rfl) ?_
  intro p e R s m args below meth c hRR hX hr hxt
  have hR : R.frames = d ∧ R.locals = 64 * d := by rw [hRR]; exact ⟨rfl, rfl⟩
  have hX : zm_X p R s m args meth c RX15 "ask" cX15_ask 8 zk_E V 0 0 := hX
  unfold zf_X15_ask at h
  refine zw_sub (lv' := [(0, .ref a0), (1, .int i1), (2, .int i2), (3, .int i3)]) (List.forall_mem_cons.mpr ⟨rfl, (List.forall_mem_cons.mpr ⟨rfl, (List.forall_mem_cons.mpr ⟨rfl, (List.forall_mem_cons.mpr ⟨rfl, zs_nil⟩)⟩)⟩)⟩) ?_
  refine zw_aload_n hX dX15_ask_0 rfl ?_
  refine zw_iconst (v := (0 : Int32)) hX dX15_ask_1 (by decide) ?_
  obtain ⟨S1, g, h⟩ := zb_some h
  refine zw_putv hX zl_X15_198 zt_15_40 dX15_ask_2 rfl rfl g ?_
  refine zw_aload_n hX dX15_ask_5 rfl ?_
  refine zw_lconst (v := (0 : Int64)) hX dX15_ask_6 (by decide) ?_
  obtain ⟨S2, g, h⟩ := zb_some h
  refine zw_putv hX zl_X15_201 zt_15_41 dX15_ask_7 rfl rfl g ?_
  refine zw_iload_n hX dX15_ask_10 rfl ?_
  refine zw_aload_n hX dX15_ask_11 rfl ?_
  obtain ⟨b3, g, h⟩ := zb_some h
  refine zw_getr hX zl_X15_29 dX15_ask_12 g ?_
  refine zw_iload_n hX dX15_ask_15 rfl ?_
  obtain ⟨v4, g, h⟩ := zb_some h
  refine zw_xi hX dX15_ask_16 g ?_
  refine zw_icmp_ge (tgt := 22) hX dX15_ask_17 (by decide) (fun c17 => ?_) (fun c17 => ?_)
  · rw [if_pos c17] at h
    refine zw_aload_n hX dX15_ask_22 rfl ?_
    obtain ⟨b5, g, h⟩ := zb_some h
    refine zw_getr hX zl_X15_23 dX15_ask_23 g ?_
    refine zw_iload_n hX dX15_ask_26 rfl ?_
    obtain ⟨v6, g, h⟩ := zb_some h
    refine zw_xi hX dX15_ask_27 g ?_
    refine zw_istore hX dX15_ask_28 (by decide) ?_
    refine zw_aload_n hX dX15_ask_30 rfl ?_
    refine zw_iload hX dX15_ask_31 rfl ?_
    refine zw_iload_n hX dX15_ask_33 rfl ?_
    refine zw_if_eq (tgt := 41) hX dX15_ask_34 (by decide) (fun c34 => ?_) (fun c34 => ?_)
    · rw [if_pos c34] at h
      refine zw_iconst (v := (-1 : Int32)) hX dX15_ask_41 (by decide) ?_
      refine zw_sub (lv' := [(0, .ref a0), (1, .int i1), (4, .int v6)]) (List.forall_mem_cons.mpr ⟨rfl, (List.forall_mem_cons.mpr ⟨rfl, (List.forall_mem_cons.mpr ⟨rfl, zs_nil⟩)⟩)⟩) ?_
      exact zt_X15_ask_J42 hX hr hR hd h
    · rw [if_neg c34] at h
      refine zw_iload_n hX dX15_ask_37 rfl ?_
      refine zw_goto (tgt := 42) hX dX15_ask_38 (by decide) ?_
      refine zw_sub (lv' := [(0, .ref a0), (1, .int i1), (4, .int v6)]) (List.forall_mem_cons.mpr ⟨rfl, (List.forall_mem_cons.mpr ⟨rfl, (List.forall_mem_cons.mpr ⟨rfl, zs_nil⟩)⟩)⟩) ?_
      exact zt_X15_ask_J42 hX hr hR hd h
  · rw [if_neg c17] at h
    refine zw_iconst (v := (4 : Int32)) hX dX15_ask_20 (by decide) ?_
    obtain rfl := Option.some.inj h
    exact zw_iret hX hr dX15_ask_21 rfl ⟨rfl, rfl⟩
set_option maxHeartbeats 4000000 in
set_option maxRecDepth 100000 in
theorem zt_X15_run_J94 {p : Program} {l : Launch} {e : Env} {R : Room} {s : State} {m : MethodId} {args : Array Value} {below : List Frame} {meth : Method} {c : Code} {V : zm_V} {mc ms d rc rs : Nat} (hX : zm_X p R s m args meth c RX15 "run" cX15_run 4 zk_E V mc ms) (hr : meth.sig.returnType = (some .int)) (hR : R.frames = d ∧ R.locals = 64 * d) (hd : 7 ≤ d) {N : Nat} {k : Nat → Int32 → Int32 → Int32 → zm_S → Option ((Int32 × zm_S) ⊕ ((Int32) × zm_S))} {a0 : Nat} {i1 : Int32} {i3 : Int32} {t0 : Int32} {t1 : Int32} {res : (Int32 × zm_S) ⊕ ((Int32) × zm_S)} {out : (Int32 × zm_S)}   (hf : ∀ o, res = .inl o → o = out) (hk : ∀ (x2 : Int32) (S' : zm_S), res = .inr (x2, S') → zw p l e R s m args below meth c (vx_MQ below (zm_Qc zk_E V (zo_i out)) (zm_XC zk_E V zo_x) args s mc ms (fun q => V.2.2.2.1 ≤ q)) 4 zk_E V mc ms 102 [(2, .int x2)] [] S' rc rs) (hrec : ∀ (i2' : Int32) (i3' : Int32) (S : zm_S), k a0 i1 i2' i3' S = some res → zw p l e R s m args below meth c (vx_MQ below (zm_Qc zk_E V (zo_i out)) (zm_XC zk_E V zo_x) args s mc ms (fun q => V.2.2.2.1 ≤ q)) 4 zk_E V mc ms 9 [(0, .ref a0), (1, .int i1), (2, .int i2'), (3, .int i3')] [] S rc rs) {S : zm_S} (h : zf_X15_run_J94 N k a0 i1 i3 t0 t1 S = some res) : zw p l e R s m args below meth c (vx_MQ below (zm_Qc zk_E V (zo_i out)) (zm_XC zk_E V zo_x) args s mc ms (fun q => V.2.2.2.1 ≤ q)) 4 zk_E V mc ms 94 [(0, .ref a0), (1, .int i1), (3, .int i3)] [.int t1, .int t0] S rc rs := by
  unfold zf_X15_run_J94 at h
  refine zw_iadd hX dX15_run_94 ?_
  refine zw_istore_n hX dX15_run_95 (by decide) ?_
  refine zw_iinc (v := (i3 + (1 : Int32))) hX dX15_run_96 rfl rfl (by decide) ?_
  refine zw_goto (tgt := 9) hX dX15_run_99 (by decide) ?_
  refine zw_sub (lv' := [(0, .ref a0), (1, .int i1), (2, .int (t0 + t1)), (3, .int (i3 + (1 : Int32)))]) (List.forall_mem_cons.mpr ⟨rfl, (List.forall_mem_cons.mpr ⟨rfl, (List.forall_mem_cons.mpr ⟨rfl, (List.forall_mem_cons.mpr ⟨rfl, zs_nil⟩)⟩)⟩)⟩) ?_
  exact hrec _ _ _ h
set_option maxHeartbeats 4000000 in
set_option maxRecDepth 100000 in
theorem zt_X15_run_L9 {p : Program} {l : Launch} {e : Env} {R : Room} {s : State} {m : MethodId} {args : Array Value} {below : List Frame} {meth : Method} {c : Code} {V : zm_V} {mc ms d rc rs : Nat} (hX : zm_X p R s m args meth c RX15 "run" cX15_run 4 zk_E V mc ms) (hr : meth.sig.returnType = (some .int)) (hR : R.frames = d ∧ R.locals = 64 * d) (hd : 7 ≤ d) {N : Nat} {res : (Int32 × zm_S) ⊕ ((Int32) × zm_S)} {out : (Int32 × zm_S)} (a0 : Nat) (i1 : Int32) (hf : ∀ o, res = .inl o → o = out) (hk : ∀ (x2 : Int32) (S' : zm_S), res = .inr (x2, S') → zw p l e R s m args below meth c (vx_MQ below (zm_Qc zk_E V (zo_i out)) (zm_XC zk_E V zo_x) args s mc ms (fun q => V.2.2.2.1 ≤ q)) 4 zk_E V mc ms 102 [(2, .int x2)] [] S' rc rs) : ∀ (n : Nat) (i2 : Int32) (i3 : Int32) (S : zm_S), zf_X15_run_L9 N n a0 i1 i2 i3 S = some res → zw p l e R s m args below meth c (vx_MQ below (zm_Qc zk_E V (zo_i out)) (zm_XC zk_E V zo_x) args s mc ms (fun q => V.2.2.2.1 ≤ q)) 4 zk_E V mc ms 9 [(0, .ref a0), (1, .int i1), (2, .int i2), (3, .int i3)] [] S rc rs := by
  intro n
  induction n with
  | zero => intro i2 i3 S h; cases h
  | succ n ih =>
    intro i2 i3 S h
    rw [zf_X15_run_L9] at h
    refine zw_iload_n hX dX15_run_9 rfl ?_
    refine zw_aload_n hX dX15_run_10 rfl ?_
    obtain ⟨v2, g, h⟩ := zb_some h
    refine zw_geti hX zl_X15_174 dX15_run_11 g ?_
    refine zw_icmp_ge (tgt := 102) hX dX15_run_14 (by decide) (fun c14 => ?_) (fun c14 => ?_)
    · rw [if_pos c14] at h
      refine zw_sub (lv' := [(2, .int i2)]) (List.forall_mem_cons.mpr ⟨rfl, zs_nil⟩) ?_
      exact hk _ _ (Option.some.inj h).symm
    · rw [if_neg c14] at h
      refine zw_aload_n hX dX15_run_17 rfl ?_
      obtain ⟨b3, g, h⟩ := zb_some h
      refine zw_getr hX zl_X15_57 dX15_run_18 g ?_
      refine zw_iload_n hX dX15_run_21 rfl ?_
      refine zw_lconst (v := (0 : Int64)) hX dX15_run_22 (by decide) ?_
      obtain ⟨S4, g, h⟩ := zb_some h
      refine zw_sl hX dX15_run_23 g ?_
      refine zw_aload_n hX dX15_run_24 rfl ?_
      obtain ⟨b5, g, h⟩ := zb_some h
      refine zw_getr hX zl_X15_60 dX15_run_25 g ?_
      refine zw_iload_n hX dX15_run_28 rfl ?_
      refine zw_lconst (v := (0 : Int64)) hX dX15_run_29 (by decide) ?_
      obtain ⟨S6, g, h⟩ := zb_some h
      refine zw_sl hX dX15_run_30 g ?_
      refine zw_aload_n hX dX15_run_31 rfl ?_
      obtain ⟨b7, g, h⟩ := zb_some h
      refine zw_getr hX zl_X15_63 dX15_run_32 g ?_
      refine zw_iload_n hX dX15_run_35 rfl ?_
      refine zw_lconst (v := (0 : Int64)) hX dX15_run_36 (by decide) ?_
      obtain ⟨S8, g, h⟩ := zb_some h
      refine zw_sl hX dX15_run_37 g ?_
      refine zw_aload_n hX dX15_run_38 rfl ?_
      obtain ⟨b9, g, h⟩ := zb_some h
      refine zw_getr hX zl_X15_66 dX15_run_39 g ?_
      refine zw_iload_n hX dX15_run_42 rfl ?_
      refine zw_lconst (v := (0 : Int64)) hX dX15_run_43 (by decide) ?_
      obtain ⟨S10, g, h⟩ := zb_some h
      refine zw_sl hX dX15_run_44 g ?_
      refine zw_aload_n hX dX15_run_45 rfl ?_
      obtain ⟨b11, g, h⟩ := zb_some h
      refine zw_getr hX zl_X15_54 dX15_run_46 g ?_
      refine zw_iload_n hX dX15_run_49 rfl ?_
      refine zw_aload_n hX dX15_run_50 rfl ?_
      refine zw_iload_n hX dX15_run_51 rfl ?_
      refine zw_iload_n hX dX15_run_52 rfl ?_
      refine zw_iconst (v := (1 : Int32)) hX dX15_run_53 (by decide) ?_
      obtain ⟨_, gi, h⟩ := zb_some h
      obtain ⟨r13, g, h⟩ := zb_some h
      refine zc_Vi (as := [.int i3, .int i1, .int (1 : Int32)]) hX gi (zt_X15_ask (d := d - 1) (by omega) g) zl_X15_241 rfl dX15_run_54 ⟨rfl, rfl, Nat.le_of_ble_eq_true rfl⟩ ⟨by omega, by omega⟩ ?_
      obtain ⟨S14, g, h⟩ := zb_some h
      refine zw_si hX dX15_run_57 g ?_
      refine zw_aload_n hX dX15_run_58 rfl ?_
      obtain ⟨b15, g, h⟩ := zb_some h
      refine zw_getr hX zl_X15_69 dX15_run_59 g ?_
      refine zw_iload_n hX dX15_run_62 rfl ?_
      refine zw_aload_n hX dX15_run_63 rfl ?_
      obtain ⟨v16, g, h⟩ := zb_some h
      refine zw_geti hX zl_X15_198 dX15_run_64 g ?_
      obtain ⟨S17, g, h⟩ := zb_some h
      refine zw_si hX dX15_run_67 g ?_
      refine zw_aload_n hX dX15_run_68 rfl ?_
      obtain ⟨b18, g, h⟩ := zb_some h
      refine zw_getr hX zl_X15_72 dX15_run_69 g ?_
      refine zw_iload_n hX dX15_run_72 rfl ?_
      refine zw_aload_n hX dX15_run_73 rfl ?_
      obtain ⟨w19, g, h⟩ := zb_some h
      refine zw_getl hX zl_X15_201 dX15_run_74 g ?_
      obtain ⟨S20, g, h⟩ := zb_some h
      refine zw_sl hX dX15_run_77 g ?_
      refine zw_iload_n hX dX15_run_78 rfl ?_
      refine zw_aload_n hX dX15_run_79 rfl ?_
      obtain ⟨b21, g, h⟩ := zb_some h
      refine zw_getr hX zl_X15_54 dX15_run_80 g ?_
      refine zw_iload_n hX dX15_run_83 rfl ?_
      obtain ⟨v22, g, h⟩ := zb_some h
      refine zw_xi hX dX15_run_84 g ?_
      refine zw_iconst (v := (1 : Int32)) hX dX15_run_85 (by decide) ?_
      refine zw_icmp_ne (tgt := 93) hX dX15_run_86 (by decide) (fun c86 => ?_) (fun c86 => ?_)
      · rw [if_neg c86] at h
        refine zw_iconst (v := (0 : Int32)) hX dX15_run_93 (by decide) ?_
        refine zw_sub (lv' := [(0, .ref a0), (1, .int i1), (3, .int i3)]) (List.forall_mem_cons.mpr ⟨rfl, (List.forall_mem_cons.mpr ⟨rfl, (List.forall_mem_cons.mpr ⟨rfl, zs_nil⟩)⟩)⟩) ?_
        exact zt_X15_run_J94 hX hr hR hd hf hk ih h
      · rw [if_pos c86] at h
        refine zw_iconst (v := (1 : Int32)) hX dX15_run_89 (by decide) ?_
        refine zw_goto (tgt := 94) hX dX15_run_90 (by decide) ?_
        refine zw_sub (lv' := [(0, .ref a0), (1, .int i1), (3, .int i3)]) (List.forall_mem_cons.mpr ⟨rfl, (List.forall_mem_cons.mpr ⟨rfl, (List.forall_mem_cons.mpr ⟨rfl, zs_nil⟩)⟩)⟩) ?_
        exact zt_X15_run_J94 hX hr hR hd hf hk ih h
set_option maxHeartbeats 4000000 in
set_option maxRecDepth 100000 in
theorem zt_X15_run {l : Launch} {V : zm_V} {N : Nat} {S : zm_S} {out : (Int32 × zm_S)} {d : Nat} {a0 : Nat} {i1 : Int32} (hd : 7 ≤ d) (h : zf_X15_run N a0 i1 S = some out) : zm_Met l zk_E V yX15_run (.code yX15_run cX15_run 4 (some .int)) d [.ref a0, .int i1] S 0 0 (zo_i out) zo_x := by
  refine zm_of (by decide +kernel) (Nat.le_of_ble_eq_true rfl) ?_
  intro p e R s m args below meth c hRR hX hr hxt
  have hR : R.frames = d ∧ R.locals = 64 * d := by rw [hRR]; exact ⟨rfl, rfl⟩
  have hX : zm_X p R s m args meth c RX15 "run" cX15_run 4 zk_E V 0 0 := hX
  unfold zf_X15_run at h
  refine zw_sub (lv' := [(0, .ref a0), (1, .int i1)]) (List.forall_mem_cons.mpr ⟨rfl, (List.forall_mem_cons.mpr ⟨rfl, zs_nil⟩)⟩) ?_
  refine zw_aload_n hX dX15_run_0 rfl ?_
  refine zw_iload_n hX dX15_run_1 rfl ?_
  obtain ⟨S1, g, h⟩ := zb_some h
  refine zw_putv hX zl_X15_50 zt_15_18 dX15_run_2 rfl rfl g ?_
  refine zw_iconst (v := (0 : Int32)) hX dX15_run_5 (by decide) ?_
  refine zw_istore_n hX dX15_run_6 (by decide) ?_
  refine zw_iconst (v := (0 : Int32)) hX dX15_run_7 (by decide) ?_
  refine zw_istore_n hX dX15_run_8 (by decide) ?_
  obtain ⟨r, g, h⟩ := zb_some h
  refine zw_sub (lv' := [(0, .ref a0), (1, .int i1), (2, .int (0 : Int32)), (3, .int (0 : Int32))]) (List.forall_mem_cons.mpr ⟨rfl, (List.forall_mem_cons.mpr ⟨rfl, (List.forall_mem_cons.mpr ⟨rfl, (List.forall_mem_cons.mpr ⟨rfl, zs_nil⟩)⟩)⟩)⟩) ?_
  refine zt_X15_run_L9 hX hr hR hd (res := r) (out := out) a0 i1 ?_ ?_ N _ _ _ g
  · intro o ho
    subst ho
    exact Option.some.inj h
  · intro v24 S23 hx
    subst hx
    try dsimp only at h
    refine zw_iload_n hX dX15_run_102 rfl ?_
    obtain rfl := Option.some.inj h
    exact zw_iret hX hr dX15_run_103 rfl ⟨rfl, rfl⟩
set_option maxHeartbeats 4000000 in
set_option maxRecDepth 100000 in
theorem zt_X15_told {l : Launch} {V : zm_V} {N : Nat} {S : zm_S} {out : (Int64 × zm_S)} {d : Nat} {a0 : Nat} {i1 : Int32} {i2 : Int32} (hd : 1 ≤ d) (h : zf_X15_told N a0 i1 i2 S = some out) : zm_Met l zk_E V yX15_told (.code yX15_told cX15_told 3 (some .long)) d [.ref a0, .int i1, .int i2] S 0 0 (zo_l out) zo_x := by
  refine zm_of (by decide +kernel) (Nat.le_of_ble_eq_true rfl) ?_
  intro p e R s m args below meth c hRR hX hr hxt
  have hR : R.frames = d ∧ R.locals = 64 * d := by rw [hRR]; exact ⟨rfl, rfl⟩
  have hX : zm_X p R s m args meth c RX15 "told" cX15_told 3 zk_E V 0 0 := hX
  unfold zf_X15_told at h
  refine zw_sub (lv' := [(0, .ref a0), (1, .int i1), (2, .int i2)]) (List.forall_mem_cons.mpr ⟨rfl, (List.forall_mem_cons.mpr ⟨rfl, (List.forall_mem_cons.mpr ⟨rfl, zs_nil⟩)⟩)⟩) ?_
  refine zw_iload_n hX dX15_told_0 rfl ?_
  by_cases c1_0 : (i2).toInt = 0
  · rw [if_pos c1_0] at h
    refine zw_tableIn (off := 39) (tgt := 40) hX dX15_told_1 (by rw [c1_0]; decide) (by rw [c1_0]; decide) (by rw [c1_0]; decide) (by decide) ?_
    refine zw_aload_n hX dX15_told_40 rfl ?_
    obtain ⟨b3, g, h⟩ := zb_some h
    refine zw_getr hX zl_X15_54 dX15_told_41 g ?_
    refine zw_iload_n hX dX15_told_44 rfl ?_
    obtain ⟨v4, g, h⟩ := zb_some h
    refine zw_xi hX dX15_told_45 g ?_
    refine zw_i2l hX dX15_told_46 ?_
    obtain rfl := Option.some.inj h
    exact zw_lret hX hr dX15_told_47 ⟨rfl, rfl⟩
  rw [if_neg c1_0] at h
  by_cases c1_1 : (i2).toInt = 1
  · rw [if_pos c1_1] at h
    refine zw_tableIn (off := 47) (tgt := 48) hX dX15_told_1 (by rw [c1_1]; decide) (by rw [c1_1]; decide) (by rw [c1_1]; decide) (by decide) ?_
    refine zw_aload_n hX dX15_told_48 rfl ?_
    obtain ⟨b5, g, h⟩ := zb_some h
    refine zw_getr hX zl_X15_57 dX15_told_49 g ?_
    refine zw_iload_n hX dX15_told_52 rfl ?_
    obtain ⟨w6, g, h⟩ := zb_some h
    refine zw_xl hX dX15_told_53 g ?_
    obtain rfl := Option.some.inj h
    exact zw_lret hX hr dX15_told_54 ⟨rfl, rfl⟩
  rw [if_neg c1_1] at h
  by_cases c1_2 : (i2).toInt = 2
  · rw [if_pos c1_2] at h
    refine zw_tableIn (off := 54) (tgt := 55) hX dX15_told_1 (by rw [c1_2]; decide) (by rw [c1_2]; decide) (by rw [c1_2]; decide) (by decide) ?_
    refine zw_aload_n hX dX15_told_55 rfl ?_
    obtain ⟨b7, g, h⟩ := zb_some h
    refine zw_getr hX zl_X15_60 dX15_told_56 g ?_
    refine zw_iload_n hX dX15_told_59 rfl ?_
    obtain ⟨w8, g, h⟩ := zb_some h
    refine zw_xl hX dX15_told_60 g ?_
    obtain rfl := Option.some.inj h
    exact zw_lret hX hr dX15_told_61 ⟨rfl, rfl⟩
  rw [if_neg c1_2] at h
  by_cases c1_3 : (i2).toInt = 3
  · rw [if_pos c1_3] at h
    refine zw_tableIn (off := 61) (tgt := 62) hX dX15_told_1 (by rw [c1_3]; decide) (by rw [c1_3]; decide) (by rw [c1_3]; decide) (by decide) ?_
    refine zw_aload_n hX dX15_told_62 rfl ?_
    obtain ⟨b9, g, h⟩ := zb_some h
    refine zw_getr hX zl_X15_63 dX15_told_63 g ?_
    refine zw_iload_n hX dX15_told_66 rfl ?_
    obtain ⟨w10, g, h⟩ := zb_some h
    refine zw_xl hX dX15_told_67 g ?_
    obtain rfl := Option.some.inj h
    exact zw_lret hX hr dX15_told_68 ⟨rfl, rfl⟩
  rw [if_neg c1_3] at h
  by_cases c1_4 : (i2).toInt = 4
  · rw [if_pos c1_4] at h
    refine zw_tableIn (off := 68) (tgt := 69) hX dX15_told_1 (by rw [c1_4]; decide) (by rw [c1_4]; decide) (by rw [c1_4]; decide) (by decide) ?_
    refine zw_aload_n hX dX15_told_69 rfl ?_
    obtain ⟨b11, g, h⟩ := zb_some h
    refine zw_getr hX zl_X15_66 dX15_told_70 g ?_
    refine zw_iload_n hX dX15_told_73 rfl ?_
    obtain ⟨w12, g, h⟩ := zb_some h
    refine zw_xl hX dX15_told_74 g ?_
    obtain rfl := Option.some.inj h
    exact zw_lret hX hr dX15_told_75 ⟨rfl, rfl⟩
  rw [if_neg c1_4] at h
  by_cases c1_5 : (i2).toInt = 5
  · rw [if_pos c1_5] at h
    refine zw_tableIn (off := 75) (tgt := 76) hX dX15_told_1 (by rw [c1_5]; decide) (by rw [c1_5]; decide) (by rw [c1_5]; decide) (by decide) ?_
    refine zw_aload_n hX dX15_told_76 rfl ?_
    obtain ⟨b13, g, h⟩ := zb_some h
    refine zw_getr hX zl_X15_69 dX15_told_77 g ?_
    refine zw_iload_n hX dX15_told_80 rfl ?_
    obtain ⟨v14, g, h⟩ := zb_some h
    refine zw_xi hX dX15_told_81 g ?_
    refine zw_i2l hX dX15_told_82 ?_
    obtain rfl := Option.some.inj h
    exact zw_lret hX hr dX15_told_83 ⟨rfl, rfl⟩
  rw [if_neg c1_5] at h
  refine zw_tableOut (tgt := 84) hX dX15_told_1 (by omega) (by decide) ?_
  refine zw_aload_n hX dX15_told_84 rfl ?_
  obtain ⟨b1, g, h⟩ := zb_some h
  refine zw_getr hX zl_X15_72 dX15_told_85 g ?_
  refine zw_iload_n hX dX15_told_88 rfl ?_
  obtain ⟨w2, g, h⟩ := zb_some h
  refine zw_xl hX dX15_told_89 g ?_
  obtain rfl := Option.some.inj h
  exact zw_lret hX hr dX15_told_90 ⟨rfl, rfl⟩
set_option maxHeartbeats 4000000 in
set_option maxRecDepth 100000 in
theorem zt_X16_init {l : Launch} {V : zm_V} {N : Nat} {S : zm_S} {out : (Unit × zm_S)} {d : Nat} {a0 : Nat} (hd : 2 ≤ d) (h : zf_X16_init N a0 S = some out) : zm_Met l zk_E V yX16_init (.code yX16_init cX16_init 1 none) d [.ref a0] S 26 11253 (zo_v out) zo_x := by
  refine zm_of (by decide +kernel) (Nat.le_of_ble_eq_true rfl) ?_
  intro p e R s m args below meth c hRR hX hr hxt
  have hR : R.frames = d ∧ R.locals = 64 * d := by rw [hRR]; exact ⟨rfl, rfl⟩
  have hX : zm_X p R s m args meth c RX16 "<init>" cX16_init 1 zk_E V 26 11253 := hX
  unfold zf_X16_init at h
  refine zw_sub (lv' := [(0, .ref a0)]) (List.forall_mem_cons.mpr ⟨rfl, zs_nil⟩) ?_
  refine zw_aload_n hX dX16_init_0 rfl ?_
  refine zw_objInit hX zl_X16_1.1 zl_X16_1.2.1 zl_X16_1.2.2 dX16_init_1 (by omega) (by show 0 + 12 ≤ R.locals; omega) ?_
  refine zw_aload_n hX dX16_init_4 rfl ?_
  refine zw_bipush (v := (20 : Int32)) hX dX16_init_5 (by decide) ?_
  obtain ⟨S1, g, h⟩ := zb_some h
  refine zw_ni (b := 20) hX zk_ai dX16_init_7 (by omega) (by omega) (by decide) g ?_
  obtain ⟨S2, g, h⟩ := zb_some h
  refine zw_putvF hX zl_X16_7 zt_16_1 dX16_init_9 rfl rfl g ?_
  refine zw_aload_n hX dX16_init_12 rfl ?_
  refine zw_bipush (v := (20 : Int32)) hX dX16_init_13 (by decide) ?_
  obtain ⟨S3, g, h⟩ := zb_some h
  refine zw_ni (b := 20) hX zk_ai dX16_init_15 (by omega) (by omega) (by decide) g ?_
  obtain ⟨S4, g, h⟩ := zb_some h
  refine zw_putvF hX zl_X16_13 zt_16_2 dX16_init_17 rfl rfl g ?_
  refine zw_aload_n hX dX16_init_20 rfl ?_
  refine zw_bipush (v := (20 : Int32)) hX dX16_init_21 (by decide) ?_
  obtain ⟨S5, g, h⟩ := zb_some h
  refine zw_nb (b := 20) hX zk_ab dX16_init_23 (by omega) (by omega) (by decide) g ?_
  obtain ⟨S6, g, h⟩ := zb_some h
  refine zw_putvF hX zl_X16_16 zt_16_3 dX16_init_25 rfl rfl g ?_
  refine zw_aload_n hX dX16_init_28 rfl ?_
  refine zw_bipush (v := (20 : Int32)) hX dX16_init_29 (by decide) ?_
  obtain ⟨S7, g, h⟩ := zb_some h
  refine zw_ni (b := 20) hX zk_ai dX16_init_31 (by omega) (by omega) (by decide) g ?_
  obtain ⟨S8, g, h⟩ := zb_some h
  refine zw_putvF hX zl_X16_20 zt_16_4 dX16_init_33 rfl rfl g ?_
  refine zw_aload_n hX dX16_init_36 rfl ?_
  refine zw_bipush (v := (20 : Int32)) hX dX16_init_37 (by decide) ?_
  obtain ⟨S9, g, h⟩ := zb_some h
  refine zw_ni (b := 20) hX zk_ai dX16_init_39 (by omega) (by omega) (by decide) g ?_
  obtain ⟨S10, g, h⟩ := zb_some h
  refine zw_putvF hX zl_X16_23 zt_16_5 dX16_init_41 rfl rfl g ?_
  refine zw_aload_n hX dX16_init_44 rfl ?_
  refine zw_bipush (v := (120 : Int32)) hX dX16_init_45 (by decide) ?_
  obtain ⟨S11, g, h⟩ := zb_some h
  refine zw_ni (b := 120) hX zk_ai dX16_init_47 (by omega) (by omega) (by decide) g ?_
  obtain ⟨S12, g, h⟩ := zb_some h
  refine zw_putvF hX zl_X16_26 zt_16_6 dX16_init_49 rfl rfl g ?_
  refine zw_aload_n hX dX16_init_52 rfl ?_
  refine zw_bipush (v := (120 : Int32)) hX dX16_init_53 (by decide) ?_
  obtain ⟨S13, g, h⟩ := zb_some h
  refine zw_ni (b := 120) hX zk_ai dX16_init_55 (by omega) (by omega) (by decide) g ?_
  obtain ⟨S14, g, h⟩ := zb_some h
  refine zw_putvF hX zl_X16_29 zt_16_7 dX16_init_57 rfl rfl g ?_
  refine zw_aload_n hX dX16_init_60 rfl ?_
  refine zw_bipush (v := (120 : Int32)) hX dX16_init_61 (by decide) ?_
  obtain ⟨S15, g, h⟩ := zb_some h
  refine zw_ni (b := 120) hX zk_ai dX16_init_63 (by omega) (by omega) (by decide) g ?_
  obtain ⟨S16, g, h⟩ := zb_some h
  refine zw_putvF hX zl_X16_32 zt_16_8 dX16_init_65 rfl rfl g ?_
  refine zw_aload_n hX dX16_init_68 rfl ?_
  refine zw_bipush (v := (40 : Int32)) hX dX16_init_69 (by decide) ?_
  obtain ⟨S17, g, h⟩ := zb_some h
  refine zw_ni (b := 40) hX zk_ai dX16_init_71 (by omega) (by omega) (by decide) g ?_
  obtain ⟨S18, g, h⟩ := zb_some h
  refine zw_putv hX zl_X16_35 zt_16_14 dX16_init_73 rfl rfl g ?_
  refine zw_aload_n hX dX16_init_76 rfl ?_
  refine zw_bipush (v := (40 : Int32)) hX dX16_init_77 (by decide) ?_
  obtain ⟨S19, g, h⟩ := zb_some h
  refine zw_ni (b := 40) hX zk_ai dX16_init_79 (by omega) (by omega) (by decide) g ?_
  obtain ⟨S20, g, h⟩ := zb_some h
  refine zw_putv hX zl_X16_38 zt_16_15 dX16_init_81 rfl rfl g ?_
  refine zw_aload_n hX dX16_init_84 rfl ?_
  refine zw_sipush (v := (1764 : Int32)) hX dX16_init_85 (by decide) ?_
  obtain ⟨S21, g, h⟩ := zb_some h
  refine zw_ni (b := 1764) hX zk_ai dX16_init_88 (by omega) (by omega) (by decide) g ?_
  obtain ⟨S22, g, h⟩ := zb_some h
  refine zw_putv hX zl_X16_41 zt_16_16 dX16_init_90 rfl rfl g ?_
  refine zw_aload_n hX dX16_init_93 rfl ?_
  refine zw_bipush (v := (40 : Int32)) hX dX16_init_94 (by decide) ?_
  obtain ⟨S23, g, h⟩ := zb_some h
  refine zw_ni (b := 40) hX zk_ai dX16_init_96 (by omega) (by omega) (by decide) g ?_
  obtain ⟨S24, g, h⟩ := zb_some h
  refine zw_putv hX zl_X16_44 zt_16_21 dX16_init_98 rfl rfl g ?_
  refine zw_aload_n hX dX16_init_101 rfl ?_
  refine zw_bipush (v := (40 : Int32)) hX dX16_init_102 (by decide) ?_
  obtain ⟨S25, g, h⟩ := zb_some h
  refine zw_ni (b := 40) hX zk_ai dX16_init_104 (by omega) (by omega) (by decide) g ?_
  obtain ⟨S26, g, h⟩ := zb_some h
  refine zw_putv hX zl_X16_47 zt_16_22 dX16_init_106 rfl rfl g ?_
  refine zw_aload_n hX dX16_init_109 rfl ?_
  refine zw_sipush (v := (1764 : Int32)) hX dX16_init_110 (by decide) ?_
  obtain ⟨S27, g, h⟩ := zb_some h
  refine zw_ni (b := 1764) hX zk_ai dX16_init_113 (by omega) (by omega) (by decide) g ?_
  obtain ⟨S28, g, h⟩ := zb_some h
  refine zw_putv hX zl_X16_50 zt_16_23 dX16_init_115 rfl rfl g ?_
  refine zw_aload_n hX dX16_init_118 rfl ?_
  refine zw_sipush (v := (400 : Int32)) hX dX16_init_119 (by decide) ?_
  obtain ⟨S29, g, h⟩ := zb_some h
  refine zw_ni (b := 400) hX zk_ai dX16_init_122 (by omega) (by omega) (by decide) g ?_
  obtain ⟨S30, g, h⟩ := zb_some h
  refine zw_putv hX zl_X16_53 zt_16_25 dX16_init_124 rfl rfl g ?_
  refine zw_aload_n hX dX16_init_127 rfl ?_
  refine zw_sipush (v := (400 : Int32)) hX dX16_init_128 (by decide) ?_
  obtain ⟨S31, g, h⟩ := zb_some h
  refine zw_ni (b := 400) hX zk_ai dX16_init_131 (by omega) (by omega) (by decide) g ?_
  obtain ⟨S32, g, h⟩ := zb_some h
  refine zw_putv hX zl_X16_56 zt_16_26 dX16_init_133 rfl rfl g ?_
  refine zw_aload_n hX dX16_init_136 rfl ?_
  refine zw_sipush (v := (460 : Int32)) hX dX16_init_137 (by decide) ?_
  obtain ⟨S33, g, h⟩ := zb_some h
  refine zw_ni (b := 460) hX zk_ai dX16_init_140 (by omega) (by omega) (by decide) g ?_
  obtain ⟨S34, g, h⟩ := zb_some h
  refine zw_putvF hX zl_X16_59 zt_16_28 dX16_init_142 rfl rfl g ?_
  refine zw_aload_n hX dX16_init_145 rfl ?_
  refine zw_sipush (v := (460 : Int32)) hX dX16_init_146 (by decide) ?_
  obtain ⟨S35, g, h⟩ := zb_some h
  refine zw_ni (b := 460) hX zk_ai dX16_init_149 (by omega) (by omega) (by decide) g ?_
  obtain ⟨S36, g, h⟩ := zb_some h
  refine zw_putvF hX zl_X16_62 zt_16_29 dX16_init_151 rfl rfl g ?_
  refine zw_aload_n hX dX16_init_154 rfl ?_
  refine zw_sipush (v := (460 : Int32)) hX dX16_init_155 (by decide) ?_
  obtain ⟨S37, g, h⟩ := zb_some h
  refine zw_ni (b := 460) hX zk_ai dX16_init_158 (by omega) (by omega) (by decide) g ?_
  obtain ⟨S38, g, h⟩ := zb_some h
  refine zw_putvF hX zl_X16_65 zt_16_31 dX16_init_160 rfl rfl g ?_
  refine zw_aload_n hX dX16_init_163 rfl ?_
  refine zw_sipush (v := (460 : Int32)) hX dX16_init_164 (by decide) ?_
  obtain ⟨S39, g, h⟩ := zb_some h
  refine zw_ni (b := 460) hX zk_ai dX16_init_167 (by omega) (by omega) (by decide) g ?_
  obtain ⟨S40, g, h⟩ := zb_some h
  refine zw_putvF hX zl_X16_68 zt_16_32 dX16_init_169 rfl rfl g ?_
  refine zw_aload_n hX dX16_init_172 rfl ?_
  refine zw_sipush (v := (460 : Int32)) hX dX16_init_173 (by decide) ?_
  obtain ⟨S41, g, h⟩ := zb_some h
  refine zw_ni (b := 460) hX zk_ai dX16_init_176 (by omega) (by omega) (by decide) g ?_
  obtain ⟨S42, g, h⟩ := zb_some h
  refine zw_putvF hX zl_X16_71 zt_16_33 dX16_init_178 rfl rfl g ?_
  refine zw_aload_n hX dX16_init_181 rfl ?_
  refine zw_sipush (v := (920 : Int32)) hX dX16_init_182 (by decide) ?_
  obtain ⟨S43, g, h⟩ := zb_some h
  refine zw_nb (b := 920) hX zk_ab dX16_init_185 (by omega) (by omega) (by decide) g ?_
  obtain ⟨S44, g, h⟩ := zb_some h
  refine zw_putvF hX zl_X16_74 zt_16_34 dX16_init_187 rfl rfl g ?_
  refine zw_aload_n hX dX16_init_190 rfl ?_
  refine zw_sipush (v := (460 : Int32)) hX dX16_init_191 (by decide) ?_
  obtain ⟨S45, g, h⟩ := zb_some h
  refine zw_ni (b := 460) hX zk_ai dX16_init_194 (by omega) (by omega) (by decide) g ?_
  obtain ⟨S46, g, h⟩ := zb_some h
  refine zw_putvF hX zl_X16_77 zt_16_36 dX16_init_196 rfl rfl g ?_
  refine zw_aload_n hX dX16_init_199 rfl ?_
  refine zw_sipush (v := (460 : Int32)) hX dX16_init_200 (by decide) ?_
  obtain ⟨S47, g, h⟩ := zb_some h
  refine zw_ni (b := 460) hX zk_ai dX16_init_203 (by omega) (by omega) (by decide) g ?_
  obtain ⟨S48, g, h⟩ := zb_some h
  refine zw_putvF hX zl_X16_80 zt_16_37 dX16_init_205 rfl rfl g ?_
  refine zw_aload_n hX dX16_init_208 rfl ?_
  refine zw_sipush (v := (1764 : Int32)) hX dX16_init_209 (by decide) ?_
  obtain ⟨S49, g, h⟩ := zb_some h
  refine zw_ni (b := 1764) hX zk_ai dX16_init_212 (by omega) (by omega) (by decide) g ?_
  obtain ⟨S50, g, h⟩ := zb_some h
  refine zw_putvF hX zl_X16_83 zt_16_38 dX16_init_214 rfl rfl g ?_
  refine zw_aload_n hX dX16_init_217 rfl ?_
  refine zw_sipush (v := (401 : Int32)) hX dX16_init_218 (by decide) ?_
  obtain ⟨S51, g, h⟩ := zb_some h
  refine zw_ni (b := 401) hX zk_ai dX16_init_221 (by omega) (by omega) (by decide) g ?_
  obtain ⟨S52, g, h⟩ := zb_some h
  refine zw_putvF hX zl_X16_86 zt_16_39 dX16_init_223 rfl rfl g ?_
  obtain rfl := Option.some.inj h
  exact zw_vret hX hr dX16_init_226 ⟨rfl, rfl⟩
set_option maxHeartbeats 4000000 in
set_option maxRecDepth 100000 in
theorem zt_X16_highX {l : Launch} {V : zm_V} {N : Nat} {S : zm_S} {out : (Int32 × zm_S)} {d : Nat} {a0 : Nat} {i1 : Int32} (hd : 1 ≤ d) (h : zf_X16_highX N a0 i1 S = some out) : zm_Met l zk_E V yX16_highX (.code yX16_highX cX16_highX 2 (some .int)) d [.ref a0, .int i1] S 0 0 (zo_i out) zo_x := by
  refine zm_of (by decide +kernel) (Nat.le_of_ble_eq_true rfl) ?_
  intro p e R s m args below meth c hRR hX hr hxt
  have hR : R.frames = d ∧ R.locals = 64 * d := by rw [hRR]; exact ⟨rfl, rfl⟩
  have hX : zm_X p R s m args meth c RX16 "highX" cX16_highX 2 zk_E V 0 0 := hX
  unfold zf_X16_highX at h
  refine zw_sub (lv' := [(0, .ref a0), (1, .int i1)]) (List.forall_mem_cons.mpr ⟨rfl, (List.forall_mem_cons.mpr ⟨rfl, zs_nil⟩)⟩) ?_
  refine zw_aload_n hX dX16_highX_0 rfl ?_
  obtain ⟨b1, g, h⟩ := zb_some h
  refine zw_getr hX zl_X16_7 dX16_highX_1 g ?_
  refine zw_iload_n hX dX16_highX_4 rfl ?_
  obtain ⟨v2, g, h⟩ := zb_some h
  refine zw_xi hX dX16_highX_5 g ?_
  refine zw_aload_n hX dX16_highX_6 rfl ?_
  obtain ⟨b3, g, h⟩ := zb_some h
  refine zw_getr hX zl_X16_16 dX16_highX_7 g ?_
  refine zw_iload_n hX dX16_highX_10 rfl ?_
  obtain ⟨v4, g, h⟩ := zb_some h
  refine zw_xz hX dX16_highX_11 g ?_
  refine zw_if_eq (tgt := 24) hX dX16_highX_12 (by decide) (fun c12 => ?_) (fun c12 => ?_)
  · rw [if_pos c12] at h
    refine zw_iconst (v := (0 : Int32)) hX dX16_highX_24 (by decide) ?_
    refine zw_iadd hX dX16_highX_25 ?_
    obtain rfl := Option.some.inj h
    exact zw_iret hX hr dX16_highX_26 rfl ⟨rfl, rfl⟩
  · rw [if_neg c12] at h
    refine zw_aload_n hX dX16_highX_15 rfl ?_
    obtain ⟨b5, g, h⟩ := zb_some h
    refine zw_getr hX zl_X16_20 dX16_highX_16 g ?_
    refine zw_iload_n hX dX16_highX_19 rfl ?_
    obtain ⟨v6, g, h⟩ := zb_some h
    refine zw_xi hX dX16_highX_20 g ?_
    refine zw_goto (tgt := 25) hX dX16_highX_21 (by decide) ?_
    refine zw_iadd hX dX16_highX_25 ?_
    obtain rfl := Option.some.inj h
    exact zw_iret hX hr dX16_highX_26 rfl ⟨rfl, rfl⟩
set_option maxHeartbeats 4000000 in
set_option maxRecDepth 100000 in
theorem zt_X16_highY {l : Launch} {V : zm_V} {N : Nat} {S : zm_S} {out : (Int32 × zm_S)} {d : Nat} {a0 : Nat} {i1 : Int32} (hd : 1 ≤ d) (h : zf_X16_highY N a0 i1 S = some out) : zm_Met l zk_E V yX16_highY (.code yX16_highY cX16_highY 2 (some .int)) d [.ref a0, .int i1] S 0 0 (zo_i out) zo_x := by
  refine zm_of (by decide +kernel) (Nat.le_of_ble_eq_true rfl) ?_
  intro p e R s m args below meth c hRR hX hr hxt
  have hR : R.frames = d ∧ R.locals = 64 * d := by rw [hRR]; exact ⟨rfl, rfl⟩
  have hX : zm_X p R s m args meth c RX16 "highY" cX16_highY 2 zk_E V 0 0 := hX
  unfold zf_X16_highY at h
  refine zw_sub (lv' := [(0, .ref a0), (1, .int i1)]) (List.forall_mem_cons.mpr ⟨rfl, (List.forall_mem_cons.mpr ⟨rfl, zs_nil⟩)⟩) ?_
  refine zw_aload_n hX dX16_highY_0 rfl ?_
  obtain ⟨b1, g, h⟩ := zb_some h
  refine zw_getr hX zl_X16_13 dX16_highY_1 g ?_
  refine zw_iload_n hX dX16_highY_4 rfl ?_
  obtain ⟨v2, g, h⟩ := zb_some h
  refine zw_xi hX dX16_highY_5 g ?_
  refine zw_aload_n hX dX16_highY_6 rfl ?_
  obtain ⟨b3, g, h⟩ := zb_some h
  refine zw_getr hX zl_X16_16 dX16_highY_7 g ?_
  refine zw_iload_n hX dX16_highY_10 rfl ?_
  obtain ⟨v4, g, h⟩ := zb_some h
  refine zw_xz hX dX16_highY_11 g ?_
  refine zw_if_eq (tgt := 19) hX dX16_highY_12 (by decide) (fun c12 => ?_) (fun c12 => ?_)
  · rw [if_pos c12] at h
    refine zw_aload_n hX dX16_highY_19 rfl ?_
    obtain ⟨b5, g, h⟩ := zb_some h
    refine zw_getr hX zl_X16_20 dX16_highY_20 g ?_
    refine zw_iload_n hX dX16_highY_23 rfl ?_
    obtain ⟨v6, g, h⟩ := zb_some h
    refine zw_xi hX dX16_highY_24 g ?_
    refine zw_iadd hX dX16_highY_25 ?_
    obtain rfl := Option.some.inj h
    exact zw_iret hX hr dX16_highY_26 rfl ⟨rfl, rfl⟩
  · rw [if_neg c12] at h
    refine zw_iconst (v := (0 : Int32)) hX dX16_highY_15 (by decide) ?_
    refine zw_goto (tgt := 25) hX dX16_highY_16 (by decide) ?_
    refine zw_iadd hX dX16_highY_25 ?_
    obtain rfl := Option.some.inj h
    exact zw_iret hX hr dX16_highY_26 rfl ⟨rfl, rfl⟩
set_option maxHeartbeats 4000000 in
set_option maxRecDepth 100000 in
theorem zt_X16_isOn {l : Launch} {V : zm_V} {N : Nat} {S : zm_S} {out : (Int32 × zm_S)} {d : Nat} {a0 : Nat} {i1 : Int32} {i2 : Int32} {i3 : Int32} (hd : 2 ≤ d) (h : zf_X16_isOn N a0 i1 i2 i3 S = some out) : zm_Met l zk_E V yX16_isOn (.code yX16_isOn cX16_isOn 4 (some .boolean)) d [.ref a0, .int i1, .int i2, .int i3] S 0 0 (zo_i out) zo_x := by
  refine zm_of (by decide +kernel) (Nat.le_of_ble_eq_true rfl) ?_
  intro p e R s m args below meth c hRR hX hr hxt
  have hR : R.frames = d ∧ R.locals = 64 * d := by rw [hRR]; exact ⟨rfl, rfl⟩
  have hX : zm_X p R s m args meth c RX16 "isOn" cX16_isOn 4 zk_E V 0 0 := hX
  unfold zf_X16_isOn at h
  refine zw_sub (lv' := [(0, .ref a0), (1, .int i1), (2, .int i2), (3, .int i3)]) (List.forall_mem_cons.mpr ⟨rfl, (List.forall_mem_cons.mpr ⟨rfl, (List.forall_mem_cons.mpr ⟨rfl, (List.forall_mem_cons.mpr ⟨rfl, zs_nil⟩)⟩)⟩)⟩) ?_
  refine zw_iload_n hX dX16_isOn_0 rfl ?_
  refine zw_aload_n hX dX16_isOn_1 rfl ?_
  obtain ⟨b1, g, h⟩ := zb_some h
  refine zw_getr hX zl_X16_7 dX16_isOn_2 g ?_
  refine zw_iload_n hX dX16_isOn_5 rfl ?_
  obtain ⟨v2, g, h⟩ := zb_some h
  refine zw_xi hX dX16_isOn_6 g ?_
  refine zw_icmp_lt (tgt := 42) hX dX16_isOn_7 (by decide) (fun c7 => ?_) (fun c7 => ?_)
  · rw [if_pos c7] at h
    refine zw_iconst (v := (0 : Int32)) hX dX16_isOn_42 (by decide) ?_
    obtain rfl := Option.some.inj h
    exact zw_iret hX hr dX16_isOn_43 rfl ⟨rfl, rfl⟩
  · rw [if_neg c7] at h
    refine zw_iload_n hX dX16_isOn_10 rfl ?_
    refine zw_aload_n hX dX16_isOn_11 rfl ?_
    refine zw_iload_n hX dX16_isOn_12 rfl ?_
    obtain ⟨_, gi, h⟩ := zb_some h
    obtain ⟨r4, g, h⟩ := zb_some h
    refine zc_Vi (as := [.int i1]) hX gi (zt_X16_highX (d := d - 1) (by omega) g) zl_X16_89 rfl dX16_isOn_13 ⟨rfl, rfl, Nat.le_of_ble_eq_true rfl⟩ ⟨by omega, by omega⟩ ?_
    refine zw_icmp_gt (tgt := 42) hX dX16_isOn_16 (by decide) (fun c16 => ?_) (fun c16 => ?_)
    · rw [if_pos c16] at h
      refine zw_iconst (v := (0 : Int32)) hX dX16_isOn_42 (by decide) ?_
      obtain rfl := Option.some.inj h
      exact zw_iret hX hr dX16_isOn_43 rfl ⟨rfl, rfl⟩
    · rw [if_neg c16] at h
      refine zw_iload_n hX dX16_isOn_19 rfl ?_
      refine zw_aload_n hX dX16_isOn_20 rfl ?_
      obtain ⟨b5, g, h⟩ := zb_some h
      refine zw_getr hX zl_X16_13 dX16_isOn_21 g ?_
      refine zw_iload_n hX dX16_isOn_24 rfl ?_
      obtain ⟨v6, g, h⟩ := zb_some h
      refine zw_xi hX dX16_isOn_25 g ?_
      refine zw_icmp_lt (tgt := 42) hX dX16_isOn_26 (by decide) (fun c26 => ?_) (fun c26 => ?_)
      · rw [if_pos c26] at h
        refine zw_iconst (v := (0 : Int32)) hX dX16_isOn_42 (by decide) ?_
        obtain rfl := Option.some.inj h
        exact zw_iret hX hr dX16_isOn_43 rfl ⟨rfl, rfl⟩
      · rw [if_neg c26] at h
        refine zw_iload_n hX dX16_isOn_29 rfl ?_
        refine zw_aload_n hX dX16_isOn_30 rfl ?_
        refine zw_iload_n hX dX16_isOn_31 rfl ?_
        obtain ⟨_, gi, h⟩ := zb_some h
        obtain ⟨r8, g, h⟩ := zb_some h
        refine zc_Vi (as := [.int i1]) hX gi (zt_X16_highY (d := d - 1) (by omega) g) zl_X16_93 rfl dX16_isOn_32 ⟨rfl, rfl, Nat.le_of_ble_eq_true rfl⟩ ⟨by omega, by omega⟩ ?_
        refine zw_icmp_gt (tgt := 42) hX dX16_isOn_35 (by decide) (fun c35 => ?_) (fun c35 => ?_)
        · rw [if_pos c35] at h
          refine zw_iconst (v := (0 : Int32)) hX dX16_isOn_42 (by decide) ?_
          obtain rfl := Option.some.inj h
          exact zw_iret hX hr dX16_isOn_43 rfl ⟨rfl, rfl⟩
        · rw [if_neg c35] at h
          refine zw_iconst (v := (1 : Int32)) hX dX16_isOn_38 (by decide) ?_
          refine zw_goto (tgt := 43) hX dX16_isOn_39 (by decide) ?_
          obtain rfl := Option.some.inj h
          exact zw_iret hX hr dX16_isOn_43 rfl ⟨rfl, rfl⟩
set_option maxHeartbeats 4000000 in
set_option maxRecDepth 100000 in
theorem zt_X16_along_J196 {p : Program} {l : Launch} {e : Env} {R : Room} {s : State} {m : MethodId} {args : Array Value} {below : List Frame} {meth : Method} {c : Code} {V : zm_V} {mc ms d rc rs : Nat} (hX : zm_X p R s m args meth c RX16 "along" cX16_along 5 zk_E V mc ms) (hr : meth.sig.returnType = (some .int)) (hR : R.frames = d ∧ R.locals = 64 * d) (hd : 2 ≤ d) {N : Nat} {i3 : Int32} {t0 : Int32} {out : (Int32 × zm_S)} {S : zm_S} (h : zf_X16_along_J196 N i3 t0 S = some out) : zw p l e R s m args below meth c (vx_MQ below (zm_Qc zk_E V (zo_i out)) (zm_XC zk_E V zo_x) args s mc ms (fun q => V.2.2.2.1 ≤ q)) 5 zk_E V mc ms 196 [(3, .int i3)] [.int t0] S rc rs := by
  unfold zf_X16_along_J196 at h
  refine zw_istore hX dX16_along_196 (by decide) ?_
  refine zw_iload hX dX16_along_198 rfl ?_
  refine zw_iload_n hX dX16_along_200 rfl ?_
  refine zw_isub hX dX16_along_201 ?_
  obtain rfl := Option.some.inj h
  exact zw_iret hX hr dX16_along_202 rfl ⟨rfl, rfl⟩
set_option maxHeartbeats 4000000 in
set_option maxRecDepth 100000 in
theorem zt_X16_along_J131 {p : Program} {l : Launch} {e : Env} {R : Room} {s : State} {m : MethodId} {args : Array Value} {below : List Frame} {meth : Method} {c : Code} {V : zm_V} {mc ms d rc rs : Nat} (hX : zm_X p R s m args meth c RX16 "along" cX16_along 5 zk_E V mc ms) (hr : meth.sig.returnType = (some .int)) (hR : R.frames = d ∧ R.locals = 64 * d) (hd : 2 ≤ d) {N : Nat} {a0 : Nat} {i1 : Int32} {i2 : Int32} {t0 : Int32} {out : (Int32 × zm_S)} {S : zm_S} (h : zf_X16_along_J131 N a0 i1 i2 t0 S = some out) : zw p l e R s m args below meth c (vx_MQ below (zm_Qc zk_E V (zo_i out)) (zm_XC zk_E V zo_x) args s mc ms (fun q => V.2.2.2.1 ≤ q)) 5 zk_E V mc ms 131 [(0, .ref a0), (1, .int i1), (2, .int i2)] [.int t0] S rc rs := by
  unfold zf_X16_along_J131 at h
  refine zw_istore_n hX dX16_along_131 (by decide) ?_
  refine zw_aload_n hX dX16_along_132 rfl ?_
  obtain ⟨b19, g, h⟩ := zb_some h
  refine zw_getr hX zl_X16_16 dX16_along_133 g ?_
  refine zw_iload_n hX dX16_along_136 rfl ?_
  obtain ⟨v20, g, h⟩ := zb_some h
  refine zw_xz hX dX16_along_137 g ?_
  refine zw_if_eq (tgt := 170) hX dX16_along_138 (by decide) (fun c138 => ?_) (fun c138 => ?_)
  · rw [if_pos c138] at h
    refine zw_aload_n hX dX16_along_170 rfl ?_
    refine zw_iload_n hX dX16_along_171 rfl ?_
    obtain ⟨_, gi, h⟩ := zb_some h
    obtain ⟨r22, g, h⟩ := zb_some h
    refine zc_Vi (as := [.int i1]) hX gi (zt_X16_highY (d := d - 1) (by omega) g) zl_X16_93 rfl dX16_along_172 ⟨rfl, rfl, Nat.le_of_ble_eq_true rfl⟩ ⟨by omega, by omega⟩ ?_
    refine zw_aload_n hX dX16_along_175 rfl ?_
    refine zw_iload_n hX dX16_along_176 rfl ?_
    obtain ⟨_, gi, h⟩ := zb_some h
    obtain ⟨r24, g, h⟩ := zb_some h
    refine zc_Vi (as := [.int i2]) hX gi (zt_X16_highY (d := d - 1) (by omega) g) zl_X16_93 rfl dX16_along_177 ⟨rfl, rfl, Nat.le_of_ble_eq_true rfl⟩ ⟨by omega, by omega⟩ ?_
    refine zw_icmp_ge (tgt := 191) hX dX16_along_180 (by decide) (fun c180 => ?_) (fun c180 => ?_)
    · rw [if_pos c180] at h
      refine zw_aload_n hX dX16_along_191 rfl ?_
      refine zw_iload_n hX dX16_along_192 rfl ?_
      obtain ⟨_, gi, h⟩ := zb_some h
      obtain ⟨r26, g, h⟩ := zb_some h
      refine zc_Vi (as := [.int i2]) hX gi (zt_X16_highY (d := d - 1) (by omega) g) zl_X16_93 rfl dX16_along_193 ⟨rfl, rfl, Nat.le_of_ble_eq_true rfl⟩ ⟨by omega, by omega⟩ ?_
      refine zw_sub (lv' := [(3, .int t0)]) (List.forall_mem_cons.mpr ⟨rfl, zs_nil⟩) ?_
      exact zt_X16_along_J196 hX hr hR hd h
    · rw [if_neg c180] at h
      refine zw_aload_n hX dX16_along_183 rfl ?_
      refine zw_iload_n hX dX16_along_184 rfl ?_
      obtain ⟨_, gi, h⟩ := zb_some h
      obtain ⟨r28, g, h⟩ := zb_some h
      refine zc_Vi (as := [.int i1]) hX gi (zt_X16_highY (d := d - 1) (by omega) g) zl_X16_93 rfl dX16_along_185 ⟨rfl, rfl, Nat.le_of_ble_eq_true rfl⟩ ⟨by omega, by omega⟩ ?_
      refine zw_goto (tgt := 196) hX dX16_along_188 (by decide) ?_
      refine zw_sub (lv' := [(3, .int t0)]) (List.forall_mem_cons.mpr ⟨rfl, zs_nil⟩) ?_
      exact zt_X16_along_J196 hX hr hR hd h
  · rw [if_neg c138] at h
    refine zw_aload_n hX dX16_along_141 rfl ?_
    refine zw_iload_n hX dX16_along_142 rfl ?_
    obtain ⟨_, gi, h⟩ := zb_some h
    obtain ⟨r30, g, h⟩ := zb_some h
    refine zc_Vi (as := [.int i1]) hX gi (zt_X16_highX (d := d - 1) (by omega) g) zl_X16_89 rfl dX16_along_143 ⟨rfl, rfl, Nat.le_of_ble_eq_true rfl⟩ ⟨by omega, by omega⟩ ?_
    refine zw_aload_n hX dX16_along_146 rfl ?_
    refine zw_iload_n hX dX16_along_147 rfl ?_
    obtain ⟨_, gi, h⟩ := zb_some h
    obtain ⟨r32, g, h⟩ := zb_some h
    refine zc_Vi (as := [.int i2]) hX gi (zt_X16_highX (d := d - 1) (by omega) g) zl_X16_89 rfl dX16_along_148 ⟨rfl, rfl, Nat.le_of_ble_eq_true rfl⟩ ⟨by omega, by omega⟩ ?_
    refine zw_icmp_ge (tgt := 162) hX dX16_along_151 (by decide) (fun c151 => ?_) (fun c151 => ?_)
    · rw [if_pos c151] at h
      refine zw_aload_n hX dX16_along_162 rfl ?_
      refine zw_iload_n hX dX16_along_163 rfl ?_
      obtain ⟨_, gi, h⟩ := zb_some h
      obtain ⟨r34, g, h⟩ := zb_some h
      refine zc_Vi (as := [.int i2]) hX gi (zt_X16_highX (d := d - 1) (by omega) g) zl_X16_89 rfl dX16_along_164 ⟨rfl, rfl, Nat.le_of_ble_eq_true rfl⟩ ⟨by omega, by omega⟩ ?_
      refine zw_goto (tgt := 196) hX dX16_along_167 (by decide) ?_
      refine zw_sub (lv' := [(3, .int t0)]) (List.forall_mem_cons.mpr ⟨rfl, zs_nil⟩) ?_
      exact zt_X16_along_J196 hX hr hR hd h
    · rw [if_neg c151] at h
      refine zw_aload_n hX dX16_along_154 rfl ?_
      refine zw_iload_n hX dX16_along_155 rfl ?_
      obtain ⟨_, gi, h⟩ := zb_some h
      obtain ⟨r36, g, h⟩ := zb_some h
      refine zc_Vi (as := [.int i1]) hX gi (zt_X16_highX (d := d - 1) (by omega) g) zl_X16_89 rfl dX16_along_156 ⟨rfl, rfl, Nat.le_of_ble_eq_true rfl⟩ ⟨by omega, by omega⟩ ?_
      refine zw_goto (tgt := 196) hX dX16_along_159 (by decide) ?_
      refine zw_sub (lv' := [(3, .int t0)]) (List.forall_mem_cons.mpr ⟨rfl, zs_nil⟩) ?_
      exact zt_X16_along_J196 hX hr hR hd h
set_option maxHeartbeats 4000000 in
set_option maxRecDepth 100000 in
theorem zt_X16_along_J59 {p : Program} {l : Launch} {e : Env} {R : Room} {s : State} {m : MethodId} {args : Array Value} {below : List Frame} {meth : Method} {c : Code} {V : zm_V} {mc ms d rc rs : Nat} (hX : zm_X p R s m args meth c RX16 "along" cX16_along 5 zk_E V mc ms) (hr : meth.sig.returnType = (some .int)) (hR : R.frames = d ∧ R.locals = 64 * d) (hd : 2 ≤ d) {N : Nat} {a0 : Nat} {i1 : Int32} {i2 : Int32} {out : (Int32 × zm_S)} {S : zm_S} (h : zf_X16_along_J59 N a0 i1 i2 S = some out) : zw p l e R s m args below meth c (vx_MQ below (zm_Qc zk_E V (zo_i out)) (zm_XC zk_E V zo_x) args s mc ms (fun q => V.2.2.2.1 ≤ q)) 5 zk_E V mc ms 59 [(0, .ref a0), (1, .int i1), (2, .int i2)] [] S rc rs := by
  unfold zf_X16_along_J59 at h
  refine zw_aload_n hX dX16_along_59 rfl ?_
  obtain ⟨b11, g, h⟩ := zb_some h
  refine zw_getr hX zl_X16_16 dX16_along_60 g ?_
  refine zw_iload_n hX dX16_along_63 rfl ?_
  obtain ⟨v12, g, h⟩ := zb_some h
  refine zw_xz hX dX16_along_64 g ?_
  refine zw_if_eq (tgt := 101) hX dX16_along_65 (by decide) (fun c65 => ?_) (fun c65 => ?_)
  · rw [if_pos c65] at h
    refine zw_aload_n hX dX16_along_101 rfl ?_
    obtain ⟨b13, g, h⟩ := zb_some h
    refine zw_getr hX zl_X16_13 dX16_along_102 g ?_
    refine zw_iload_n hX dX16_along_105 rfl ?_
    obtain ⟨v14, g, h⟩ := zb_some h
    refine zw_xi hX dX16_along_106 g ?_
    refine zw_aload_n hX dX16_along_107 rfl ?_
    obtain ⟨b15, g, h⟩ := zb_some h
    refine zw_getr hX zl_X16_13 dX16_along_108 g ?_
    refine zw_iload_n hX dX16_along_111 rfl ?_
    obtain ⟨v16, g, h⟩ := zb_some h
    refine zw_xi hX dX16_along_112 g ?_
    refine zw_icmp_le (tgt := 125) hX dX16_along_113 (by decide) (fun c113 => ?_) (fun c113 => ?_)
    · rw [if_pos c113] at h
      refine zw_aload_n hX dX16_along_125 rfl ?_
      obtain ⟨b17, g, h⟩ := zb_some h
      refine zw_getr hX zl_X16_13 dX16_along_126 g ?_
      refine zw_iload_n hX dX16_along_129 rfl ?_
      obtain ⟨v18, g, h⟩ := zb_some h
      refine zw_xi hX dX16_along_130 g ?_
      refine zw_sub (lv' := [(0, .ref a0), (1, .int i1), (2, .int i2)]) (List.forall_mem_cons.mpr ⟨rfl, (List.forall_mem_cons.mpr ⟨rfl, (List.forall_mem_cons.mpr ⟨rfl, zs_nil⟩)⟩)⟩) ?_
      exact zt_X16_along_J131 hX hr hR hd h
    · rw [if_neg c113] at h
      refine zw_aload_n hX dX16_along_116 rfl ?_
      obtain ⟨b37, g, h⟩ := zb_some h
      refine zw_getr hX zl_X16_13 dX16_along_117 g ?_
      refine zw_iload_n hX dX16_along_120 rfl ?_
      obtain ⟨v38, g, h⟩ := zb_some h
      refine zw_xi hX dX16_along_121 g ?_
      refine zw_goto (tgt := 131) hX dX16_along_122 (by decide) ?_
      refine zw_sub (lv' := [(0, .ref a0), (1, .int i1), (2, .int i2)]) (List.forall_mem_cons.mpr ⟨rfl, (List.forall_mem_cons.mpr ⟨rfl, (List.forall_mem_cons.mpr ⟨rfl, zs_nil⟩)⟩)⟩) ?_
      exact zt_X16_along_J131 hX hr hR hd h
  · rw [if_neg c65] at h
    refine zw_aload_n hX dX16_along_68 rfl ?_
    obtain ⟨b39, g, h⟩ := zb_some h
    refine zw_getr hX zl_X16_7 dX16_along_69 g ?_
    refine zw_iload_n hX dX16_along_72 rfl ?_
    obtain ⟨v40, g, h⟩ := zb_some h
    refine zw_xi hX dX16_along_73 g ?_
    refine zw_aload_n hX dX16_along_74 rfl ?_
    obtain ⟨b41, g, h⟩ := zb_some h
    refine zw_getr hX zl_X16_7 dX16_along_75 g ?_
    refine zw_iload_n hX dX16_along_78 rfl ?_
    obtain ⟨v42, g, h⟩ := zb_some h
    refine zw_xi hX dX16_along_79 g ?_
    refine zw_icmp_le (tgt := 92) hX dX16_along_80 (by decide) (fun c80 => ?_) (fun c80 => ?_)
    · rw [if_pos c80] at h
      refine zw_aload_n hX dX16_along_92 rfl ?_
      obtain ⟨b43, g, h⟩ := zb_some h
      refine zw_getr hX zl_X16_7 dX16_along_93 g ?_
      refine zw_iload_n hX dX16_along_96 rfl ?_
      obtain ⟨v44, g, h⟩ := zb_some h
      refine zw_xi hX dX16_along_97 g ?_
      refine zw_goto (tgt := 131) hX dX16_along_98 (by decide) ?_
      refine zw_sub (lv' := [(0, .ref a0), (1, .int i1), (2, .int i2)]) (List.forall_mem_cons.mpr ⟨rfl, (List.forall_mem_cons.mpr ⟨rfl, (List.forall_mem_cons.mpr ⟨rfl, zs_nil⟩)⟩)⟩) ?_
      exact zt_X16_along_J131 hX hr hR hd h
    · rw [if_neg c80] at h
      refine zw_aload_n hX dX16_along_83 rfl ?_
      obtain ⟨b45, g, h⟩ := zb_some h
      refine zw_getr hX zl_X16_7 dX16_along_84 g ?_
      refine zw_iload_n hX dX16_along_87 rfl ?_
      obtain ⟨v46, g, h⟩ := zb_some h
      refine zw_xi hX dX16_along_88 g ?_
      refine zw_goto (tgt := 131) hX dX16_along_89 (by decide) ?_
      refine zw_sub (lv' := [(0, .ref a0), (1, .int i1), (2, .int i2)]) (List.forall_mem_cons.mpr ⟨rfl, (List.forall_mem_cons.mpr ⟨rfl, (List.forall_mem_cons.mpr ⟨rfl, zs_nil⟩)⟩)⟩) ?_
      exact zt_X16_along_J131 hX hr hR hd h
set_option maxHeartbeats 4000000 in
set_option maxRecDepth 100000 in
theorem zt_X16_along {l : Launch} {V : zm_V} {N : Nat} {S : zm_S} {out : (Int32 × zm_S)} {d : Nat} {a0 : Nat} {i1 : Int32} {i2 : Int32} (hd : 2 ≤ d) (h : zf_X16_along N a0 i1 i2 S = some out) : zm_Met l zk_E V yX16_along (.code yX16_along cX16_along 5 (some .int)) d [.ref a0, .int i1, .int i2] S 0 0 (zo_i out) zo_x := by
  refine zm_of (by decide +kernel) (Nat.le_of_ble_eq_true rfl) ?_
  intro p e R s m args below meth c hRR hX hr hxt
  have hR : R.frames = d ∧ R.locals = 64 * d := by rw [hRR]; exact ⟨rfl, rfl⟩
  have hX : zm_X p R s m args meth c RX16 "along" cX16_along 5 zk_E V 0 0 := hX
  unfold zf_X16_along at h
  refine zw_sub (lv' := [(0, .ref a0), (1, .int i1), (2, .int i2)]) (List.forall_mem_cons.mpr ⟨rfl, (List.forall_mem_cons.mpr ⟨rfl, (List.forall_mem_cons.mpr ⟨rfl, zs_nil⟩)⟩)⟩) ?_
  refine zw_aload_n hX dX16_along_0 rfl ?_
  obtain ⟨b1, g, h⟩ := zb_some h
  refine zw_getr hX zl_X16_16 dX16_along_1 g ?_
  refine zw_iload_n hX dX16_along_4 rfl ?_
  obtain ⟨v2, g, h⟩ := zb_some h
  refine zw_xz hX dX16_along_5 g ?_
  refine zw_aload_n hX dX16_along_6 rfl ?_
  obtain ⟨b3, g, h⟩ := zb_some h
  refine zw_getr hX zl_X16_16 dX16_along_7 g ?_
  refine zw_iload_n hX dX16_along_10 rfl ?_
  obtain ⟨v4, g, h⟩ := zb_some h
  refine zw_xz hX dX16_along_11 g ?_
  refine zw_icmp_ne (tgt := 57) hX dX16_along_12 (by decide) (fun c12 => ?_) (fun c12 => ?_)
  · rw [if_neg c12] at h
    refine zw_iconst (v := (-1 : Int32)) hX dX16_along_57 (by decide) ?_
    obtain rfl := Option.some.inj h
    exact zw_iret hX hr dX16_along_58 rfl ⟨rfl, rfl⟩
  · rw [if_pos c12] at h
    refine zw_aload_n hX dX16_along_15 rfl ?_
    obtain ⟨b5, g, h⟩ := zb_some h
    refine zw_getr hX zl_X16_16 dX16_along_16 g ?_
    refine zw_iload_n hX dX16_along_19 rfl ?_
    obtain ⟨v6, g, h⟩ := zb_some h
    refine zw_xz hX dX16_along_20 g ?_
    refine zw_if_eq (tgt := 42) hX dX16_along_21 (by decide) (fun c21 => ?_) (fun c21 => ?_)
    · rw [if_pos c21] at h
      refine zw_aload_n hX dX16_along_42 rfl ?_
      obtain ⟨b7, g, h⟩ := zb_some h
      refine zw_getr hX zl_X16_7 dX16_along_43 g ?_
      refine zw_iload_n hX dX16_along_46 rfl ?_
      obtain ⟨v8, g, h⟩ := zb_some h
      refine zw_xi hX dX16_along_47 g ?_
      refine zw_aload_n hX dX16_along_48 rfl ?_
      obtain ⟨b9, g, h⟩ := zb_some h
      refine zw_getr hX zl_X16_7 dX16_along_49 g ?_
      refine zw_iload_n hX dX16_along_52 rfl ?_
      obtain ⟨v10, g, h⟩ := zb_some h
      refine zw_xi hX dX16_along_53 g ?_
      refine zw_icmp_eq (tgt := 59) hX dX16_along_54 (by decide) (fun c54 => ?_) (fun c54 => ?_)
      · rw [if_pos c54] at h
        refine zw_sub (lv' := [(0, .ref a0), (1, .int i1), (2, .int i2)]) (List.forall_mem_cons.mpr ⟨rfl, (List.forall_mem_cons.mpr ⟨rfl, (List.forall_mem_cons.mpr ⟨rfl, zs_nil⟩)⟩)⟩) ?_
        exact zt_X16_along_J59 hX hr hR hd h
      · rw [if_neg c54] at h
        refine zw_iconst (v := (-1 : Int32)) hX dX16_along_57 (by decide) ?_
        obtain rfl := Option.some.inj h
        exact zw_iret hX hr dX16_along_58 rfl ⟨rfl, rfl⟩
    · rw [if_neg c21] at h
      refine zw_aload_n hX dX16_along_24 rfl ?_
      obtain ⟨b47, g, h⟩ := zb_some h
      refine zw_getr hX zl_X16_13 dX16_along_25 g ?_
      refine zw_iload_n hX dX16_along_28 rfl ?_
      obtain ⟨v48, g, h⟩ := zb_some h
      refine zw_xi hX dX16_along_29 g ?_
      refine zw_aload_n hX dX16_along_30 rfl ?_
      obtain ⟨b49, g, h⟩ := zb_some h
      refine zw_getr hX zl_X16_13 dX16_along_31 g ?_
      refine zw_iload_n hX dX16_along_34 rfl ?_
      obtain ⟨v50, g, h⟩ := zb_some h
      refine zw_xi hX dX16_along_35 g ?_
      refine zw_icmp_eq (tgt := 59) hX dX16_along_36 (by decide) (fun c36 => ?_) (fun c36 => ?_)
      · rw [if_pos c36] at h
        refine zw_sub (lv' := [(0, .ref a0), (1, .int i1), (2, .int i2)]) (List.forall_mem_cons.mpr ⟨rfl, (List.forall_mem_cons.mpr ⟨rfl, (List.forall_mem_cons.mpr ⟨rfl, zs_nil⟩)⟩)⟩) ?_
        exact zt_X16_along_J59 hX hr hR hd h
      · rw [if_neg c36] at h
        refine zw_goto (tgt := 57) hX dX16_along_39 (by decide) ?_
        refine zw_iconst (v := (-1 : Int32)) hX dX16_along_57 (by decide) ?_
        obtain rfl := Option.some.inj h
        exact zw_iret hX hr dX16_along_58 rfl ⟨rfl, rfl⟩
set_option maxHeartbeats 4000000 in
set_option maxRecDepth 100000 in
theorem zt_X16_isAlone_J35 {p : Program} {l : Launch} {e : Env} {R : Room} {s : State} {m : MethodId} {args : Array Value} {below : List Frame} {meth : Method} {c : Code} {V : zm_V} {mc ms d rc rs : Nat} (hX : zm_X p R s m args meth c RX16 "isAlone" cX16_isAlone 4 zk_E V mc ms) (hr : meth.sig.returnType = (some .boolean)) (hR : R.frames = d ∧ R.locals = 64 * d) (hd : 3 ≤ d) {N : Nat} {k : Nat → Int32 → Int32 → Int32 → zm_S → Option ((Int32 × zm_S) ⊕ ((Int32) × zm_S))} {a0 : Nat} {i1 : Int32} {i3 : Int32} {res : (Int32 × zm_S) ⊕ ((Int32) × zm_S)} {out : (Int32 × zm_S)}   (hf : ∀ o, res = .inl o → o = out) (hk : ∀ (x2 : Int32) (S' : zm_S), res = .inr (x2, S') → zw p l e R s m args below meth c (vx_MQ below (zm_Qc zk_E V (zo_i out)) (zm_XC zk_E V zo_x) args s mc ms (fun q => V.2.2.2.1 ≤ q)) 4 zk_E V mc ms 43 [(2, .int x2)] [] S' rc rs) (hrec : ∀ (i2' : Int32) (i3' : Int32) (S : zm_S), k a0 i1 i2' i3' S = some res → zw p l e R s m args below meth c (vx_MQ below (zm_Qc zk_E V (zo_i out)) (zm_XC zk_E V zo_x) args s mc ms (fun q => V.2.2.2.1 ≤ q)) 4 zk_E V mc ms 4 [(0, .ref a0), (1, .int i1), (2, .int i2'), (3, .int i3')] [] S rc rs) {S : zm_S} (h : zf_X16_isAlone_J35 N k a0 i1 i3 S = some res) : zw p l e R s m args below meth c (vx_MQ below (zm_Qc zk_E V (zo_i out)) (zm_XC zk_E V zo_x) args s mc ms (fun q => V.2.2.2.1 ≤ q)) 4 zk_E V mc ms 35 [(0, .ref a0), (1, .int i1), (3, .int i3)] [] S rc rs := by
  unfold zf_X16_isAlone_J35 at h
  refine zw_iconst (v := (0 : Int32)) hX dX16_isAlone_35 (by decide) ?_
  refine zw_istore_n hX dX16_isAlone_36 (by decide) ?_
  refine zw_iinc (v := (i3 + (1 : Int32))) hX dX16_isAlone_37 rfl rfl (by decide) ?_
  refine zw_goto (tgt := 4) hX dX16_isAlone_40 (by decide) ?_
  refine zw_sub (lv' := [(0, .ref a0), (1, .int i1), (2, .int (0 : Int32)), (3, .int (i3 + (1 : Int32)))]) (List.forall_mem_cons.mpr ⟨rfl, (List.forall_mem_cons.mpr ⟨rfl, (List.forall_mem_cons.mpr ⟨rfl, (List.forall_mem_cons.mpr ⟨rfl, zs_nil⟩)⟩)⟩)⟩) ?_
  exact hrec _ _ _ h
set_option maxHeartbeats 4000000 in
set_option maxRecDepth 100000 in
theorem zt_X16_isAlone_J31 {p : Program} {l : Launch} {e : Env} {R : Room} {s : State} {m : MethodId} {args : Array Value} {below : List Frame} {meth : Method} {c : Code} {V : zm_V} {mc ms d rc rs : Nat} (hX : zm_X p R s m args meth c RX16 "isAlone" cX16_isAlone 4 zk_E V mc ms) (hr : meth.sig.returnType = (some .boolean)) (hR : R.frames = d ∧ R.locals = 64 * d) (hd : 3 ≤ d) {N : Nat} {k : Nat → Int32 → Int32 → Int32 → zm_S → Option ((Int32 × zm_S) ⊕ ((Int32) × zm_S))} {a0 : Nat} {i1 : Int32} {i3 : Int32} {res : (Int32 × zm_S) ⊕ ((Int32) × zm_S)} {out : (Int32 × zm_S)}   (hf : ∀ o, res = .inl o → o = out) (hk : ∀ (x2 : Int32) (S' : zm_S), res = .inr (x2, S') → zw p l e R s m args below meth c (vx_MQ below (zm_Qc zk_E V (zo_i out)) (zm_XC zk_E V zo_x) args s mc ms (fun q => V.2.2.2.1 ≤ q)) 4 zk_E V mc ms 43 [(2, .int x2)] [] S' rc rs) (hrec : ∀ (i2' : Int32) (i3' : Int32) (S : zm_S), k a0 i1 i2' i3' S = some res → zw p l e R s m args below meth c (vx_MQ below (zm_Qc zk_E V (zo_i out)) (zm_XC zk_E V zo_x) args s mc ms (fun q => V.2.2.2.1 ≤ q)) 4 zk_E V mc ms 4 [(0, .ref a0), (1, .int i1), (2, .int i2'), (3, .int i3')] [] S rc rs) {S : zm_S} (h : zf_X16_isAlone_J31 N k a0 i1 i3 S = some res) : zw p l e R s m args below meth c (vx_MQ below (zm_Qc zk_E V (zo_i out)) (zm_XC zk_E V zo_x) args s mc ms (fun q => V.2.2.2.1 ≤ q)) 4 zk_E V mc ms 31 [(0, .ref a0), (1, .int i1), (3, .int i3)] [] S rc rs := by
  unfold zf_X16_isAlone_J31 at h
  refine zw_iconst (v := (1 : Int32)) hX dX16_isAlone_31 (by decide) ?_
  refine zw_goto (tgt := 36) hX dX16_isAlone_32 (by decide) ?_
  refine zw_istore_n hX dX16_isAlone_36 (by decide) ?_
  refine zw_iinc (v := (i3 + (1 : Int32))) hX dX16_isAlone_37 rfl rfl (by decide) ?_
  refine zw_goto (tgt := 4) hX dX16_isAlone_40 (by decide) ?_
  refine zw_sub (lv' := [(0, .ref a0), (1, .int i1), (2, .int (1 : Int32)), (3, .int (i3 + (1 : Int32)))]) (List.forall_mem_cons.mpr ⟨rfl, (List.forall_mem_cons.mpr ⟨rfl, (List.forall_mem_cons.mpr ⟨rfl, (List.forall_mem_cons.mpr ⟨rfl, zs_nil⟩)⟩)⟩)⟩) ?_
  exact hrec _ _ _ h
set_option maxHeartbeats 4000000 in
set_option maxRecDepth 100000 in
theorem zt_X16_isAlone_L4 {p : Program} {l : Launch} {e : Env} {R : Room} {s : State} {m : MethodId} {args : Array Value} {below : List Frame} {meth : Method} {c : Code} {V : zm_V} {mc ms d rc rs : Nat} (hX : zm_X p R s m args meth c RX16 "isAlone" cX16_isAlone 4 zk_E V mc ms) (hr : meth.sig.returnType = (some .boolean)) (hR : R.frames = d ∧ R.locals = 64 * d) (hd : 3 ≤ d) {N : Nat} {res : (Int32 × zm_S) ⊕ ((Int32) × zm_S)} {out : (Int32 × zm_S)} (a0 : Nat) (i1 : Int32) (hf : ∀ o, res = .inl o → o = out) (hk : ∀ (x2 : Int32) (S' : zm_S), res = .inr (x2, S') → zw p l e R s m args below meth c (vx_MQ below (zm_Qc zk_E V (zo_i out)) (zm_XC zk_E V zo_x) args s mc ms (fun q => V.2.2.2.1 ≤ q)) 4 zk_E V mc ms 43 [(2, .int x2)] [] S' rc rs) : ∀ (n : Nat) (i2 : Int32) (i3 : Int32) (S : zm_S), zf_X16_isAlone_L4 N n a0 i1 i2 i3 S = some res → zw p l e R s m args below meth c (vx_MQ below (zm_Qc zk_E V (zo_i out)) (zm_XC zk_E V zo_x) args s mc ms (fun q => V.2.2.2.1 ≤ q)) 4 zk_E V mc ms 4 [(0, .ref a0), (1, .int i1), (2, .int i2), (3, .int i3)] [] S rc rs := by
  intro n
  induction n with
  | zero => intro i2 i3 S h; cases h
  | succ n ih =>
    intro i2 i3 S h
    rw [zf_X16_isAlone_L4] at h
    refine zw_iload_n hX dX16_isAlone_4 rfl ?_
    refine zw_aload_n hX dX16_isAlone_5 rfl ?_
    obtain ⟨v1, g, h⟩ := zb_some h
    refine zw_geti hX zl_X16_96 dX16_isAlone_6 g ?_
    refine zw_icmp_ge (tgt := 43) hX dX16_isAlone_9 (by decide) (fun c9 => ?_) (fun c9 => ?_)
    · rw [if_pos c9] at h
      refine zw_sub (lv' := [(2, .int i2)]) (List.forall_mem_cons.mpr ⟨rfl, zs_nil⟩) ?_
      exact hk _ _ (Option.some.inj h).symm
    · rw [if_neg c9] at h
      refine zw_iload_n hX dX16_isAlone_12 rfl ?_
      refine zw_if_eq (tgt := 35) hX dX16_isAlone_13 (by decide) (fun c13 => ?_) (fun c13 => ?_)
      · rw [if_pos c13] at h
        refine zw_sub (lv' := [(0, .ref a0), (1, .int i1), (3, .int i3)]) (List.forall_mem_cons.mpr ⟨rfl, (List.forall_mem_cons.mpr ⟨rfl, (List.forall_mem_cons.mpr ⟨rfl, zs_nil⟩)⟩)⟩) ?_
        exact zt_X16_isAlone_J35 hX hr hR hd hf hk ih h
      · rw [if_neg c13] at h
        refine zw_iload_n hX dX16_isAlone_16 rfl ?_
        refine zw_iload_n hX dX16_isAlone_17 rfl ?_
        refine zw_icmp_eq (tgt := 31) hX dX16_isAlone_18 (by decide) (fun c18 => ?_) (fun c18 => ?_)
        · rw [if_pos c18] at h
          refine zw_sub (lv' := [(0, .ref a0), (1, .int i1), (3, .int i3)]) (List.forall_mem_cons.mpr ⟨rfl, (List.forall_mem_cons.mpr ⟨rfl, (List.forall_mem_cons.mpr ⟨rfl, zs_nil⟩)⟩)⟩) ?_
          exact zt_X16_isAlone_J31 hX hr hR hd hf hk ih h
        · rw [if_neg c18] at h
          refine zw_aload_n hX dX16_isAlone_21 rfl ?_
          refine zw_iload_n hX dX16_isAlone_22 rfl ?_
          refine zw_iload_n hX dX16_isAlone_23 rfl ?_
          obtain ⟨_, gi, h⟩ := zb_some h
          obtain ⟨r3, g, h⟩ := zb_some h
          refine zc_Vi (as := [.int i3, .int i1]) hX gi (zt_X16_along (d := d - 1) (by omega) g) zl_X16_100 rfl dX16_isAlone_24 ⟨rfl, rfl, Nat.le_of_ble_eq_true rfl⟩ ⟨by omega, by omega⟩ ?_
          refine zw_iconst (v := (1 : Int32)) hX dX16_isAlone_27 (by decide) ?_
          refine zw_icmp_ge (tgt := 35) hX dX16_isAlone_28 (by decide) (fun c28 => ?_) (fun c28 => ?_)
          · rw [if_pos c28] at h
            refine zw_sub (lv' := [(0, .ref a0), (1, .int i1), (3, .int i3)]) (List.forall_mem_cons.mpr ⟨rfl, (List.forall_mem_cons.mpr ⟨rfl, (List.forall_mem_cons.mpr ⟨rfl, zs_nil⟩)⟩)⟩) ?_
            exact zt_X16_isAlone_J35 hX hr hR hd hf hk ih h
          · rw [if_neg c28] at h
            refine zw_sub (lv' := [(0, .ref a0), (1, .int i1), (3, .int i3)]) (List.forall_mem_cons.mpr ⟨rfl, (List.forall_mem_cons.mpr ⟨rfl, (List.forall_mem_cons.mpr ⟨rfl, zs_nil⟩)⟩)⟩) ?_
            exact zt_X16_isAlone_J31 hX hr hR hd hf hk ih h
set_option maxHeartbeats 4000000 in
set_option maxRecDepth 100000 in
theorem zt_X16_isAlone {l : Launch} {V : zm_V} {N : Nat} {S : zm_S} {out : (Int32 × zm_S)} {d : Nat} {a0 : Nat} {i1 : Int32} (hd : 3 ≤ d) (h : zf_X16_isAlone N a0 i1 S = some out) : zm_Met l zk_E V yX16_isAlone (.code yX16_isAlone cX16_isAlone 4 (some .boolean)) d [.ref a0, .int i1] S 0 0 (zo_i out) zo_x := by
  refine zm_of (by decide +kernel) (Nat.le_of_ble_eq_true rfl) ?_
  intro p e R s m args below meth c hRR hX hr hxt
  have hR : R.frames = d ∧ R.locals = 64 * d := by rw [hRR]; exact ⟨rfl, rfl⟩
  have hX : zm_X p R s m args meth c RX16 "isAlone" cX16_isAlone 4 zk_E V 0 0 := hX
  unfold zf_X16_isAlone at h
  refine zw_sub (lv' := [(0, .ref a0), (1, .int i1)]) (List.forall_mem_cons.mpr ⟨rfl, (List.forall_mem_cons.mpr ⟨rfl, zs_nil⟩)⟩) ?_
  refine zw_iconst (v := (1 : Int32)) hX dX16_isAlone_0 (by decide) ?_
  refine zw_istore_n hX dX16_isAlone_1 (by decide) ?_
  refine zw_iconst (v := (0 : Int32)) hX dX16_isAlone_2 (by decide) ?_
  refine zw_istore_n hX dX16_isAlone_3 (by decide) ?_
  obtain ⟨r, g, h⟩ := zb_some h
  refine zw_sub (lv' := [(0, .ref a0), (1, .int i1), (2, .int (1 : Int32)), (3, .int (0 : Int32))]) (List.forall_mem_cons.mpr ⟨rfl, (List.forall_mem_cons.mpr ⟨rfl, (List.forall_mem_cons.mpr ⟨rfl, (List.forall_mem_cons.mpr ⟨rfl, zs_nil⟩)⟩)⟩)⟩) ?_
  refine zt_X16_isAlone_L4 hX hr hR hd (res := r) (out := out) a0 i1 ?_ ?_ N _ _ _ g
  · intro o ho
    subst ho
    exact Option.some.inj h
  · intro v5 S4 hx
    subst hx
    try dsimp only at h
    refine zw_iload_n hX dX16_isAlone_43 rfl ?_
    by_cases cz : v5 = 0 ∨ v5 = 1
    · rw [if_pos cz] at h
      obtain rfl := Option.some.inj h
      exact zw_iret hX hr dX16_isAlone_44 (zn_z cz) ⟨rfl, rfl⟩
    · rw [if_neg cz] at h
      cases h
set_option maxHeartbeats 4000000 in
set_option maxRecDepth 100000 in
theorem zt_X16_isIn {l : Launch} {V : zm_V} {N : Nat} {S : zm_S} {out : (Int32 × zm_S)} {d : Nat} {i0 : Int32} (hd : 1 ≤ d) (h : zf_X16_isIn N i0 S = some out) : zm_Met l zk_E V yX16_isIn (.code yX16_isIn cX16_isIn 1 (some .boolean)) d [.int i0] S 0 0 (zo_i out) zo_x := by
  refine zm_of (by decide +kernel) (Nat.le_of_ble_eq_true rfl) ?_
  intro p e R s m args below meth c hRR hX hr hxt
  have hR : R.frames = d ∧ R.locals = 64 * d := by rw [hRR]; exact ⟨rfl, rfl⟩
  have hX : zm_X p R s m args meth c RX16 "isIn" cX16_isIn 1 zk_E V 0 0 := hX
  unfold zf_X16_isIn at h
  refine zw_sub (lv' := [(0, .int i0)]) (List.forall_mem_cons.mpr ⟨rfl, zs_nil⟩) ?_
  refine zw_iload_n hX dX16_isIn_0 rfl ?_
  refine zw_if_lt (tgt := 14) hX dX16_isIn_1 (by decide) (fun c1 => ?_) (fun c1 => ?_)
  · rw [if_pos c1] at h
    refine zw_iconst (v := (0 : Int32)) hX dX16_isIn_14 (by decide) ?_
    obtain rfl := Option.some.inj h
    exact zw_iret hX hr dX16_isIn_15 rfl ⟨rfl, rfl⟩
  · rw [if_neg c1] at h
    refine zw_iload_n hX dX16_isIn_4 rfl ?_
    refine zw_bipush (v := (24 : Int32)) hX dX16_isIn_5 (by decide) ?_
    refine zw_icmp_gt (tgt := 14) hX dX16_isIn_7 (by decide) (fun c7 => ?_) (fun c7 => ?_)
    · rw [if_pos c7] at h
      refine zw_iconst (v := (0 : Int32)) hX dX16_isIn_14 (by decide) ?_
      obtain rfl := Option.some.inj h
      exact zw_iret hX hr dX16_isIn_15 rfl ⟨rfl, rfl⟩
    · rw [if_neg c7] at h
      refine zw_iconst (v := (1 : Int32)) hX dX16_isIn_10 (by decide) ?_
      refine zw_goto (tgt := 15) hX dX16_isIn_11 (by decide) ?_
      obtain rfl := Option.some.inj h
      exact zw_iret hX hr dX16_isIn_15 rfl ⟨rfl, rfl⟩
set_option maxHeartbeats 4000000 in
set_option maxRecDepth 100000 in
theorem zt_X16_lengthOf {l : Launch} {V : zm_V} {N : Nat} {S : zm_S} {out : (Int32 × zm_S)} {d : Nat} {a0 : Nat} {i1 : Int32} (hd : 1 ≤ d) (h : zf_X16_lengthOf N a0 i1 S = some out) : zm_Met l zk_E V yX16_lengthOf (.code yX16_lengthOf cX16_lengthOf 2 (some .int)) d [.ref a0, .int i1] S 0 0 (zo_i out) zo_x := by
  refine zm_of (by decide +kernel) (Nat.le_of_ble_eq_true rfl) ?_
  intro p e R s m args below meth c hRR hX hr hxt
  have hR : R.frames = d ∧ R.locals = 64 * d := by rw [hRR]; exact ⟨rfl, rfl⟩
  have hX : zm_X p R s m args meth c RX16 "lengthOf" cX16_lengthOf 2 zk_E V 0 0 := hX
  unfold zf_X16_lengthOf at h
  refine zw_sub (lv' := [(0, .ref a0), (1, .int i1)]) (List.forall_mem_cons.mpr ⟨rfl, (List.forall_mem_cons.mpr ⟨rfl, zs_nil⟩)⟩) ?_
  refine zw_aload_n hX dX16_lengthOf_0 rfl ?_
  obtain ⟨b1, g, h⟩ := zb_some h
  refine zw_getr hX zl_X16_20 dX16_lengthOf_1 g ?_
  refine zw_iload_n hX dX16_lengthOf_4 rfl ?_
  obtain ⟨v2, g, h⟩ := zb_some h
  refine zw_xi hX dX16_lengthOf_5 g ?_
  obtain rfl := Option.some.inj h
  exact zw_iret hX hr dX16_lengthOf_6 rfl ⟨rfl, rfl⟩
set_option maxHeartbeats 4000000 in
set_option maxRecDepth 100000 in
theorem zt_X16_line_J59 {p : Program} {l : Launch} {e : Env} {R : Room} {s : State} {m : MethodId} {args : Array Value} {below : List Frame} {meth : Method} {c : Code} {V : zm_V} {mc ms d rc rs : Nat} (hX : zm_X p R s m args meth c RX16 "line" cX16_line 5 zk_E V mc ms) (hr : meth.sig.returnType = (some .int)) (hR : R.frames = d ∧ R.locals = 64 * d) (hd : 4 ≤ d) {N : Nat} {a0 : Nat} {i1 : Int32} {i2 : Int32} {i3 : Int32} {i4 : Int32} {t0 : Nat} {t1 : Int32} {t2 : Int32} {out : (Int32 × zm_S)} {S : zm_S} (h : zf_X16_line_J59 N a0 i1 i2 i3 i4 t0 t1 t2 S = some out) : zw p l e R s m args below meth c (vx_MQ below (zm_Qc zk_E V (zo_i out)) (zm_XC zk_E V zo_x) args s mc ms (fun q => V.2.2.2.1 ≤ q)) 5 zk_E V mc ms 59 [(0, .ref a0), (1, .int i1), (2, .int i2), (3, .int i3), (4, .int i4)] [.int t2, .int t1, .ref t0] S rc rs := by
  unfold zf_X16_line_J59 at h
  obtain ⟨S9, g, h⟩ := zb_some h
  refine zw_sz hX dX16_line_59 g ?_
  refine zw_aload_n hX dX16_line_60 rfl ?_
  obtain ⟨b10, g, h⟩ := zb_some h
  refine zw_getr hX zl_X16_20 dX16_line_61 g ?_
  refine zw_aload_n hX dX16_line_64 rfl ?_
  obtain ⟨v11, g, h⟩ := zb_some h
  refine zw_geti hX zl_X16_96 dX16_line_65 g ?_
  refine zw_iload_n hX dX16_line_68 rfl ?_
  refine zw_iload_n hX dX16_line_69 rfl ?_
  refine zw_iadd hX dX16_line_70 ?_
  refine zw_iconst (v := (2 : Int32)) hX dX16_line_71 (by decide) ?_
  refine zw_aload_n hX dX16_line_72 rfl ?_
  obtain ⟨b12, g, h⟩ := zb_some h
  refine zw_getr hX zl_X16_7 dX16_line_73 g ?_
  refine zw_aload_n hX dX16_line_76 rfl ?_
  obtain ⟨v13, g, h⟩ := zb_some h
  refine zw_geti hX zl_X16_96 dX16_line_77 g ?_
  obtain ⟨v14, g, h⟩ := zb_some h
  refine zw_xi hX dX16_line_80 g ?_
  refine zw_imul hX dX16_line_81 ?_
  refine zw_isub hX dX16_line_82 ?_
  refine zw_iload_n hX dX16_line_83 rfl ?_
  refine zw_iadd hX dX16_line_84 ?_
  refine zw_iload hX dX16_line_85 rfl ?_
  refine zw_iadd hX dX16_line_87 ?_
  refine zw_iconst (v := (2 : Int32)) hX dX16_line_88 (by decide) ?_
  refine zw_aload_n hX dX16_line_89 rfl ?_
  obtain ⟨b15, g, h⟩ := zb_some h
  refine zw_getr hX zl_X16_13 dX16_line_90 g ?_
  refine zw_aload_n hX dX16_line_93 rfl ?_
  obtain ⟨v16, g, h⟩ := zb_some h
  refine zw_geti hX zl_X16_96 dX16_line_94 g ?_
  obtain ⟨v17, g, h⟩ := zb_some h
  refine zw_xi hX dX16_line_97 g ?_
  refine zw_imul hX dX16_line_98 ?_
  refine zw_isub hX dX16_line_99 ?_
  obtain ⟨S18, g, h⟩ := zb_some h
  refine zw_si hX dX16_line_100 g ?_
  refine zw_aload_n hX dX16_line_101 rfl ?_
  obtain ⟨b19, g, h⟩ := zb_some h
  refine zw_getr hX zl_X16_23 dX16_line_102 g ?_
  refine zw_aload_n hX dX16_line_105 rfl ?_
  obtain ⟨v20, g, h⟩ := zb_some h
  refine zw_geti hX zl_X16_96 dX16_line_106 g ?_
  refine zw_iconst (v := (0 : Int32)) hX dX16_line_109 (by decide) ?_
  obtain ⟨S21, g, h⟩ := zb_some h
  refine zw_si hX dX16_line_110 g ?_
  refine zw_aload_n hX dX16_line_111 rfl ?_
  refine zw_aload_n hX dX16_line_112 rfl ?_
  obtain ⟨v22, g, h⟩ := zb_some h
  refine zw_geti hX zl_X16_96 dX16_line_113 g ?_
  obtain ⟨_, gi, h⟩ := zb_some h
  obtain ⟨r24, g, h⟩ := zb_some h
  refine zc_Vi (as := [.int v22]) hX gi (zt_X16_isAlone (d := d - 1) (by omega) g) zl_X16_104 rfl dX16_line_116 ⟨rfl, rfl, Nat.le_of_ble_eq_true rfl⟩ ⟨by omega, by omega⟩ ?_
  refine zw_if_ne (tgt := 124) hX dX16_line_119 (by decide) (fun c119 => ?_) (fun c119 => ?_)
  · rw [if_neg c119] at h
    refine zw_aload_n hX dX16_line_124 rfl ?_
    refine zw_dup hX dX16_line_125 rfl ?_
    obtain ⟨v25, g, h⟩ := zb_some h
    refine zw_geti hX zl_X16_96 dX16_line_126 g ?_
    refine zw_iconst (v := (1 : Int32)) hX dX16_line_129 (by decide) ?_
    refine zw_iadd hX dX16_line_130 ?_
    obtain ⟨S26, g, h⟩ := zb_some h
    refine zw_putv hX zl_X16_96 zt_16_0 dX16_line_131 rfl rfl g ?_
    refine zw_aload_n hX dX16_line_134 rfl ?_
    refine zw_iconst (v := (0 : Int32)) hX dX16_line_135 (by decide) ?_
    obtain ⟨S27, g, h⟩ := zb_some h
    refine zw_putv hX zl_X16_108 zt_16_10 dX16_line_136 rfl (by decide) g ?_
    refine zw_aload_n hX dX16_line_139 rfl ?_
    obtain ⟨v28, g, h⟩ := zb_some h
    refine zw_geti hX zl_X16_96 dX16_line_140 g ?_
    refine zw_iconst (v := (1 : Int32)) hX dX16_line_143 (by decide) ?_
    refine zw_isub hX dX16_line_144 ?_
    obtain rfl := Option.some.inj h
    exact zw_iret hX hr dX16_line_145 rfl ⟨rfl, rfl⟩
  · rw [if_pos c119] at h
    refine zw_iconst (v := (-1 : Int32)) hX dX16_line_122 (by decide) ?_
    obtain rfl := Option.some.inj h
    exact zw_iret hX hr dX16_line_123 rfl ⟨rfl, rfl⟩
set_option maxHeartbeats 4000000 in
set_option maxRecDepth 100000 in
theorem zt_X16_line_J39 {p : Program} {l : Launch} {e : Env} {R : Room} {s : State} {m : MethodId} {args : Array Value} {below : List Frame} {meth : Method} {c : Code} {V : zm_V} {mc ms d rc rs : Nat} (hX : zm_X p R s m args meth c RX16 "line" cX16_line 5 zk_E V mc ms) (hr : meth.sig.returnType = (some .int)) (hR : R.frames = d ∧ R.locals = 64 * d) (hd : 4 ≤ d) {N : Nat} {a0 : Nat} {i1 : Int32} {i2 : Int32} {i3 : Int32} {i4 : Int32} {t0 : Nat} {t1 : Int32} {t2 : Int32} {out : (Int32 × zm_S)} {S : zm_S} (h : zf_X16_line_J39 N a0 i1 i2 i3 i4 t0 t1 t2 S = some out) : zw p l e R s m args below meth c (vx_MQ below (zm_Qc zk_E V (zo_i out)) (zm_XC zk_E V zo_x) args s mc ms (fun q => V.2.2.2.1 ≤ q)) 5 zk_E V mc ms 39 [(0, .ref a0), (1, .int i1), (2, .int i2), (3, .int i3), (4, .int i4)] [.int t2, .int t1, .ref t0] S rc rs := by
  unfold zf_X16_line_J39 at h
  obtain ⟨S6, g, h⟩ := zb_some h
  refine zw_si hX dX16_line_39 g ?_
  refine zw_aload_n hX dX16_line_40 rfl ?_
  obtain ⟨b7, g, h⟩ := zb_some h
  refine zw_getr hX zl_X16_16 dX16_line_41 g ?_
  refine zw_aload_n hX dX16_line_44 rfl ?_
  obtain ⟨v8, g, h⟩ := zb_some h
  refine zw_geti hX zl_X16_96 dX16_line_45 g ?_
  refine zw_iload_n hX dX16_line_48 rfl ?_
  refine zw_iload hX dX16_line_49 rfl ?_
  refine zw_icmp_ne (tgt := 58) hX dX16_line_51 (by decide) (fun c51 => ?_) (fun c51 => ?_)
  · rw [if_neg c51] at h
    refine zw_iconst (v := (0 : Int32)) hX dX16_line_58 (by decide) ?_
    refine zw_sub (lv' := [(0, .ref a0), (1, .int i1), (2, .int i2), (3, .int i3), (4, .int i4)]) (List.forall_mem_cons.mpr ⟨rfl, (List.forall_mem_cons.mpr ⟨rfl, (List.forall_mem_cons.mpr ⟨rfl, (List.forall_mem_cons.mpr ⟨rfl, (List.forall_mem_cons.mpr ⟨rfl, zs_nil⟩)⟩)⟩)⟩)⟩) ?_
    exact zt_X16_line_J59 hX hr hR hd h
  · rw [if_pos c51] at h
    refine zw_iconst (v := (1 : Int32)) hX dX16_line_54 (by decide) ?_
    refine zw_goto (tgt := 59) hX dX16_line_55 (by decide) ?_
    refine zw_sub (lv' := [(0, .ref a0), (1, .int i1), (2, .int i2), (3, .int i3), (4, .int i4)]) (List.forall_mem_cons.mpr ⟨rfl, (List.forall_mem_cons.mpr ⟨rfl, (List.forall_mem_cons.mpr ⟨rfl, (List.forall_mem_cons.mpr ⟨rfl, (List.forall_mem_cons.mpr ⟨rfl, zs_nil⟩)⟩)⟩)⟩)⟩) ?_
    exact zt_X16_line_J59 hX hr hR hd h
set_option maxHeartbeats 4000000 in
set_option maxRecDepth 100000 in
theorem zt_X16_line_J18 {p : Program} {l : Launch} {e : Env} {R : Room} {s : State} {m : MethodId} {args : Array Value} {below : List Frame} {meth : Method} {c : Code} {V : zm_V} {mc ms d rc rs : Nat} (hX : zm_X p R s m args meth c RX16 "line" cX16_line 5 zk_E V mc ms) (hr : meth.sig.returnType = (some .int)) (hR : R.frames = d ∧ R.locals = 64 * d) (hd : 4 ≤ d) {N : Nat} {a0 : Nat} {i1 : Int32} {i2 : Int32} {i3 : Int32} {i4 : Int32} {t0 : Nat} {t1 : Int32} {t2 : Int32} {out : (Int32 × zm_S)} {S : zm_S} (h : zf_X16_line_J18 N a0 i1 i2 i3 i4 t0 t1 t2 S = some out) : zw p l e R s m args below meth c (vx_MQ below (zm_Qc zk_E V (zo_i out)) (zm_XC zk_E V zo_x) args s mc ms (fun q => V.2.2.2.1 ≤ q)) 5 zk_E V mc ms 18 [(0, .ref a0), (1, .int i1), (2, .int i2), (3, .int i3), (4, .int i4)] [.int t2, .int t1, .ref t0] S rc rs := by
  unfold zf_X16_line_J18 at h
  obtain ⟨S3, g, h⟩ := zb_some h
  refine zw_si hX dX16_line_18 g ?_
  refine zw_aload_n hX dX16_line_19 rfl ?_
  obtain ⟨b4, g, h⟩ := zb_some h
  refine zw_getr hX zl_X16_13 dX16_line_20 g ?_
  refine zw_aload_n hX dX16_line_23 rfl ?_
  obtain ⟨v5, g, h⟩ := zb_some h
  refine zw_geti hX zl_X16_96 dX16_line_24 g ?_
  refine zw_iload_n hX dX16_line_27 rfl ?_
  refine zw_iload hX dX16_line_28 rfl ?_
  refine zw_icmp_ge (tgt := 37) hX dX16_line_30 (by decide) (fun c30 => ?_) (fun c30 => ?_)
  · rw [if_pos c30] at h
    refine zw_iload hX dX16_line_37 rfl ?_
    refine zw_sub (lv' := [(0, .ref a0), (1, .int i1), (2, .int i2), (3, .int i3), (4, .int i4)]) (List.forall_mem_cons.mpr ⟨rfl, (List.forall_mem_cons.mpr ⟨rfl, (List.forall_mem_cons.mpr ⟨rfl, (List.forall_mem_cons.mpr ⟨rfl, (List.forall_mem_cons.mpr ⟨rfl, zs_nil⟩)⟩)⟩)⟩)⟩) ?_
    exact zt_X16_line_J39 hX hr hR hd h
  · rw [if_neg c30] at h
    refine zw_iload_n hX dX16_line_33 rfl ?_
    refine zw_goto (tgt := 39) hX dX16_line_34 (by decide) ?_
    refine zw_sub (lv' := [(0, .ref a0), (1, .int i1), (2, .int i2), (3, .int i3), (4, .int i4)]) (List.forall_mem_cons.mpr ⟨rfl, (List.forall_mem_cons.mpr ⟨rfl, (List.forall_mem_cons.mpr ⟨rfl, (List.forall_mem_cons.mpr ⟨rfl, (List.forall_mem_cons.mpr ⟨rfl, zs_nil⟩)⟩)⟩)⟩)⟩) ?_
    exact zt_X16_line_J39 hX hr hR hd h
set_option maxHeartbeats 4000000 in
set_option maxRecDepth 100000 in
theorem zt_X16_line {l : Launch} {V : zm_V} {N : Nat} {S : zm_S} {out : (Int32 × zm_S)} {d : Nat} {a0 : Nat} {i1 : Int32} {i2 : Int32} {i3 : Int32} {i4 : Int32} (hd : 4 ≤ d) (h : zf_X16_line N a0 i1 i2 i3 i4 S = some out) : zm_Met l zk_E V yX16_line (.code yX16_line cX16_line 5 (some .int)) d [.ref a0, .int i1, .int i2, .int i3, .int i4] S 0 0 (zo_i out) zo_x := by
  refine zm_of (by decide +kernel) (Nat.le_of_ble_eq_true rfl) ?_
  intro p e R s m args below meth c hRR hX hr hxt
  have hR : R.frames = d ∧ R.locals = 64 * d := by rw [hRR]; exact ⟨rfl, rfl⟩
  have hX : zm_X p R s m args meth c RX16 "line" cX16_line 5 zk_E V 0 0 := hX
  unfold zf_X16_line at h
  refine zw_sub (lv' := [(0, .ref a0), (1, .int i1), (2, .int i2), (3, .int i3), (4, .int i4)]) (List.forall_mem_cons.mpr ⟨rfl, (List.forall_mem_cons.mpr ⟨rfl, (List.forall_mem_cons.mpr ⟨rfl, (List.forall_mem_cons.mpr ⟨rfl, (List.forall_mem_cons.mpr ⟨rfl, zs_nil⟩)⟩)⟩)⟩)⟩) ?_
  refine zw_aload_n hX dX16_line_0 rfl ?_
  obtain ⟨b1, g, h⟩ := zb_some h
  refine zw_getr hX zl_X16_7 dX16_line_1 g ?_
  refine zw_aload_n hX dX16_line_4 rfl ?_
  obtain ⟨v2, g, h⟩ := zb_some h
  refine zw_geti hX zl_X16_96 dX16_line_5 g ?_
  refine zw_iload_n hX dX16_line_8 rfl ?_
  refine zw_iload_n hX dX16_line_9 rfl ?_
  refine zw_icmp_ge (tgt := 17) hX dX16_line_10 (by decide) (fun c10 => ?_) (fun c10 => ?_)
  · rw [if_pos c10] at h
    refine zw_iload_n hX dX16_line_17 rfl ?_
    refine zw_sub (lv' := [(0, .ref a0), (1, .int i1), (2, .int i2), (3, .int i3), (4, .int i4)]) (List.forall_mem_cons.mpr ⟨rfl, (List.forall_mem_cons.mpr ⟨rfl, (List.forall_mem_cons.mpr ⟨rfl, (List.forall_mem_cons.mpr ⟨rfl, (List.forall_mem_cons.mpr ⟨rfl, zs_nil⟩)⟩)⟩)⟩)⟩) ?_
    exact zt_X16_line_J18 hX hr hR hd h
  · rw [if_neg c10] at h
    refine zw_iload_n hX dX16_line_13 rfl ?_
    refine zw_goto (tgt := 18) hX dX16_line_14 (by decide) ?_
    refine zw_sub (lv' := [(0, .ref a0), (1, .int i1), (2, .int i2), (3, .int i3), (4, .int i4)]) (List.forall_mem_cons.mpr ⟨rfl, (List.forall_mem_cons.mpr ⟨rfl, (List.forall_mem_cons.mpr ⟨rfl, (List.forall_mem_cons.mpr ⟨rfl, (List.forall_mem_cons.mpr ⟨rfl, zs_nil⟩)⟩)⟩)⟩)⟩) ?_
    exact zt_X16_line_J18 hX hr hR hd h
set_option maxHeartbeats 4000000 in
set_option maxRecDepth 100000 in
theorem zt_X16_mayGo {l : Launch} {V : zm_V} {N : Nat} {S : zm_S} {out : (Int32 × zm_S)} {d : Nat} {a0 : Nat} {i1 : Int32} {i2 : Int32} {i3 : Int32} (hd : 2 ≤ d) (h : zf_X16_mayGo N a0 i1 i2 i3 S = some out) : zm_Met l zk_E V yX16_mayGo (.code yX16_mayGo cX16_mayGo 4 (some .boolean)) d [.ref a0, .int i1, .int i2, .int i3] S 0 0 (zo_i out) zo_x := by
  refine zm_of (by decide +kernel) (Nat.le_of_ble_eq_true rfl) ?_
  intro p e R s m args below meth c hRR hX hr hxt
  have hR : R.frames = d ∧ R.locals = 64 * d := by rw [hRR]; exact ⟨rfl, rfl⟩
  have hX : zm_X p R s m args meth c RX16 "mayGo" cX16_mayGo 4 zk_E V 0 0 := hX
  unfold zf_X16_mayGo at h
  refine zw_sub (lv' := [(0, .ref a0), (1, .int i1), (2, .int i2), (3, .int i3)]) (List.forall_mem_cons.mpr ⟨rfl, (List.forall_mem_cons.mpr ⟨rfl, (List.forall_mem_cons.mpr ⟨rfl, (List.forall_mem_cons.mpr ⟨rfl, zs_nil⟩)⟩)⟩)⟩) ?_
  refine zw_iload_n hX dX16_mayGo_0 rfl ?_
  refine zw_bipush (v := (-24 : Int32)) hX dX16_mayGo_1 (by decide) ?_
  refine zw_icmp_lt (tgt := 82) hX dX16_mayGo_3 (by decide) (fun c3 => ?_) (fun c3 => ?_)
  · rw [if_pos c3] at h
    refine zw_iconst (v := (0 : Int32)) hX dX16_mayGo_82 (by decide) ?_
    obtain rfl := Option.some.inj h
    exact zw_iret hX hr dX16_mayGo_83 rfl ⟨rfl, rfl⟩
  · rw [if_neg c3] at h
    refine zw_iload_n hX dX16_mayGo_6 rfl ?_
    refine zw_bipush (v := (24 : Int32)) hX dX16_mayGo_7 (by decide) ?_
    refine zw_icmp_gt (tgt := 82) hX dX16_mayGo_9 (by decide) (fun c9 => ?_) (fun c9 => ?_)
    · rw [if_pos c9] at h
      refine zw_iconst (v := (0 : Int32)) hX dX16_mayGo_82 (by decide) ?_
      obtain rfl := Option.some.inj h
      exact zw_iret hX hr dX16_mayGo_83 rfl ⟨rfl, rfl⟩
    · rw [if_neg c9] at h
      refine zw_iload_n hX dX16_mayGo_12 rfl ?_
      refine zw_bipush (v := (-24 : Int32)) hX dX16_mayGo_13 (by decide) ?_
      refine zw_icmp_lt (tgt := 82) hX dX16_mayGo_15 (by decide) (fun c15 => ?_) (fun c15 => ?_)
      · rw [if_pos c15] at h
        refine zw_iconst (v := (0 : Int32)) hX dX16_mayGo_82 (by decide) ?_
        obtain rfl := Option.some.inj h
        exact zw_iret hX hr dX16_mayGo_83 rfl ⟨rfl, rfl⟩
      · rw [if_neg c15] at h
        refine zw_iload_n hX dX16_mayGo_18 rfl ?_
        refine zw_bipush (v := (24 : Int32)) hX dX16_mayGo_19 (by decide) ?_
        refine zw_icmp_gt (tgt := 82) hX dX16_mayGo_21 (by decide) (fun c21 => ?_) (fun c21 => ?_)
        · rw [if_pos c21] at h
          refine zw_iconst (v := (0 : Int32)) hX dX16_mayGo_82 (by decide) ?_
          obtain rfl := Option.some.inj h
          exact zw_iret hX hr dX16_mayGo_83 rfl ⟨rfl, rfl⟩
        · rw [if_neg c21] at h
          refine zw_aload_n hX dX16_mayGo_24 rfl ?_
          obtain ⟨b1, g, h⟩ := zb_some h
          refine zw_getr hX zl_X16_7 dX16_mayGo_25 g ?_
          refine zw_iload_n hX dX16_mayGo_28 rfl ?_
          obtain ⟨v2, g, h⟩ := zb_some h
          refine zw_xi hX dX16_mayGo_29 g ?_
          refine zw_iload_n hX dX16_mayGo_30 rfl ?_
          refine zw_iadd hX dX16_mayGo_31 ?_
          obtain ⟨r4, g, h⟩ := zb_some h
          refine zc_Si (as := [.int (v2 + i2)]) hX (zt_X16_isIn (d := d - 1) (by omega) g) zl_X16_112 dX16_mayGo_32 ⟨rfl, rfl, Nat.le_of_ble_eq_true rfl⟩ ⟨by omega, by omega⟩ ?_
          refine zw_if_eq (tgt := 82) hX dX16_mayGo_35 (by decide) (fun c35 => ?_) (fun c35 => ?_)
          · rw [if_pos c35] at h
            refine zw_iconst (v := (0 : Int32)) hX dX16_mayGo_82 (by decide) ?_
            obtain rfl := Option.some.inj h
            exact zw_iret hX hr dX16_mayGo_83 rfl ⟨rfl, rfl⟩
          · rw [if_neg c35] at h
            refine zw_aload_n hX dX16_mayGo_38 rfl ?_
            obtain ⟨b5, g, h⟩ := zb_some h
            refine zw_getr hX zl_X16_13 dX16_mayGo_39 g ?_
            refine zw_iload_n hX dX16_mayGo_42 rfl ?_
            obtain ⟨v6, g, h⟩ := zb_some h
            refine zw_xi hX dX16_mayGo_43 g ?_
            refine zw_iload_n hX dX16_mayGo_44 rfl ?_
            refine zw_iadd hX dX16_mayGo_45 ?_
            obtain ⟨r8, g, h⟩ := zb_some h
            refine zc_Si (as := [.int (v6 + i3)]) hX (zt_X16_isIn (d := d - 1) (by omega) g) zl_X16_112 dX16_mayGo_46 ⟨rfl, rfl, Nat.le_of_ble_eq_true rfl⟩ ⟨by omega, by omega⟩ ?_
            refine zw_if_eq (tgt := 82) hX dX16_mayGo_49 (by decide) (fun c49 => ?_) (fun c49 => ?_)
            · rw [if_pos c49] at h
              refine zw_iconst (v := (0 : Int32)) hX dX16_mayGo_82 (by decide) ?_
              obtain rfl := Option.some.inj h
              exact zw_iret hX hr dX16_mayGo_83 rfl ⟨rfl, rfl⟩
            · rw [if_neg c49] at h
              refine zw_aload_n hX dX16_mayGo_52 rfl ?_
              refine zw_iload_n hX dX16_mayGo_53 rfl ?_
              obtain ⟨_, gi, h⟩ := zb_some h
              obtain ⟨r10, g, h⟩ := zb_some h
              refine zc_Vi (as := [.int i1]) hX gi (zt_X16_highX (d := d - 1) (by omega) g) zl_X16_89 rfl dX16_mayGo_54 ⟨rfl, rfl, Nat.le_of_ble_eq_true rfl⟩ ⟨by omega, by omega⟩ ?_
              refine zw_iload_n hX dX16_mayGo_57 rfl ?_
              refine zw_iadd hX dX16_mayGo_58 ?_
              obtain ⟨r12, g, h⟩ := zb_some h
              refine zc_Si (as := [.int (r10.1 + i2)]) hX (zt_X16_isIn (d := d - 1) (by omega) g) zl_X16_112 dX16_mayGo_59 ⟨rfl, rfl, Nat.le_of_ble_eq_true rfl⟩ ⟨by omega, by omega⟩ ?_
              refine zw_if_eq (tgt := 82) hX dX16_mayGo_62 (by decide) (fun c62 => ?_) (fun c62 => ?_)
              · rw [if_pos c62] at h
                refine zw_iconst (v := (0 : Int32)) hX dX16_mayGo_82 (by decide) ?_
                obtain rfl := Option.some.inj h
                exact zw_iret hX hr dX16_mayGo_83 rfl ⟨rfl, rfl⟩
              · rw [if_neg c62] at h
                refine zw_aload_n hX dX16_mayGo_65 rfl ?_
                refine zw_iload_n hX dX16_mayGo_66 rfl ?_
                obtain ⟨_, gi, h⟩ := zb_some h
                obtain ⟨r14, g, h⟩ := zb_some h
                refine zc_Vi (as := [.int i1]) hX gi (zt_X16_highY (d := d - 1) (by omega) g) zl_X16_93 rfl dX16_mayGo_67 ⟨rfl, rfl, Nat.le_of_ble_eq_true rfl⟩ ⟨by omega, by omega⟩ ?_
                refine zw_iload_n hX dX16_mayGo_70 rfl ?_
                refine zw_iadd hX dX16_mayGo_71 ?_
                obtain ⟨r16, g, h⟩ := zb_some h
                refine zc_Si (as := [.int (r14.1 + i3)]) hX (zt_X16_isIn (d := d - 1) (by omega) g) zl_X16_112 dX16_mayGo_72 ⟨rfl, rfl, Nat.le_of_ble_eq_true rfl⟩ ⟨by omega, by omega⟩ ?_
                refine zw_if_eq (tgt := 82) hX dX16_mayGo_75 (by decide) (fun c75 => ?_) (fun c75 => ?_)
                · rw [if_pos c75] at h
                  refine zw_iconst (v := (0 : Int32)) hX dX16_mayGo_82 (by decide) ?_
                  obtain rfl := Option.some.inj h
                  exact zw_iret hX hr dX16_mayGo_83 rfl ⟨rfl, rfl⟩
                · rw [if_neg c75] at h
                  refine zw_iconst (v := (1 : Int32)) hX dX16_mayGo_78 (by decide) ?_
                  refine zw_goto (tgt := 83) hX dX16_mayGo_79 (by decide) ?_
                  obtain rfl := Option.some.inj h
                  exact zw_iret hX hr dX16_mayGo_83 rfl ⟨rfl, rfl⟩
set_option maxHeartbeats 4000000 in
set_option maxRecDepth 100000 in
theorem zt_X16_move_J82 {p : Program} {l : Launch} {e : Env} {R : Room} {s : State} {m : MethodId} {args : Array Value} {below : List Frame} {meth : Method} {c : Code} {V : zm_V} {mc ms d rc rs : Nat} (hX : zm_X p R s m args meth c RX16 "move" cX16_move 5 zk_E V mc ms) (hr : meth.sig.returnType = (some .boolean)) (hR : R.frames = d ∧ R.locals = 64 * d) (hd : 4 ≤ d) {N : Nat} {i4 : Int32} {t0 : Nat} {out : (Int32 × zm_S)} {S : zm_S} (h : zf_X16_move_J82 N i4 t0 S = some out) : zw p l e R s m args below meth c (vx_MQ below (zm_Qc zk_E V (zo_i out)) (zm_XC zk_E V zo_x) args s mc ms (fun q => V.2.2.2.1 ≤ q)) 5 zk_E V mc ms 82 [(4, .int i4)] [.ref t0] S rc rs := by
  unfold zf_X16_move_J82 at h
  refine zw_iconst (v := (0 : Int32)) hX dX16_move_82 (by decide) ?_
  obtain ⟨S16, g, h⟩ := zb_some h
  refine zw_putv hX zl_X16_108 zt_16_10 dX16_move_83 rfl (by decide) g ?_
  refine zw_iload hX dX16_move_86 rfl ?_
  by_cases cz : i4 = 0 ∨ i4 = 1
  · rw [if_pos cz] at h
    obtain rfl := Option.some.inj h
    exact zw_iret hX hr dX16_move_88 (zn_z cz) ⟨rfl, rfl⟩
  · rw [if_neg cz] at h
    cases h
set_option maxHeartbeats 4000000 in
set_option maxRecDepth 100000 in
theorem zt_X16_move_J63 {p : Program} {l : Launch} {e : Env} {R : Room} {s : State} {m : MethodId} {args : Array Value} {below : List Frame} {meth : Method} {c : Code} {V : zm_V} {mc ms d rc rs : Nat} (hX : zm_X p R s m args meth c RX16 "move" cX16_move 5 zk_E V mc ms) (hr : meth.sig.returnType = (some .boolean)) (hR : R.frames = d ∧ R.locals = 64 * d) (hd : 4 ≤ d) {N : Nat} {a0 : Nat} {i4 : Int32} {t0 : Nat} {t1 : Int32} {t2 : Int32} {t3 : Int32} {out : (Int32 × zm_S)} {S : zm_S} (h : zf_X16_move_J63 N a0 i4 t0 t1 t2 t3 S = some out) : zw p l e R s m args below meth c (vx_MQ below (zm_Qc zk_E V (zo_i out)) (zm_XC zk_E V zo_x) args s mc ms (fun q => V.2.2.2.1 ≤ q)) 5 zk_E V mc ms 63 [(0, .ref a0), (4, .int i4)] [.int t3, .int t2, .int t1, .ref t0] S rc rs := by
  unfold zf_X16_move_J63 at h
  refine zw_isub hX dX16_move_63 ?_
  obtain ⟨S14, g, h⟩ := zb_some h
  refine zw_si hX dX16_move_64 g ?_
  refine zw_aload_n hX dX16_move_65 rfl ?_
  refine zw_aload_n hX dX16_move_66 rfl ?_
  obtain ⟨v15, g, h⟩ := zb_some h
  refine zw_geti hX zl_X16_108 dX16_move_67 g ?_
  refine zw_if_eq (tgt := 82) hX dX16_move_70 (by decide) (fun c70 => ?_) (fun c70 => ?_)
  · rw [if_pos c70] at h
    refine zw_sub (lv' := [(4, .int i4)]) (List.forall_mem_cons.mpr ⟨rfl, zs_nil⟩) ?_
    exact zt_X16_move_J82 hX hr hR hd h
  · rw [if_neg c70] at h
    refine zw_iload hX dX16_move_73 rfl ?_
    refine zw_if_ne (tgt := 82) hX dX16_move_75 (by decide) (fun c75 => ?_) (fun c75 => ?_)
    · rw [if_neg c75] at h
      refine zw_sub (lv' := [(4, .int i4)]) (List.forall_mem_cons.mpr ⟨rfl, zs_nil⟩) ?_
      exact zt_X16_move_J82 hX hr hR hd h
    · rw [if_pos c75] at h
      refine zw_iconst (v := (1 : Int32)) hX dX16_move_78 (by decide) ?_
      refine zw_goto (tgt := 83) hX dX16_move_79 (by decide) ?_
      obtain ⟨S17, g, h⟩ := zb_some h
      refine zw_putv hX zl_X16_108 zt_16_10 dX16_move_83 rfl (by decide) g ?_
      refine zw_iload hX dX16_move_86 rfl ?_
      by_cases cz : i4 = 0 ∨ i4 = 1
      · rw [if_pos cz] at h
        obtain rfl := Option.some.inj h
        exact zw_iret hX hr dX16_move_88 (zn_z cz) ⟨rfl, rfl⟩
      · rw [if_neg cz] at h
        cases h
set_option maxHeartbeats 4000000 in
set_option maxRecDepth 100000 in
theorem zt_X16_move_J44 {p : Program} {l : Launch} {e : Env} {R : Room} {s : State} {m : MethodId} {args : Array Value} {below : List Frame} {meth : Method} {c : Code} {V : zm_V} {mc ms d rc rs : Nat} (hX : zm_X p R s m args meth c RX16 "move" cX16_move 5 zk_E V mc ms) (hr : meth.sig.returnType = (some .boolean)) (hR : R.frames = d ∧ R.locals = 64 * d) (hd : 4 ≤ d) {N : Nat} {a0 : Nat} {i1 : Int32} {i3 : Int32} {i4 : Int32} {t0 : Nat} {t1 : Int32} {t2 : Int32} {t3 : Int32} {out : (Int32 × zm_S)} {S : zm_S} (h : zf_X16_move_J44 N a0 i1 i3 i4 t0 t1 t2 t3 S = some out) : zw p l e R s m args below meth c (vx_MQ below (zm_Qc zk_E V (zo_i out)) (zm_XC zk_E V zo_x) args s mc ms (fun q => V.2.2.2.1 ≤ q)) 5 zk_E V mc ms 44 [(0, .ref a0), (1, .int i1), (3, .int i3), (4, .int i4)] [.int t3, .int t2, .int t1, .ref t0] S rc rs := by
  unfold zf_X16_move_J44 at h
  refine zw_isub hX dX16_move_44 ?_
  obtain ⟨S11, g, h⟩ := zb_some h
  refine zw_si hX dX16_move_45 g ?_
  refine zw_aload_n hX dX16_move_46 rfl ?_
  obtain ⟨b12, g, h⟩ := zb_some h
  refine zw_getr hX zl_X16_13 dX16_move_47 g ?_
  refine zw_iload_n hX dX16_move_50 rfl ?_
  refine zw_dup2 hX dX16_move_51 rfl rfl ?_
  obtain ⟨v13, g, h⟩ := zb_some h
  refine zw_xi hX dX16_move_52 g ?_
  refine zw_iload hX dX16_move_53 rfl ?_
  refine zw_if_eq (tgt := 62) hX dX16_move_55 (by decide) (fun c55 => ?_) (fun c55 => ?_)
  · rw [if_pos c55] at h
    refine zw_iload_n hX dX16_move_62 rfl ?_
    refine zw_sub (lv' := [(0, .ref a0), (4, .int i4)]) (List.forall_mem_cons.mpr ⟨rfl, (List.forall_mem_cons.mpr ⟨rfl, zs_nil⟩)⟩) ?_
    exact zt_X16_move_J63 hX hr hR hd h
  · rw [if_neg c55] at h
    refine zw_iconst (v := (0 : Int32)) hX dX16_move_58 (by decide) ?_
    refine zw_goto (tgt := 63) hX dX16_move_59 (by decide) ?_
    refine zw_sub (lv' := [(0, .ref a0), (4, .int i4)]) (List.forall_mem_cons.mpr ⟨rfl, (List.forall_mem_cons.mpr ⟨rfl, zs_nil⟩)⟩) ?_
    exact zt_X16_move_J63 hX hr hR hd h
set_option maxHeartbeats 4000000 in
set_option maxRecDepth 100000 in
theorem zt_X16_move {l : Launch} {V : zm_V} {N : Nat} {S : zm_S} {out : (Int32 × zm_S)} {d : Nat} {a0 : Nat} {i1 : Int32} {i2 : Int32} {i3 : Int32} (hd : 4 ≤ d) (h : zf_X16_move N a0 i1 i2 i3 S = some out) : zm_Met l zk_E V yX16_move (.code yX16_move cX16_move 5 (some .boolean)) d [.ref a0, .int i1, .int i2, .int i3] S 0 0 (zo_i out) zo_x := by
  refine zm_of (by decide +kernel) (Nat.le_of_ble_eq_true rfl) ?_
  intro p e R s m args below meth c hRR hX hr hxt
  have hR : R.frames = d ∧ R.locals = 64 * d := by rw [hRR]; exact ⟨rfl, rfl⟩
  have hX : zm_X p R s m args meth c RX16 "move" cX16_move 5 zk_E V 0 0 := hX
  unfold zf_X16_move at h
  refine zw_sub (lv' := [(0, .ref a0), (1, .int i1), (2, .int i2), (3, .int i3)]) (List.forall_mem_cons.mpr ⟨rfl, (List.forall_mem_cons.mpr ⟨rfl, (List.forall_mem_cons.mpr ⟨rfl, (List.forall_mem_cons.mpr ⟨rfl, zs_nil⟩)⟩)⟩)⟩) ?_
  refine zw_aload_n hX dX16_move_0 rfl ?_
  obtain ⟨b1, g, h⟩ := zb_some h
  refine zw_getr hX zl_X16_7 dX16_move_1 g ?_
  refine zw_iload_n hX dX16_move_4 rfl ?_
  refine zw_dup2 hX dX16_move_5 rfl rfl ?_
  obtain ⟨v2, g, h⟩ := zb_some h
  refine zw_xi hX dX16_move_6 g ?_
  refine zw_iload_n hX dX16_move_7 rfl ?_
  refine zw_iadd hX dX16_move_8 ?_
  obtain ⟨S3, g, h⟩ := zb_some h
  refine zw_si hX dX16_move_9 g ?_
  refine zw_aload_n hX dX16_move_10 rfl ?_
  obtain ⟨b4, g, h⟩ := zb_some h
  refine zw_getr hX zl_X16_13 dX16_move_11 g ?_
  refine zw_iload_n hX dX16_move_14 rfl ?_
  refine zw_dup2 hX dX16_move_15 rfl rfl ?_
  obtain ⟨v5, g, h⟩ := zb_some h
  refine zw_xi hX dX16_move_16 g ?_
  refine zw_iload_n hX dX16_move_17 rfl ?_
  refine zw_iadd hX dX16_move_18 ?_
  obtain ⟨S6, g, h⟩ := zb_some h
  refine zw_si hX dX16_move_19 g ?_
  refine zw_aload_n hX dX16_move_20 rfl ?_
  refine zw_iload_n hX dX16_move_21 rfl ?_
  obtain ⟨_, gi, h⟩ := zb_some h
  obtain ⟨r8, g, h⟩ := zb_some h
  refine zc_Vi (as := [.int i1]) hX gi (zt_X16_isAlone (d := d - 1) (by omega) g) zl_X16_104 rfl dX16_move_22 ⟨rfl, rfl, Nat.le_of_ble_eq_true rfl⟩ ⟨by omega, by omega⟩ ?_
  refine zw_istore hX dX16_move_25 (by decide) ?_
  refine zw_aload_n hX dX16_move_27 rfl ?_
  obtain ⟨b9, g, h⟩ := zb_some h
  refine zw_getr hX zl_X16_7 dX16_move_28 g ?_
  refine zw_iload_n hX dX16_move_31 rfl ?_
  refine zw_dup2 hX dX16_move_32 rfl rfl ?_
  obtain ⟨v10, g, h⟩ := zb_some h
  refine zw_xi hX dX16_move_33 g ?_
  refine zw_iload hX dX16_move_34 rfl ?_
  refine zw_if_eq (tgt := 43) hX dX16_move_36 (by decide) (fun c36 => ?_) (fun c36 => ?_)
  · rw [if_pos c36] at h
    refine zw_iload_n hX dX16_move_43 rfl ?_
    refine zw_sub (lv' := [(0, .ref a0), (1, .int i1), (3, .int i3), (4, .int r8.1)]) (List.forall_mem_cons.mpr ⟨rfl, (List.forall_mem_cons.mpr ⟨rfl, (List.forall_mem_cons.mpr ⟨rfl, (List.forall_mem_cons.mpr ⟨rfl, zs_nil⟩)⟩)⟩)⟩) ?_
    exact zt_X16_move_J44 hX hr hR hd h
  · rw [if_neg c36] at h
    refine zw_iconst (v := (0 : Int32)) hX dX16_move_39 (by decide) ?_
    refine zw_goto (tgt := 44) hX dX16_move_40 (by decide) ?_
    refine zw_sub (lv' := [(0, .ref a0), (1, .int i1), (3, .int i3), (4, .int r8.1)]) (List.forall_mem_cons.mpr ⟨rfl, (List.forall_mem_cons.mpr ⟨rfl, (List.forall_mem_cons.mpr ⟨rfl, (List.forall_mem_cons.mpr ⟨rfl, zs_nil⟩)⟩)⟩)⟩) ?_
    exact zt_X16_move_J44 hX hr hR hd h
set_option maxHeartbeats 4000000 in
set_option maxRecDepth 100000 in
theorem zt_X16_door {l : Launch} {V : zm_V} {N : Nat} {S : zm_S} {out : (Int32 × zm_S)} {d : Nat} {a0 : Nat} {i1 : Int32} {i2 : Int32} {i3 : Int32} {i4 : Int32} (hd : 1 ≤ d) (h : zf_X16_door N a0 i1 i2 i3 i4 S = some out) : zm_Met l zk_E V yX16_door (.code yX16_door cX16_door 5 (some .int)) d [.ref a0, .int i1, .int i2, .int i3, .int i4] S 0 0 (zo_i out) zo_x := by
  refine zm_of (by decide +kernel) (Nat.le_of_ble_eq_true rfl) ?_
  intro p e R s m args below meth c hRR hX hr hxt
  have hR : R.frames = d ∧ R.locals = 64 * d := by rw [hRR]; exact ⟨rfl, rfl⟩
  have hX : zm_X p R s m args meth c RX16 "door" cX16_door 5 zk_E V 0 0 := hX
  unfold zf_X16_door at h
  refine zw_sub (lv' := [(0, .ref a0), (1, .int i1), (2, .int i2), (3, .int i3), (4, .int i4)]) (List.forall_mem_cons.mpr ⟨rfl, (List.forall_mem_cons.mpr ⟨rfl, (List.forall_mem_cons.mpr ⟨rfl, (List.forall_mem_cons.mpr ⟨rfl, (List.forall_mem_cons.mpr ⟨rfl, zs_nil⟩)⟩)⟩)⟩)⟩) ?_
  refine zw_aload_n hX dX16_door_0 rfl ?_
  obtain ⟨b1, g, h⟩ := zb_some h
  refine zw_getr hX zl_X16_26 dX16_door_1 g ?_
  refine zw_bipush (v := (6 : Int32)) hX dX16_door_4 (by decide) ?_
  refine zw_iload_n hX dX16_door_6 rfl ?_
  refine zw_imul hX dX16_door_7 ?_
  refine zw_aload_n hX dX16_door_8 rfl ?_
  obtain ⟨b2, g, h⟩ := zb_some h
  refine zw_getr hX zl_X16_23 dX16_door_9 g ?_
  refine zw_iload_n hX dX16_door_12 rfl ?_
  obtain ⟨v3, g, h⟩ := zb_some h
  refine zw_xi hX dX16_door_13 g ?_
  refine zw_iadd hX dX16_door_14 ?_
  refine zw_iload_n hX dX16_door_15 rfl ?_
  obtain ⟨S4, g, h⟩ := zb_some h
  refine zw_si hX dX16_door_16 g ?_
  refine zw_aload_n hX dX16_door_17 rfl ?_
  obtain ⟨b5, g, h⟩ := zb_some h
  refine zw_getr hX zl_X16_29 dX16_door_18 g ?_
  refine zw_bipush (v := (6 : Int32)) hX dX16_door_21 (by decide) ?_
  refine zw_iload_n hX dX16_door_23 rfl ?_
  refine zw_imul hX dX16_door_24 ?_
  refine zw_aload_n hX dX16_door_25 rfl ?_
  obtain ⟨b6, g, h⟩ := zb_some h
  refine zw_getr hX zl_X16_23 dX16_door_26 g ?_
  refine zw_iload_n hX dX16_door_29 rfl ?_
  obtain ⟨v7, g, h⟩ := zb_some h
  refine zw_xi hX dX16_door_30 g ?_
  refine zw_iadd hX dX16_door_31 ?_
  refine zw_iload_n hX dX16_door_32 rfl ?_
  obtain ⟨S8, g, h⟩ := zb_some h
  refine zw_si hX dX16_door_33 g ?_
  refine zw_aload_n hX dX16_door_34 rfl ?_
  obtain ⟨b9, g, h⟩ := zb_some h
  refine zw_getr hX zl_X16_32 dX16_door_35 g ?_
  refine zw_bipush (v := (6 : Int32)) hX dX16_door_38 (by decide) ?_
  refine zw_iload_n hX dX16_door_40 rfl ?_
  refine zw_imul hX dX16_door_41 ?_
  refine zw_aload_n hX dX16_door_42 rfl ?_
  obtain ⟨b10, g, h⟩ := zb_some h
  refine zw_getr hX zl_X16_23 dX16_door_43 g ?_
  refine zw_iload_n hX dX16_door_46 rfl ?_
  obtain ⟨v11, g, h⟩ := zb_some h
  refine zw_xi hX dX16_door_47 g ?_
  refine zw_iadd hX dX16_door_48 ?_
  refine zw_iload hX dX16_door_49 rfl ?_
  obtain ⟨S12, g, h⟩ := zb_some h
  refine zw_si hX dX16_door_51 g ?_
  refine zw_aload_n hX dX16_door_52 rfl ?_
  obtain ⟨b13, g, h⟩ := zb_some h
  refine zw_getr hX zl_X16_23 dX16_door_53 g ?_
  refine zw_iload_n hX dX16_door_56 rfl ?_
  refine zw_dup2 hX dX16_door_57 rfl rfl ?_
  obtain ⟨v14, g, h⟩ := zb_some h
  refine zw_xi hX dX16_door_58 g ?_
  refine zw_iconst (v := (1 : Int32)) hX dX16_door_59 (by decide) ?_
  refine zw_iadd hX dX16_door_60 ?_
  obtain ⟨S15, g, h⟩ := zb_some h
  refine zw_si hX dX16_door_61 g ?_
  refine zw_aload_n hX dX16_door_62 rfl ?_
  obtain ⟨b16, g, h⟩ := zb_some h
  refine zw_getr hX zl_X16_23 dX16_door_63 g ?_
  refine zw_iload_n hX dX16_door_66 rfl ?_
  obtain ⟨v17, g, h⟩ := zb_some h
  refine zw_xi hX dX16_door_67 g ?_
  obtain rfl := Option.some.inj h
  exact zw_iret hX hr dX16_door_68 rfl ⟨rfl, rfl⟩
set_option maxHeartbeats 4000000 in
set_option maxRecDepth 100000 in
theorem zt_X16_insert_L2 {p : Program} {l : Launch} {e : Env} {R : Room} {s : State} {m : MethodId} {args : Array Value} {below : List Frame} {meth : Method} {c : Code} {V : zm_V} {mc ms d rc rs : Nat} (hX : zm_X p R s m args meth c RX16 "insert" cX16_insert 5 zk_E V mc ms) (hr : meth.sig.returnType = (some .int)) (hR : R.frames = d ∧ R.locals = 64 * d) (hd : 1 ≤ d) {N : Nat} {res : (Int32 × zm_S) ⊕ ((Int32) × zm_S)} {out : (Int32 × zm_S)} (a0 : Nat) (i1 : Int32) (i2 : Int32) (hf : ∀ o, res = .inl o → o = out) (hk : ∀ (x3 : Int32) (S' : zm_S), res = .inr (x3, S') → zw p l e R s m args below meth c (vx_MQ below (zm_Qc zk_E V (zo_i out)) (zm_XC zk_E V zo_x) args s mc ms (fun q => V.2.2.2.1 ≤ q)) 5 zk_E V mc ms 20 [(0, .ref a0), (1, .int i1), (2, .int i2), (3, .int x3)] [] S' rc rs) : ∀ (n : Nat) (i3 : Int32) (S : zm_S), zf_X16_insert_L2 N n a0 i1 i2 i3 S = some res → zw p l e R s m args below meth c (vx_MQ below (zm_Qc zk_E V (zo_i out)) (zm_XC zk_E V zo_x) args s mc ms (fun q => V.2.2.2.1 ≤ q)) 5 zk_E V mc ms 2 [(0, .ref a0), (1, .int i1), (2, .int i2), (3, .int i3)] [] S rc rs := by
  intro n
  induction n with
  | zero => intro i3 S h; cases h
  | succ n ih =>
    intro i3 S h
    rw [zf_X16_insert_L2] at h
    refine zw_iload_n hX dX16_insert_2 rfl ?_
    refine zw_iload_n hX dX16_insert_3 rfl ?_
    refine zw_icmp_ge (tgt := 20) hX dX16_insert_4 (by decide) (fun c4 => ?_) (fun c4 => ?_)
    · rw [if_pos c4] at h
      refine zw_sub (lv' := [(0, .ref a0), (1, .int i1), (2, .int i2), (3, .int i3)]) (List.forall_mem_cons.mpr ⟨rfl, (List.forall_mem_cons.mpr ⟨rfl, (List.forall_mem_cons.mpr ⟨rfl, (List.forall_mem_cons.mpr ⟨rfl, zs_nil⟩)⟩)⟩)⟩) ?_
      exact hk _ _ (Option.some.inj h).symm
    · rw [if_neg c4] at h
      refine zw_aload_n hX dX16_insert_7 rfl ?_
      refine zw_iload_n hX dX16_insert_8 rfl ?_
      obtain ⟨v1, g, h⟩ := zb_some h
      refine zw_xi hX dX16_insert_9 g ?_
      refine zw_iload_n hX dX16_insert_10 rfl ?_
      refine zw_icmp_ge (tgt := 20) hX dX16_insert_11 (by decide) (fun c11 => ?_) (fun c11 => ?_)
      · rw [if_pos c11] at h
        refine zw_sub (lv' := [(0, .ref a0), (1, .int i1), (2, .int i2), (3, .int i3)]) (List.forall_mem_cons.mpr ⟨rfl, (List.forall_mem_cons.mpr ⟨rfl, (List.forall_mem_cons.mpr ⟨rfl, (List.forall_mem_cons.mpr ⟨rfl, zs_nil⟩)⟩)⟩)⟩) ?_
        exact hk _ _ (Option.some.inj h).symm
      · rw [if_neg c11] at h
        refine zw_iinc (v := (i3 + (1 : Int32))) hX dX16_insert_14 rfl rfl (by decide) ?_
        refine zw_goto (tgt := 2) hX dX16_insert_17 (by decide) ?_
        refine zw_sub (lv' := [(0, .ref a0), (1, .int i1), (2, .int i2), (3, .int (i3 + (1 : Int32)))]) (List.forall_mem_cons.mpr ⟨rfl, (List.forall_mem_cons.mpr ⟨rfl, (List.forall_mem_cons.mpr ⟨rfl, (List.forall_mem_cons.mpr ⟨rfl, zs_nil⟩)⟩)⟩)⟩) ?_
        exact ih _ _ h
set_option maxHeartbeats 4000000 in
set_option maxRecDepth 100000 in
theorem zt_X16_insert_L37 {p : Program} {l : Launch} {e : Env} {R : Room} {s : State} {m : MethodId} {args : Array Value} {below : List Frame} {meth : Method} {c : Code} {V : zm_V} {mc ms d rc rs : Nat} (hX : zm_X p R s m args meth c RX16 "insert" cX16_insert 5 zk_E V mc ms) (hr : meth.sig.returnType = (some .int)) (hR : R.frames = d ∧ R.locals = 64 * d) (hd : 1 ≤ d) {N : Nat} {res : (Int32 × zm_S) ⊕ ((Unit) × zm_S)} {out : (Int32 × zm_S)} (a0 : Nat) (i1 : Int32) (i2 : Int32) (i3 : Int32) (hf : ∀ o, res = .inl o → o = out) (hk : ∀ (S' : zm_S), res = .inr ((), S') → zw p l e R s m args below meth c (vx_MQ below (zm_Qc zk_E V (zo_i out)) (zm_XC zk_E V zo_x) args s mc ms (fun q => V.2.2.2.1 ≤ q)) 5 zk_E V mc ms 59 [(0, .ref a0), (1, .int i1), (2, .int i2), (3, .int i3)] [] S' rc rs) : ∀ (n : Nat) (i4 : Int32) (S : zm_S), zf_X16_insert_L37 N n a0 i1 i2 i3 i4 S = some res → zw p l e R s m args below meth c (vx_MQ below (zm_Qc zk_E V (zo_i out)) (zm_XC zk_E V zo_x) args s mc ms (fun q => V.2.2.2.1 ≤ q)) 5 zk_E V mc ms 37 [(0, .ref a0), (1, .int i1), (2, .int i2), (3, .int i3), (4, .int i4)] [] S rc rs := by
  intro n
  induction n with
  | zero => intro i4 S h; cases h
  | succ n ih =>
    intro i4 S h
    rw [zf_X16_insert_L37] at h
    refine zw_iload hX dX16_insert_37 rfl ?_
    refine zw_iload_n hX dX16_insert_39 rfl ?_
    refine zw_icmp_le (tgt := 59) hX dX16_insert_40 (by decide) (fun c40 => ?_) (fun c40 => ?_)
    · rw [if_pos c40] at h
      refine zw_sub (lv' := [(0, .ref a0), (1, .int i1), (2, .int i2), (3, .int i3)]) (List.forall_mem_cons.mpr ⟨rfl, (List.forall_mem_cons.mpr ⟨rfl, (List.forall_mem_cons.mpr ⟨rfl, (List.forall_mem_cons.mpr ⟨rfl, zs_nil⟩)⟩)⟩)⟩) ?_
      exact hk  _ (Option.some.inj h).symm
    · rw [if_neg c40] at h
      refine zw_aload_n hX dX16_insert_43 rfl ?_
      refine zw_iload hX dX16_insert_44 rfl ?_
      refine zw_aload_n hX dX16_insert_46 rfl ?_
      refine zw_iload hX dX16_insert_47 rfl ?_
      refine zw_iconst (v := (1 : Int32)) hX dX16_insert_49 (by decide) ?_
      refine zw_isub hX dX16_insert_50 ?_
      obtain ⟨v4, g, h⟩ := zb_some h
      refine zw_xi hX dX16_insert_51 g ?_
      obtain ⟨S5, g, h⟩ := zb_some h
      refine zw_si hX dX16_insert_52 g ?_
      refine zw_iinc (v := (i4 + (-1 : Int32))) hX dX16_insert_53 rfl rfl (by decide) ?_
      refine zw_goto (tgt := 37) hX dX16_insert_56 (by decide) ?_
      refine zw_sub (lv' := [(0, .ref a0), (1, .int i1), (2, .int i2), (3, .int i3), (4, .int (i4 + (-1 : Int32)))]) (List.forall_mem_cons.mpr ⟨rfl, (List.forall_mem_cons.mpr ⟨rfl, (List.forall_mem_cons.mpr ⟨rfl, (List.forall_mem_cons.mpr ⟨rfl, (List.forall_mem_cons.mpr ⟨rfl, zs_nil⟩)⟩)⟩)⟩)⟩) ?_
      exact ih _ _ h
set_option maxHeartbeats 4000000 in
set_option maxRecDepth 100000 in
theorem zt_X16_insert_J34 {p : Program} {l : Launch} {e : Env} {R : Room} {s : State} {m : MethodId} {args : Array Value} {below : List Frame} {meth : Method} {c : Code} {V : zm_V} {mc ms d rc rs : Nat} (hX : zm_X p R s m args meth c RX16 "insert" cX16_insert 5 zk_E V mc ms) (hr : meth.sig.returnType = (some .int)) (hR : R.frames = d ∧ R.locals = 64 * d) (hd : 1 ≤ d) {N : Nat} {a0 : Nat} {i1 : Int32} {i2 : Int32} {i3 : Int32} {out : (Int32 × zm_S)} {S : zm_S} (h : zf_X16_insert_J34 N a0 i1 i2 i3 S = some out) : zw p l e R s m args below meth c (vx_MQ below (zm_Qc zk_E V (zo_i out)) (zm_XC zk_E V zo_x) args s mc ms (fun q => V.2.2.2.1 ≤ q)) 5 zk_E V mc ms 34 [(0, .ref a0), (1, .int i1), (2, .int i2), (3, .int i3)] [] S rc rs := by
  unfold zf_X16_insert_J34 at h
  refine zw_iload_n hX dX16_insert_34 rfl ?_
  refine zw_istore hX dX16_insert_35 (by decide) ?_
  obtain ⟨r, g, h⟩ := zb_some h
  refine zw_sub (lv' := [(0, .ref a0), (1, .int i1), (2, .int i2), (3, .int i3), (4, .int i1)]) (List.forall_mem_cons.mpr ⟨rfl, (List.forall_mem_cons.mpr ⟨rfl, (List.forall_mem_cons.mpr ⟨rfl, (List.forall_mem_cons.mpr ⟨rfl, (List.forall_mem_cons.mpr ⟨rfl, zs_nil⟩)⟩)⟩)⟩)⟩) ?_
  refine zt_X16_insert_L37 hX hr hR hd (res := r) (out := out) a0 i1 i2 i3 ?_ ?_ N _ _ g
  · intro o ho
    subst ho
    exact Option.some.inj h
  · intro  S6 hx
    subst hx
    try dsimp only at h
    refine zw_aload_n hX dX16_insert_59 rfl ?_
    refine zw_iload_n hX dX16_insert_60 rfl ?_
    refine zw_iload_n hX dX16_insert_61 rfl ?_
    obtain ⟨S7, g, h⟩ := zb_some h
    refine zw_si hX dX16_insert_62 g ?_
    refine zw_iload_n hX dX16_insert_63 rfl ?_
    refine zw_iconst (v := (1 : Int32)) hX dX16_insert_64 (by decide) ?_
    refine zw_iadd hX dX16_insert_65 ?_
    obtain rfl := Option.some.inj h
    exact zw_iret hX hr dX16_insert_66 rfl ⟨rfl, rfl⟩
set_option maxHeartbeats 4000000 in
set_option maxRecDepth 100000 in
theorem zt_X16_insert_J20 {p : Program} {l : Launch} {e : Env} {R : Room} {s : State} {m : MethodId} {args : Array Value} {below : List Frame} {meth : Method} {c : Code} {V : zm_V} {mc ms d rc rs : Nat} (hX : zm_X p R s m args meth c RX16 "insert" cX16_insert 5 zk_E V mc ms) (hr : meth.sig.returnType = (some .int)) (hR : R.frames = d ∧ R.locals = 64 * d) (hd : 1 ≤ d) {N : Nat} {a0 : Nat} {i1 : Int32} {i2 : Int32} {i3 : Int32} {out : (Int32 × zm_S)} {S : zm_S} (h : zf_X16_insert_J20 N a0 i1 i2 i3 S = some out) : zw p l e R s m args below meth c (vx_MQ below (zm_Qc zk_E V (zo_i out)) (zm_XC zk_E V zo_x) args s mc ms (fun q => V.2.2.2.1 ≤ q)) 5 zk_E V mc ms 20 [(0, .ref a0), (1, .int i1), (2, .int i2), (3, .int i3)] [] S rc rs := by
  unfold zf_X16_insert_J20 at h
  refine zw_iload_n hX dX16_insert_20 rfl ?_
  refine zw_iload_n hX dX16_insert_21 rfl ?_
  refine zw_icmp_ge (tgt := 34) hX dX16_insert_22 (by decide) (fun c22 => ?_) (fun c22 => ?_)
  · rw [if_pos c22] at h
    refine zw_sub (lv' := [(0, .ref a0), (1, .int i1), (2, .int i2), (3, .int i3)]) (List.forall_mem_cons.mpr ⟨rfl, (List.forall_mem_cons.mpr ⟨rfl, (List.forall_mem_cons.mpr ⟨rfl, (List.forall_mem_cons.mpr ⟨rfl, zs_nil⟩)⟩)⟩)⟩) ?_
    exact zt_X16_insert_J34 hX hr hR hd h
  · rw [if_neg c22] at h
    refine zw_aload_n hX dX16_insert_25 rfl ?_
    refine zw_iload_n hX dX16_insert_26 rfl ?_
    obtain ⟨v8, g, h⟩ := zb_some h
    refine zw_xi hX dX16_insert_27 g ?_
    refine zw_iload_n hX dX16_insert_28 rfl ?_
    refine zw_icmp_ne (tgt := 34) hX dX16_insert_29 (by decide) (fun c29 => ?_) (fun c29 => ?_)
    · rw [if_neg c29] at h
      refine zw_sub (lv' := [(0, .ref a0), (1, .int i1), (2, .int i2), (3, .int i3)]) (List.forall_mem_cons.mpr ⟨rfl, (List.forall_mem_cons.mpr ⟨rfl, (List.forall_mem_cons.mpr ⟨rfl, (List.forall_mem_cons.mpr ⟨rfl, zs_nil⟩)⟩)⟩)⟩) ?_
      exact zt_X16_insert_J34 hX hr hR hd h
    · rw [if_pos c29] at h
      refine zw_iload_n hX dX16_insert_32 rfl ?_
      obtain rfl := Option.some.inj h
      exact zw_iret hX hr dX16_insert_33 rfl ⟨rfl, rfl⟩
set_option maxHeartbeats 4000000 in
set_option maxRecDepth 100000 in
theorem zt_X16_insert {l : Launch} {V : zm_V} {N : Nat} {S : zm_S} {out : (Int32 × zm_S)} {d : Nat} {a0 : Nat} {i1 : Int32} {i2 : Int32} (hd : 1 ≤ d) (h : zf_X16_insert N a0 i1 i2 S = some out) : zm_Met l zk_E V yX16_insert (.code yX16_insert cX16_insert 5 (some .int)) d [.ref a0, .int i1, .int i2] S 0 0 (zo_i out) zo_x := by
  refine zm_of (by decide +kernel) (Nat.le_of_ble_eq_true rfl) ?_
  intro p e R s m args below meth c hRR hX hr hxt
  have hR : R.frames = d ∧ R.locals = 64 * d := by rw [hRR]; exact ⟨rfl, rfl⟩
  have hX : zm_X p R s m args meth c RX16 "insert" cX16_insert 5 zk_E V 0 0 := hX
  unfold zf_X16_insert at h
  refine zw_sub (lv' := [(0, .ref a0), (1, .int i1), (2, .int i2)]) (List.forall_mem_cons.mpr ⟨rfl, (List.forall_mem_cons.mpr ⟨rfl, (List.forall_mem_cons.mpr ⟨rfl, zs_nil⟩)⟩)⟩) ?_
  refine zw_iconst (v := (0 : Int32)) hX dX16_insert_0 (by decide) ?_
  refine zw_istore_n hX dX16_insert_1 (by decide) ?_
  obtain ⟨r, g, h⟩ := zb_some h
  refine zw_sub (lv' := [(0, .ref a0), (1, .int i1), (2, .int i2), (3, .int (0 : Int32))]) (List.forall_mem_cons.mpr ⟨rfl, (List.forall_mem_cons.mpr ⟨rfl, (List.forall_mem_cons.mpr ⟨rfl, (List.forall_mem_cons.mpr ⟨rfl, zs_nil⟩)⟩)⟩)⟩) ?_
  refine zt_X16_insert_L2 hX hr hR hd (res := r) (out := out) a0 i1 i2 ?_ ?_ N _ _ g
  · intro o ho
    subst ho
    exact Option.some.inj h
  · intro v3 S2 hx
    subst hx
    try dsimp only at h
    refine zw_sub (lv' := [(0, .ref a0), (1, .int i1), (2, .int i2), (3, .int v3)]) (List.forall_mem_cons.mpr ⟨rfl, (List.forall_mem_cons.mpr ⟨rfl, (List.forall_mem_cons.mpr ⟨rfl, (List.forall_mem_cons.mpr ⟨rfl, zs_nil⟩)⟩)⟩)⟩) ?_
    exact zt_X16_insert_J20 hX hr hR hd h
set_option maxHeartbeats 4000000 in
set_option maxRecDepth 100000 in
theorem zt_X16_indexOf_L2 {p : Program} {l : Launch} {e : Env} {R : Room} {s : State} {m : MethodId} {args : Array Value} {below : List Frame} {meth : Method} {c : Code} {V : zm_V} {mc ms d rc rs : Nat} (hX : zm_X p R s m args meth c RX16 "indexOf" cX16_indexOf 3 zk_E V mc ms) (hr : meth.sig.returnType = (some .int)) (hR : R.frames = d ∧ R.locals = 64 * d) (hd : 1 ≤ d) {N : Nat} {res : (Int32 × zm_S) ⊕ ((Int32) × zm_S)} {out : (Int32 × zm_S)} (a0 : Nat) (i1 : Int32) (hf : ∀ o, res = .inl o → o = out) (hk : ∀ (x2 : Int32) (S' : zm_S), res = .inr (x2, S') → zw p l e R s m args below meth c (vx_MQ below (zm_Qc zk_E V (zo_i out)) (zm_XC zk_E V zo_x) args s mc ms (fun q => V.2.2.2.1 ≤ q)) 3 zk_E V mc ms 15 [(2, .int x2)] [] S' rc rs) : ∀ (n : Nat) (i2 : Int32) (S : zm_S), zf_X16_indexOf_L2 N n a0 i1 i2 S = some res → zw p l e R s m args below meth c (vx_MQ below (zm_Qc zk_E V (zo_i out)) (zm_XC zk_E V zo_x) args s mc ms (fun q => V.2.2.2.1 ≤ q)) 3 zk_E V mc ms 2 [(0, .ref a0), (1, .int i1), (2, .int i2)] [] S rc rs := by
  intro n
  induction n with
  | zero => intro i2 S h; cases h
  | succ n ih =>
    intro i2 S h
    rw [zf_X16_indexOf_L2] at h
    refine zw_aload_n hX dX16_indexOf_2 rfl ?_
    refine zw_iload_n hX dX16_indexOf_3 rfl ?_
    obtain ⟨v1, g, h⟩ := zb_some h
    refine zw_xi hX dX16_indexOf_4 g ?_
    refine zw_iload_n hX dX16_indexOf_5 rfl ?_
    refine zw_icmp_eq (tgt := 15) hX dX16_indexOf_6 (by decide) (fun c6 => ?_) (fun c6 => ?_)
    · rw [if_pos c6] at h
      refine zw_sub (lv' := [(2, .int i2)]) (List.forall_mem_cons.mpr ⟨rfl, zs_nil⟩) ?_
      exact hk _ _ (Option.some.inj h).symm
    · rw [if_neg c6] at h
      refine zw_iinc (v := (i2 + (1 : Int32))) hX dX16_indexOf_9 rfl rfl (by decide) ?_
      refine zw_goto (tgt := 2) hX dX16_indexOf_12 (by decide) ?_
      refine zw_sub (lv' := [(0, .ref a0), (1, .int i1), (2, .int (i2 + (1 : Int32)))]) (List.forall_mem_cons.mpr ⟨rfl, (List.forall_mem_cons.mpr ⟨rfl, (List.forall_mem_cons.mpr ⟨rfl, zs_nil⟩)⟩)⟩) ?_
      exact ih _ _ h
set_option maxHeartbeats 4000000 in
set_option maxRecDepth 100000 in
theorem zt_X16_indexOf {l : Launch} {V : zm_V} {N : Nat} {S : zm_S} {out : (Int32 × zm_S)} {d : Nat} {a0 : Nat} {i1 : Int32} (hd : 1 ≤ d) (h : zf_X16_indexOf N a0 i1 S = some out) : zm_Met l zk_E V yX16_indexOf (.code yX16_indexOf cX16_indexOf 3 (some .int)) d [.ref a0, .int i1] S 0 0 (zo_i out) zo_x := by
  refine zm_of (by decide +kernel) (Nat.le_of_ble_eq_true rfl) ?_
  intro p e R s m args below meth c hRR hX hr hxt
  have hR : R.frames = d ∧ R.locals = 64 * d := by rw [hRR]; exact ⟨rfl, rfl⟩
  have hX : zm_X p R s m args meth c RX16 "indexOf" cX16_indexOf 3 zk_E V 0 0 := hX
  unfold zf_X16_indexOf at h
  refine zw_sub (lv' := [(0, .ref a0), (1, .int i1)]) (List.forall_mem_cons.mpr ⟨rfl, (List.forall_mem_cons.mpr ⟨rfl, zs_nil⟩)⟩) ?_
  refine zw_iconst (v := (0 : Int32)) hX dX16_indexOf_0 (by decide) ?_
  refine zw_istore_n hX dX16_indexOf_1 (by decide) ?_
  obtain ⟨r, g, h⟩ := zb_some h
  refine zw_sub (lv' := [(0, .ref a0), (1, .int i1), (2, .int (0 : Int32))]) (List.forall_mem_cons.mpr ⟨rfl, (List.forall_mem_cons.mpr ⟨rfl, (List.forall_mem_cons.mpr ⟨rfl, zs_nil⟩)⟩)⟩) ?_
  refine zt_X16_indexOf_L2 hX hr hR hd (res := r) (out := out) a0 i1 ?_ ?_ N _ _ g
  · intro o ho
    subst ho
    exact Option.some.inj h
  · intro v3 S2 hx
    subst hx
    try dsimp only at h
    refine zw_iload_n hX dX16_indexOf_15 rfl ?_
    obtain rfl := Option.some.inj h
    exact zw_iret hX hr dX16_indexOf_16 rfl ⟨rfl, rfl⟩
set_option maxHeartbeats 4000000 in
set_option maxRecDepth 100000 in
theorem zt_X16_isShut_J196 {p : Program} {l : Launch} {e : Env} {R : Room} {s : State} {m : MethodId} {args : Array Value} {below : List Frame} {meth : Method} {c : Code} {V : zm_V} {mc ms d rc rs : Nat} (hX : zm_X p R s m args meth c RX16 "isShut" cX16_isShut 9 zk_E V mc ms) (hr : meth.sig.returnType = (some .boolean)) (hR : R.frames = d ∧ R.locals = 64 * d) (hd : 2 ≤ d) {N : Nat} {k : Nat → Int32 → Int32 → Int32 → Int32 → Int32 → zm_S → Option ((Int32 × zm_S) ⊕ ((Int32) × zm_S))} {a0 : Nat} {i1 : Int32} {i2 : Int32} {i3 : Int32} {i5 : Int32} {res : (Int32 × zm_S) ⊕ ((Int32) × zm_S)} {out : (Int32 × zm_S)}   (hf : ∀ o, res = .inl o → o = out) (hk : ∀ (x4 : Int32) (S' : zm_S), res = .inr (x4, S') → zw p l e R s m args below meth c (vx_MQ below (zm_Qc zk_E V (zo_i out)) (zm_XC zk_E V zo_x) args s mc ms (fun q => V.2.2.2.1 ≤ q)) 9 zk_E V mc ms 209 [(4, .int x4)] [] S' rc rs) (hrec : ∀ (i4' : Int32) (i5' : Int32) (S : zm_S), k a0 i1 i2 i3 i4' i5' S = some res → zw p l e R s m args below meth c (vx_MQ below (zm_Qc zk_E V (zo_i out)) (zm_XC zk_E V zo_x) args s mc ms (fun q => V.2.2.2.1 ≤ q)) 9 zk_E V mc ms 6 [(0, .ref a0), (1, .int i1), (2, .int i2), (3, .int i3), (4, .int i4'), (5, .int i5')] [] S rc rs) {S : zm_S} (h : zf_X16_isShut_J196 N k a0 i1 i2 i3 i5 S = some res) : zw p l e R s m args below meth c (vx_MQ below (zm_Qc zk_E V (zo_i out)) (zm_XC zk_E V zo_x) args s mc ms (fun q => V.2.2.2.1 ≤ q)) 9 zk_E V mc ms 196 [(0, .ref a0), (1, .int i1), (2, .int i2), (3, .int i3), (5, .int i5)] [] S rc rs := by
  unfold zf_X16_isShut_J196 at h
  refine zw_iconst (v := (1 : Int32)) hX dX16_isShut_196 (by decide) ?_
  refine zw_goto (tgt := 201) hX dX16_isShut_197 (by decide) ?_
  refine zw_istore hX dX16_isShut_201 (by decide) ?_
  refine zw_iinc (v := (i5 + (1 : Int32))) hX dX16_isShut_203 rfl rfl (by decide) ?_
  refine zw_goto (tgt := 6) hX dX16_isShut_206 (by decide) ?_
  refine zw_sub (lv' := [(0, .ref a0), (1, .int i1), (2, .int i2), (3, .int i3), (4, .int (1 : Int32)), (5, .int (i5 + (1 : Int32)))]) (List.forall_mem_cons.mpr ⟨rfl, (List.forall_mem_cons.mpr ⟨rfl, (List.forall_mem_cons.mpr ⟨rfl, (List.forall_mem_cons.mpr ⟨rfl, (List.forall_mem_cons.mpr ⟨rfl, (List.forall_mem_cons.mpr ⟨rfl, zs_nil⟩)⟩)⟩)⟩)⟩)⟩) ?_
  exact hrec _ _ _ h
set_option maxHeartbeats 4000000 in
set_option maxRecDepth 100000 in
theorem zt_X16_isShut_J200 {p : Program} {l : Launch} {e : Env} {R : Room} {s : State} {m : MethodId} {args : Array Value} {below : List Frame} {meth : Method} {c : Code} {V : zm_V} {mc ms d rc rs : Nat} (hX : zm_X p R s m args meth c RX16 "isShut" cX16_isShut 9 zk_E V mc ms) (hr : meth.sig.returnType = (some .boolean)) (hR : R.frames = d ∧ R.locals = 64 * d) (hd : 2 ≤ d) {N : Nat} {k : Nat → Int32 → Int32 → Int32 → Int32 → Int32 → zm_S → Option ((Int32 × zm_S) ⊕ ((Int32) × zm_S))} {a0 : Nat} {i1 : Int32} {i2 : Int32} {i3 : Int32} {i5 : Int32} {res : (Int32 × zm_S) ⊕ ((Int32) × zm_S)} {out : (Int32 × zm_S)}   (hf : ∀ o, res = .inl o → o = out) (hk : ∀ (x4 : Int32) (S' : zm_S), res = .inr (x4, S') → zw p l e R s m args below meth c (vx_MQ below (zm_Qc zk_E V (zo_i out)) (zm_XC zk_E V zo_x) args s mc ms (fun q => V.2.2.2.1 ≤ q)) 9 zk_E V mc ms 209 [(4, .int x4)] [] S' rc rs) (hrec : ∀ (i4' : Int32) (i5' : Int32) (S : zm_S), k a0 i1 i2 i3 i4' i5' S = some res → zw p l e R s m args below meth c (vx_MQ below (zm_Qc zk_E V (zo_i out)) (zm_XC zk_E V zo_x) args s mc ms (fun q => V.2.2.2.1 ≤ q)) 9 zk_E V mc ms 6 [(0, .ref a0), (1, .int i1), (2, .int i2), (3, .int i3), (4, .int i4'), (5, .int i5')] [] S rc rs) {S : zm_S} (h : zf_X16_isShut_J200 N k a0 i1 i2 i3 i5 S = some res) : zw p l e R s m args below meth c (vx_MQ below (zm_Qc zk_E V (zo_i out)) (zm_XC zk_E V zo_x) args s mc ms (fun q => V.2.2.2.1 ≤ q)) 9 zk_E V mc ms 200 [(0, .ref a0), (1, .int i1), (2, .int i2), (3, .int i3), (5, .int i5)] [] S rc rs := by
  unfold zf_X16_isShut_J200 at h
  refine zw_iconst (v := (0 : Int32)) hX dX16_isShut_200 (by decide) ?_
  refine zw_istore hX dX16_isShut_201 (by decide) ?_
  refine zw_iinc (v := (i5 + (1 : Int32))) hX dX16_isShut_203 rfl rfl (by decide) ?_
  refine zw_goto (tgt := 6) hX dX16_isShut_206 (by decide) ?_
  refine zw_sub (lv' := [(0, .ref a0), (1, .int i1), (2, .int i2), (3, .int i3), (4, .int (0 : Int32)), (5, .int (i5 + (1 : Int32)))]) (List.forall_mem_cons.mpr ⟨rfl, (List.forall_mem_cons.mpr ⟨rfl, (List.forall_mem_cons.mpr ⟨rfl, (List.forall_mem_cons.mpr ⟨rfl, (List.forall_mem_cons.mpr ⟨rfl, (List.forall_mem_cons.mpr ⟨rfl, zs_nil⟩)⟩)⟩)⟩)⟩)⟩) ?_
  exact hrec _ _ _ h
set_option maxHeartbeats 4000000 in
set_option maxRecDepth 100000 in
theorem zt_X16_isShut_J177 {p : Program} {l : Launch} {e : Env} {R : Room} {s : State} {m : MethodId} {args : Array Value} {below : List Frame} {meth : Method} {c : Code} {V : zm_V} {mc ms d rc rs : Nat} (hX : zm_X p R s m args meth c RX16 "isShut" cX16_isShut 9 zk_E V mc ms) (hr : meth.sig.returnType = (some .boolean)) (hR : R.frames = d ∧ R.locals = 64 * d) (hd : 2 ≤ d) {N : Nat} {k : Nat → Int32 → Int32 → Int32 → Int32 → Int32 → zm_S → Option ((Int32 × zm_S) ⊕ ((Int32) × zm_S))} {a0 : Nat} {i1 : Int32} {i2 : Int32} {i3 : Int32} {i4 : Int32} {i5 : Int32} {i6 : Int32} {i7 : Int32} {t0 : Int32} {res : (Int32 × zm_S) ⊕ ((Int32) × zm_S)} {out : (Int32 × zm_S)}   (hf : ∀ o, res = .inl o → o = out) (hk : ∀ (x4 : Int32) (S' : zm_S), res = .inr (x4, S') → zw p l e R s m args below meth c (vx_MQ below (zm_Qc zk_E V (zo_i out)) (zm_XC zk_E V zo_x) args s mc ms (fun q => V.2.2.2.1 ≤ q)) 9 zk_E V mc ms 209 [(4, .int x4)] [] S' rc rs) (hrec : ∀ (i4' : Int32) (i5' : Int32) (S : zm_S), k a0 i1 i2 i3 i4' i5' S = some res → zw p l e R s m args below meth c (vx_MQ below (zm_Qc zk_E V (zo_i out)) (zm_XC zk_E V zo_x) args s mc ms (fun q => V.2.2.2.1 ≤ q)) 9 zk_E V mc ms 6 [(0, .ref a0), (1, .int i1), (2, .int i2), (3, .int i3), (4, .int i4'), (5, .int i5')] [] S rc rs) {S : zm_S} (h : zf_X16_isShut_J177 N k a0 i1 i2 i3 i4 i5 i6 i7 t0 S = some res) : zw p l e R s m args below meth c (vx_MQ below (zm_Qc zk_E V (zo_i out)) (zm_XC zk_E V zo_x) args s mc ms (fun q => V.2.2.2.1 ≤ q)) 9 zk_E V mc ms 177 [(0, .ref a0), (1, .int i1), (2, .int i2), (3, .int i3), (4, .int i4), (5, .int i5), (6, .int i6), (7, .int i7)] [.int t0] S rc rs := by
  unfold zf_X16_isShut_J177 at h
  refine zw_istore hX dX16_isShut_177 (by decide) ?_
  refine zw_iload hX dX16_isShut_179 rfl ?_
  refine zw_if_ne (tgt := 196) hX dX16_isShut_181 (by decide) (fun c181 => ?_) (fun c181 => ?_)
  · rw [if_neg c181] at h
    refine zw_sub (lv' := [(0, .ref a0), (1, .int i1), (2, .int i2), (3, .int i3), (5, .int i5)]) (List.forall_mem_cons.mpr ⟨rfl, (List.forall_mem_cons.mpr ⟨rfl, (List.forall_mem_cons.mpr ⟨rfl, (List.forall_mem_cons.mpr ⟨rfl, (List.forall_mem_cons.mpr ⟨rfl, zs_nil⟩)⟩)⟩)⟩)⟩) ?_
    exact zt_X16_isShut_J196 hX hr hR hd hf hk hrec h
  · rw [if_pos c181] at h
    refine zw_iload hX dX16_isShut_184 rfl ?_
    refine zw_iload hX dX16_isShut_186 rfl ?_
    refine zw_icmp_ne (tgt := 200) hX dX16_isShut_188 (by decide) (fun c188 => ?_) (fun c188 => ?_)
    · rw [if_neg c188] at h
      refine zw_sub (lv' := [(0, .ref a0), (1, .int i1), (2, .int i2), (3, .int i3), (5, .int i5)]) (List.forall_mem_cons.mpr ⟨rfl, (List.forall_mem_cons.mpr ⟨rfl, (List.forall_mem_cons.mpr ⟨rfl, (List.forall_mem_cons.mpr ⟨rfl, (List.forall_mem_cons.mpr ⟨rfl, zs_nil⟩)⟩)⟩)⟩)⟩) ?_
      exact zt_X16_isShut_J200 hX hr hR hd hf hk hrec h
    · rw [if_pos c188] at h
      refine zw_iload hX dX16_isShut_191 rfl ?_
      refine zw_if_eq (tgt := 200) hX dX16_isShut_193 (by decide) (fun c193 => ?_) (fun c193 => ?_)
      · rw [if_pos c193] at h
        refine zw_sub (lv' := [(0, .ref a0), (1, .int i1), (2, .int i2), (3, .int i3), (5, .int i5)]) (List.forall_mem_cons.mpr ⟨rfl, (List.forall_mem_cons.mpr ⟨rfl, (List.forall_mem_cons.mpr ⟨rfl, (List.forall_mem_cons.mpr ⟨rfl, (List.forall_mem_cons.mpr ⟨rfl, zs_nil⟩)⟩)⟩)⟩)⟩) ?_
        exact zt_X16_isShut_J200 hX hr hR hd hf hk hrec h
      · rw [if_neg c193] at h
        refine zw_sub (lv' := [(0, .ref a0), (1, .int i1), (2, .int i2), (3, .int i3), (5, .int i5)]) (List.forall_mem_cons.mpr ⟨rfl, (List.forall_mem_cons.mpr ⟨rfl, (List.forall_mem_cons.mpr ⟨rfl, (List.forall_mem_cons.mpr ⟨rfl, (List.forall_mem_cons.mpr ⟨rfl, zs_nil⟩)⟩)⟩)⟩)⟩) ?_
        exact zt_X16_isShut_J196 hX hr hR hd hf hk hrec h
set_option maxHeartbeats 4000000 in
set_option maxRecDepth 100000 in
theorem zt_X16_isShut_J176 {p : Program} {l : Launch} {e : Env} {R : Room} {s : State} {m : MethodId} {args : Array Value} {below : List Frame} {meth : Method} {c : Code} {V : zm_V} {mc ms d rc rs : Nat} (hX : zm_X p R s m args meth c RX16 "isShut" cX16_isShut 9 zk_E V mc ms) (hr : meth.sig.returnType = (some .boolean)) (hR : R.frames = d ∧ R.locals = 64 * d) (hd : 2 ≤ d) {N : Nat} {k : Nat → Int32 → Int32 → Int32 → Int32 → Int32 → zm_S → Option ((Int32 × zm_S) ⊕ ((Int32) × zm_S))} {a0 : Nat} {i1 : Int32} {i2 : Int32} {i3 : Int32} {i4 : Int32} {i5 : Int32} {i6 : Int32} {i7 : Int32} {res : (Int32 × zm_S) ⊕ ((Int32) × zm_S)} {out : (Int32 × zm_S)}   (hf : ∀ o, res = .inl o → o = out) (hk : ∀ (x4 : Int32) (S' : zm_S), res = .inr (x4, S') → zw p l e R s m args below meth c (vx_MQ below (zm_Qc zk_E V (zo_i out)) (zm_XC zk_E V zo_x) args s mc ms (fun q => V.2.2.2.1 ≤ q)) 9 zk_E V mc ms 209 [(4, .int x4)] [] S' rc rs) (hrec : ∀ (i4' : Int32) (i5' : Int32) (S : zm_S), k a0 i1 i2 i3 i4' i5' S = some res → zw p l e R s m args below meth c (vx_MQ below (zm_Qc zk_E V (zo_i out)) (zm_XC zk_E V zo_x) args s mc ms (fun q => V.2.2.2.1 ≤ q)) 9 zk_E V mc ms 6 [(0, .ref a0), (1, .int i1), (2, .int i2), (3, .int i3), (4, .int i4'), (5, .int i5')] [] S rc rs) {S : zm_S} (h : zf_X16_isShut_J176 N k a0 i1 i2 i3 i4 i5 i6 i7 S = some res) : zw p l e R s m args below meth c (vx_MQ below (zm_Qc zk_E V (zo_i out)) (zm_XC zk_E V zo_x) args s mc ms (fun q => V.2.2.2.1 ≤ q)) 9 zk_E V mc ms 176 [(0, .ref a0), (1, .int i1), (2, .int i2), (3, .int i3), (4, .int i4), (5, .int i5), (6, .int i6), (7, .int i7)] [] S rc rs := by
  unfold zf_X16_isShut_J176 at h
  refine zw_iconst (v := (0 : Int32)) hX dX16_isShut_176 (by decide) ?_
  refine zw_sub (lv' := [(0, .ref a0), (1, .int i1), (2, .int i2), (3, .int i3), (4, .int i4), (5, .int i5), (6, .int i6), (7, .int i7)]) (List.forall_mem_cons.mpr ⟨rfl, (List.forall_mem_cons.mpr ⟨rfl, (List.forall_mem_cons.mpr ⟨rfl, (List.forall_mem_cons.mpr ⟨rfl, (List.forall_mem_cons.mpr ⟨rfl, (List.forall_mem_cons.mpr ⟨rfl, (List.forall_mem_cons.mpr ⟨rfl, (List.forall_mem_cons.mpr ⟨rfl, zs_nil⟩)⟩)⟩)⟩)⟩)⟩)⟩)⟩) ?_
  exact zt_X16_isShut_J177 hX hr hR hd hf hk hrec h
set_option maxHeartbeats 4000000 in
set_option maxRecDepth 100000 in
theorem zt_X16_isShut_J123 {p : Program} {l : Launch} {e : Env} {R : Room} {s : State} {m : MethodId} {args : Array Value} {below : List Frame} {meth : Method} {c : Code} {V : zm_V} {mc ms d rc rs : Nat} (hX : zm_X p R s m args meth c RX16 "isShut" cX16_isShut 9 zk_E V mc ms) (hr : meth.sig.returnType = (some .boolean)) (hR : R.frames = d ∧ R.locals = 64 * d) (hd : 2 ≤ d) {N : Nat} {k : Nat → Int32 → Int32 → Int32 → Int32 → Int32 → zm_S → Option ((Int32 × zm_S) ⊕ ((Int32) × zm_S))} {a0 : Nat} {i1 : Int32} {i2 : Int32} {i3 : Int32} {i4 : Int32} {i5 : Int32} {i6 : Int32} {i7 : Int32} {res : (Int32 × zm_S) ⊕ ((Int32) × zm_S)} {out : (Int32 × zm_S)}   (hf : ∀ o, res = .inl o → o = out) (hk : ∀ (x4 : Int32) (S' : zm_S), res = .inr (x4, S') → zw p l e R s m args below meth c (vx_MQ below (zm_Qc zk_E V (zo_i out)) (zm_XC zk_E V zo_x) args s mc ms (fun q => V.2.2.2.1 ≤ q)) 9 zk_E V mc ms 209 [(4, .int x4)] [] S' rc rs) (hrec : ∀ (i4' : Int32) (i5' : Int32) (S : zm_S), k a0 i1 i2 i3 i4' i5' S = some res → zw p l e R s m args below meth c (vx_MQ below (zm_Qc zk_E V (zo_i out)) (zm_XC zk_E V zo_x) args s mc ms (fun q => V.2.2.2.1 ≤ q)) 9 zk_E V mc ms 6 [(0, .ref a0), (1, .int i1), (2, .int i2), (3, .int i3), (4, .int i4'), (5, .int i5')] [] S rc rs) {S : zm_S} (h : zf_X16_isShut_J123 N k a0 i1 i2 i3 i4 i5 i6 i7 S = some res) : zw p l e R s m args below meth c (vx_MQ below (zm_Qc zk_E V (zo_i out)) (zm_XC zk_E V zo_x) args s mc ms (fun q => V.2.2.2.1 ≤ q)) 9 zk_E V mc ms 123 [(0, .ref a0), (1, .int i1), (2, .int i2), (3, .int i3), (4, .int i4), (5, .int i5), (6, .int i6), (7, .int i7)] [] S rc rs := by
  unfold zf_X16_isShut_J123 at h
  refine zw_iconst (v := (0 : Int32)) hX dX16_isShut_123 (by decide) ?_
  refine zw_goto (tgt := 177) hX dX16_isShut_124 (by decide) ?_
  refine zw_sub (lv' := [(0, .ref a0), (1, .int i1), (2, .int i2), (3, .int i3), (4, .int i4), (5, .int i5), (6, .int i6), (7, .int i7)]) (List.forall_mem_cons.mpr ⟨rfl, (List.forall_mem_cons.mpr ⟨rfl, (List.forall_mem_cons.mpr ⟨rfl, (List.forall_mem_cons.mpr ⟨rfl, (List.forall_mem_cons.mpr ⟨rfl, (List.forall_mem_cons.mpr ⟨rfl, (List.forall_mem_cons.mpr ⟨rfl, (List.forall_mem_cons.mpr ⟨rfl, zs_nil⟩)⟩)⟩)⟩)⟩)⟩)⟩)⟩) ?_
  exact zt_X16_isShut_J177 hX hr hR hd hf hk hrec h
set_option maxHeartbeats 4000000 in
set_option maxRecDepth 100000 in
theorem zt_X16_isShut_J68 {p : Program} {l : Launch} {e : Env} {R : Room} {s : State} {m : MethodId} {args : Array Value} {below : List Frame} {meth : Method} {c : Code} {V : zm_V} {mc ms d rc rs : Nat} (hX : zm_X p R s m args meth c RX16 "isShut" cX16_isShut 9 zk_E V mc ms) (hr : meth.sig.returnType = (some .boolean)) (hR : R.frames = d ∧ R.locals = 64 * d) (hd : 2 ≤ d) {N : Nat} {k : Nat → Int32 → Int32 → Int32 → Int32 → Int32 → zm_S → Option ((Int32 × zm_S) ⊕ ((Int32) × zm_S))} {a0 : Nat} {i1 : Int32} {i2 : Int32} {i3 : Int32} {i4 : Int32} {i5 : Int32} {i6 : Int32} {t0 : Int32} {res : (Int32 × zm_S) ⊕ ((Int32) × zm_S)} {out : (Int32 × zm_S)}   (hf : ∀ o, res = .inl o → o = out) (hk : ∀ (x4 : Int32) (S' : zm_S), res = .inr (x4, S') → zw p l e R s m args below meth c (vx_MQ below (zm_Qc zk_E V (zo_i out)) (zm_XC zk_E V zo_x) args s mc ms (fun q => V.2.2.2.1 ≤ q)) 9 zk_E V mc ms 209 [(4, .int x4)] [] S' rc rs) (hrec : ∀ (i4' : Int32) (i5' : Int32) (S : zm_S), k a0 i1 i2 i3 i4' i5' S = some res → zw p l e R s m args below meth c (vx_MQ below (zm_Qc zk_E V (zo_i out)) (zm_XC zk_E V zo_x) args s mc ms (fun q => V.2.2.2.1 ≤ q)) 9 zk_E V mc ms 6 [(0, .ref a0), (1, .int i1), (2, .int i2), (3, .int i3), (4, .int i4'), (5, .int i5')] [] S rc rs) {S : zm_S} (h : zf_X16_isShut_J68 N k a0 i1 i2 i3 i4 i5 i6 t0 S = some res) : zw p l e R s m args below meth c (vx_MQ below (zm_Qc zk_E V (zo_i out)) (zm_XC zk_E V zo_x) args s mc ms (fun q => V.2.2.2.1 ≤ q)) 9 zk_E V mc ms 68 [(0, .ref a0), (1, .int i1), (2, .int i2), (3, .int i3), (4, .int i4), (5, .int i5), (6, .int i6)] [.int t0] S rc rs := by
  unfold zf_X16_isShut_J68 at h
  refine zw_istore hX dX16_isShut_68 (by decide) ?_
  refine zw_iload_n hX dX16_isShut_70 rfl ?_
  refine zw_if_eq (tgt := 127) hX dX16_isShut_71 (by decide) (fun c71 => ?_) (fun c71 => ?_)
  · rw [if_pos c71] at h
    refine zw_iload_n hX dX16_isShut_127 rfl ?_
    refine zw_if_le (tgt := 176) hX dX16_isShut_128 (by decide) (fun c128 => ?_) (fun c128 => ?_)
    · rw [if_pos c128] at h
      refine zw_sub (lv' := [(0, .ref a0), (1, .int i1), (2, .int i2), (3, .int i3), (4, .int i4), (5, .int i5), (6, .int i6), (7, .int t0)]) (List.forall_mem_cons.mpr ⟨rfl, (List.forall_mem_cons.mpr ⟨rfl, (List.forall_mem_cons.mpr ⟨rfl, (List.forall_mem_cons.mpr ⟨rfl, (List.forall_mem_cons.mpr ⟨rfl, (List.forall_mem_cons.mpr ⟨rfl, (List.forall_mem_cons.mpr ⟨rfl, (List.forall_mem_cons.mpr ⟨rfl, zs_nil⟩)⟩)⟩)⟩)⟩)⟩)⟩)⟩) ?_
      exact zt_X16_isShut_J176 hX hr hR hd hf hk hrec h
    · rw [if_neg c128] at h
      refine zw_iload_n hX dX16_isShut_131 rfl ?_
      refine zw_aload_n hX dX16_isShut_132 rfl ?_
      obtain ⟨v8, g, h⟩ := zb_some h
      refine zw_geti hX zl_X16_118 dX16_isShut_133 g ?_
      refine zw_icmp_ge (tgt := 176) hX dX16_isShut_136 (by decide) (fun c136 => ?_) (fun c136 => ?_)
      · rw [if_pos c136] at h
        refine zw_sub (lv' := [(0, .ref a0), (1, .int i1), (2, .int i2), (3, .int i3), (4, .int i4), (5, .int i5), (6, .int i6), (7, .int t0)]) (List.forall_mem_cons.mpr ⟨rfl, (List.forall_mem_cons.mpr ⟨rfl, (List.forall_mem_cons.mpr ⟨rfl, (List.forall_mem_cons.mpr ⟨rfl, (List.forall_mem_cons.mpr ⟨rfl, (List.forall_mem_cons.mpr ⟨rfl, (List.forall_mem_cons.mpr ⟨rfl, (List.forall_mem_cons.mpr ⟨rfl, zs_nil⟩)⟩)⟩)⟩)⟩)⟩)⟩)⟩) ?_
        exact zt_X16_isShut_J176 hX hr hR hd hf hk hrec h
      · rw [if_neg c136] at h
        refine zw_aload_n hX dX16_isShut_139 rfl ?_
        obtain ⟨b9, g, h⟩ := zb_some h
        refine zw_getr hX zl_X16_7 dX16_isShut_140 g ?_
        refine zw_iload hX dX16_isShut_143 rfl ?_
        obtain ⟨v10, g, h⟩ := zb_some h
        refine zw_xi hX dX16_isShut_145 g ?_
        refine zw_aload_n hX dX16_isShut_146 rfl ?_
        obtain ⟨b11, g, h⟩ := zb_some h
        refine zw_getr hX zl_X16_35 dX16_isShut_147 g ?_
        refine zw_iload_n hX dX16_isShut_150 rfl ?_
        refine zw_iconst (v := (1 : Int32)) hX dX16_isShut_151 (by decide) ?_
        refine zw_isub hX dX16_isShut_152 ?_
        obtain ⟨v12, g, h⟩ := zb_some h
        refine zw_xi hX dX16_isShut_153 g ?_
        refine zw_icmp_gt (tgt := 176) hX dX16_isShut_154 (by decide) (fun c154 => ?_) (fun c154 => ?_)
        · rw [if_pos c154] at h
          refine zw_sub (lv' := [(0, .ref a0), (1, .int i1), (2, .int i2), (3, .int i3), (4, .int i4), (5, .int i5), (6, .int i6), (7, .int t0)]) (List.forall_mem_cons.mpr ⟨rfl, (List.forall_mem_cons.mpr ⟨rfl, (List.forall_mem_cons.mpr ⟨rfl, (List.forall_mem_cons.mpr ⟨rfl, (List.forall_mem_cons.mpr ⟨rfl, (List.forall_mem_cons.mpr ⟨rfl, (List.forall_mem_cons.mpr ⟨rfl, (List.forall_mem_cons.mpr ⟨rfl, zs_nil⟩)⟩)⟩)⟩)⟩)⟩)⟩)⟩) ?_
          exact zt_X16_isShut_J176 hX hr hR hd hf hk hrec h
        · rw [if_neg c154] at h
          refine zw_aload_n hX dX16_isShut_157 rfl ?_
          refine zw_iload hX dX16_isShut_158 rfl ?_
          obtain ⟨_, gi, h⟩ := zb_some h
          obtain ⟨r14, g, h⟩ := zb_some h
          refine zc_Vi (as := [.int i5]) hX gi (zt_X16_highX (d := d - 1) (by omega) g) zl_X16_89 rfl dX16_isShut_160 ⟨rfl, rfl, Nat.le_of_ble_eq_true rfl⟩ ⟨by omega, by omega⟩ ?_
          refine zw_aload_n hX dX16_isShut_163 rfl ?_
          obtain ⟨b15, g, h⟩ := zb_some h
          refine zw_getr hX zl_X16_35 dX16_isShut_164 g ?_
          refine zw_iload_n hX dX16_isShut_167 rfl ?_
          obtain ⟨v16, g, h⟩ := zb_some h
          refine zw_xi hX dX16_isShut_168 g ?_
          refine zw_icmp_lt (tgt := 176) hX dX16_isShut_169 (by decide) (fun c169 => ?_) (fun c169 => ?_)
          · rw [if_pos c169] at h
            refine zw_sub (lv' := [(0, .ref a0), (1, .int i1), (2, .int i2), (3, .int i3), (4, .int i4), (5, .int i5), (6, .int i6), (7, .int t0)]) (List.forall_mem_cons.mpr ⟨rfl, (List.forall_mem_cons.mpr ⟨rfl, (List.forall_mem_cons.mpr ⟨rfl, (List.forall_mem_cons.mpr ⟨rfl, (List.forall_mem_cons.mpr ⟨rfl, (List.forall_mem_cons.mpr ⟨rfl, (List.forall_mem_cons.mpr ⟨rfl, (List.forall_mem_cons.mpr ⟨rfl, zs_nil⟩)⟩)⟩)⟩)⟩)⟩)⟩)⟩) ?_
            exact zt_X16_isShut_J176 hX hr hR hd hf hk hrec h
          · rw [if_neg c169] at h
            refine zw_iconst (v := (1 : Int32)) hX dX16_isShut_172 (by decide) ?_
            refine zw_goto (tgt := 177) hX dX16_isShut_173 (by decide) ?_
            refine zw_sub (lv' := [(0, .ref a0), (1, .int i1), (2, .int i2), (3, .int i3), (4, .int i4), (5, .int i5), (6, .int i6), (7, .int t0)]) (List.forall_mem_cons.mpr ⟨rfl, (List.forall_mem_cons.mpr ⟨rfl, (List.forall_mem_cons.mpr ⟨rfl, (List.forall_mem_cons.mpr ⟨rfl, (List.forall_mem_cons.mpr ⟨rfl, (List.forall_mem_cons.mpr ⟨rfl, (List.forall_mem_cons.mpr ⟨rfl, (List.forall_mem_cons.mpr ⟨rfl, zs_nil⟩)⟩)⟩)⟩)⟩)⟩)⟩)⟩) ?_
            exact zt_X16_isShut_J177 hX hr hR hd hf hk hrec h
  · rw [if_neg c71] at h
    refine zw_iload_n hX dX16_isShut_74 rfl ?_
    refine zw_if_le (tgt := 123) hX dX16_isShut_75 (by decide) (fun c75 => ?_) (fun c75 => ?_)
    · rw [if_pos c75] at h
      refine zw_sub (lv' := [(0, .ref a0), (1, .int i1), (2, .int i2), (3, .int i3), (4, .int i4), (5, .int i5), (6, .int i6), (7, .int t0)]) (List.forall_mem_cons.mpr ⟨rfl, (List.forall_mem_cons.mpr ⟨rfl, (List.forall_mem_cons.mpr ⟨rfl, (List.forall_mem_cons.mpr ⟨rfl, (List.forall_mem_cons.mpr ⟨rfl, (List.forall_mem_cons.mpr ⟨rfl, (List.forall_mem_cons.mpr ⟨rfl, (List.forall_mem_cons.mpr ⟨rfl, zs_nil⟩)⟩)⟩)⟩)⟩)⟩)⟩)⟩) ?_
      exact zt_X16_isShut_J123 hX hr hR hd hf hk hrec h
    · rw [if_neg c75] at h
      refine zw_iload_n hX dX16_isShut_78 rfl ?_
      refine zw_aload_n hX dX16_isShut_79 rfl ?_
      obtain ⟨v17, g, h⟩ := zb_some h
      refine zw_geti hX zl_X16_115 dX16_isShut_80 g ?_
      refine zw_icmp_ge (tgt := 123) hX dX16_isShut_83 (by decide) (fun c83 => ?_) (fun c83 => ?_)
      · rw [if_pos c83] at h
        refine zw_sub (lv' := [(0, .ref a0), (1, .int i1), (2, .int i2), (3, .int i3), (4, .int i4), (5, .int i5), (6, .int i6), (7, .int t0)]) (List.forall_mem_cons.mpr ⟨rfl, (List.forall_mem_cons.mpr ⟨rfl, (List.forall_mem_cons.mpr ⟨rfl, (List.forall_mem_cons.mpr ⟨rfl, (List.forall_mem_cons.mpr ⟨rfl, (List.forall_mem_cons.mpr ⟨rfl, (List.forall_mem_cons.mpr ⟨rfl, (List.forall_mem_cons.mpr ⟨rfl, zs_nil⟩)⟩)⟩)⟩)⟩)⟩)⟩)⟩) ?_
        exact zt_X16_isShut_J123 hX hr hR hd hf hk hrec h
      · rw [if_neg c83] at h
        refine zw_aload_n hX dX16_isShut_86 rfl ?_
        obtain ⟨b18, g, h⟩ := zb_some h
        refine zw_getr hX zl_X16_13 dX16_isShut_87 g ?_
        refine zw_iload hX dX16_isShut_90 rfl ?_
        obtain ⟨v19, g, h⟩ := zb_some h
        refine zw_xi hX dX16_isShut_92 g ?_
        refine zw_aload_n hX dX16_isShut_93 rfl ?_
        obtain ⟨b20, g, h⟩ := zb_some h
        refine zw_getr hX zl_X16_38 dX16_isShut_94 g ?_
        refine zw_iload_n hX dX16_isShut_97 rfl ?_
        refine zw_iconst (v := (1 : Int32)) hX dX16_isShut_98 (by decide) ?_
        refine zw_isub hX dX16_isShut_99 ?_
        obtain ⟨v21, g, h⟩ := zb_some h
        refine zw_xi hX dX16_isShut_100 g ?_
        refine zw_icmp_gt (tgt := 123) hX dX16_isShut_101 (by decide) (fun c101 => ?_) (fun c101 => ?_)
        · rw [if_pos c101] at h
          refine zw_sub (lv' := [(0, .ref a0), (1, .int i1), (2, .int i2), (3, .int i3), (4, .int i4), (5, .int i5), (6, .int i6), (7, .int t0)]) (List.forall_mem_cons.mpr ⟨rfl, (List.forall_mem_cons.mpr ⟨rfl, (List.forall_mem_cons.mpr ⟨rfl, (List.forall_mem_cons.mpr ⟨rfl, (List.forall_mem_cons.mpr ⟨rfl, (List.forall_mem_cons.mpr ⟨rfl, (List.forall_mem_cons.mpr ⟨rfl, (List.forall_mem_cons.mpr ⟨rfl, zs_nil⟩)⟩)⟩)⟩)⟩)⟩)⟩)⟩) ?_
          exact zt_X16_isShut_J123 hX hr hR hd hf hk hrec h
        · rw [if_neg c101] at h
          refine zw_aload_n hX dX16_isShut_104 rfl ?_
          refine zw_iload hX dX16_isShut_105 rfl ?_
          obtain ⟨_, gi, h⟩ := zb_some h
          obtain ⟨r23, g, h⟩ := zb_some h
          refine zc_Vi (as := [.int i5]) hX gi (zt_X16_highY (d := d - 1) (by omega) g) zl_X16_93 rfl dX16_isShut_107 ⟨rfl, rfl, Nat.le_of_ble_eq_true rfl⟩ ⟨by omega, by omega⟩ ?_
          refine zw_aload_n hX dX16_isShut_110 rfl ?_
          obtain ⟨b24, g, h⟩ := zb_some h
          refine zw_getr hX zl_X16_38 dX16_isShut_111 g ?_
          refine zw_iload_n hX dX16_isShut_114 rfl ?_
          obtain ⟨v25, g, h⟩ := zb_some h
          refine zw_xi hX dX16_isShut_115 g ?_
          refine zw_icmp_lt (tgt := 123) hX dX16_isShut_116 (by decide) (fun c116 => ?_) (fun c116 => ?_)
          · rw [if_pos c116] at h
            refine zw_sub (lv' := [(0, .ref a0), (1, .int i1), (2, .int i2), (3, .int i3), (4, .int i4), (5, .int i5), (6, .int i6), (7, .int t0)]) (List.forall_mem_cons.mpr ⟨rfl, (List.forall_mem_cons.mpr ⟨rfl, (List.forall_mem_cons.mpr ⟨rfl, (List.forall_mem_cons.mpr ⟨rfl, (List.forall_mem_cons.mpr ⟨rfl, (List.forall_mem_cons.mpr ⟨rfl, (List.forall_mem_cons.mpr ⟨rfl, (List.forall_mem_cons.mpr ⟨rfl, zs_nil⟩)⟩)⟩)⟩)⟩)⟩)⟩)⟩) ?_
            exact zt_X16_isShut_J123 hX hr hR hd hf hk hrec h
          · rw [if_neg c116] at h
            refine zw_iconst (v := (1 : Int32)) hX dX16_isShut_119 (by decide) ?_
            refine zw_goto (tgt := 177) hX dX16_isShut_120 (by decide) ?_
            refine zw_sub (lv' := [(0, .ref a0), (1, .int i1), (2, .int i2), (3, .int i3), (4, .int i4), (5, .int i5), (6, .int i6), (7, .int t0)]) (List.forall_mem_cons.mpr ⟨rfl, (List.forall_mem_cons.mpr ⟨rfl, (List.forall_mem_cons.mpr ⟨rfl, (List.forall_mem_cons.mpr ⟨rfl, (List.forall_mem_cons.mpr ⟨rfl, (List.forall_mem_cons.mpr ⟨rfl, (List.forall_mem_cons.mpr ⟨rfl, (List.forall_mem_cons.mpr ⟨rfl, zs_nil⟩)⟩)⟩)⟩)⟩)⟩)⟩)⟩) ?_
            exact zt_X16_isShut_J177 hX hr hR hd hf hk hrec h
set_option maxHeartbeats 4000000 in
set_option maxRecDepth 100000 in
theorem zt_X16_isShut_J47 {p : Program} {l : Launch} {e : Env} {R : Room} {s : State} {m : MethodId} {args : Array Value} {below : List Frame} {meth : Method} {c : Code} {V : zm_V} {mc ms d rc rs : Nat} (hX : zm_X p R s m args meth c RX16 "isShut" cX16_isShut 9 zk_E V mc ms) (hr : meth.sig.returnType = (some .boolean)) (hR : R.frames = d ∧ R.locals = 64 * d) (hd : 2 ≤ d) {N : Nat} {k : Nat → Int32 → Int32 → Int32 → Int32 → Int32 → zm_S → Option ((Int32 × zm_S) ⊕ ((Int32) × zm_S))} {a0 : Nat} {i1 : Int32} {i2 : Int32} {i3 : Int32} {i4 : Int32} {i5 : Int32} {t0 : Int32} {res : (Int32 × zm_S) ⊕ ((Int32) × zm_S)} {out : (Int32 × zm_S)}   (hf : ∀ o, res = .inl o → o = out) (hk : ∀ (x4 : Int32) (S' : zm_S), res = .inr (x4, S') → zw p l e R s m args below meth c (vx_MQ below (zm_Qc zk_E V (zo_i out)) (zm_XC zk_E V zo_x) args s mc ms (fun q => V.2.2.2.1 ≤ q)) 9 zk_E V mc ms 209 [(4, .int x4)] [] S' rc rs) (hrec : ∀ (i4' : Int32) (i5' : Int32) (S : zm_S), k a0 i1 i2 i3 i4' i5' S = some res → zw p l e R s m args below meth c (vx_MQ below (zm_Qc zk_E V (zo_i out)) (zm_XC zk_E V zo_x) args s mc ms (fun q => V.2.2.2.1 ≤ q)) 9 zk_E V mc ms 6 [(0, .ref a0), (1, .int i1), (2, .int i2), (3, .int i3), (4, .int i4'), (5, .int i5')] [] S rc rs) {S : zm_S} (h : zf_X16_isShut_J47 N k a0 i1 i2 i3 i4 i5 t0 S = some res) : zw p l e R s m args below meth c (vx_MQ below (zm_Qc zk_E V (zo_i out)) (zm_XC zk_E V zo_x) args s mc ms (fun q => V.2.2.2.1 ≤ q)) 9 zk_E V mc ms 47 [(0, .ref a0), (1, .int i1), (2, .int i2), (3, .int i3), (4, .int i4), (5, .int i5)] [.int t0] S rc rs := by
  unfold zf_X16_isShut_J47 at h
  refine zw_istore hX dX16_isShut_47 (by decide) ?_
  refine zw_iload_n hX dX16_isShut_49 rfl ?_
  refine zw_if_eq (tgt := 62) hX dX16_isShut_50 (by decide) (fun c50 => ?_) (fun c50 => ?_)
  · rw [if_pos c50] at h
    refine zw_aload_n hX dX16_isShut_62 rfl ?_
    obtain ⟨b6, g, h⟩ := zb_some h
    refine zw_getr hX zl_X16_38 dX16_isShut_63 g ?_
    refine zw_iload_n hX dX16_isShut_66 rfl ?_
    obtain ⟨v7, g, h⟩ := zb_some h
    refine zw_xi hX dX16_isShut_67 g ?_
    refine zw_sub (lv' := [(0, .ref a0), (1, .int i1), (2, .int i2), (3, .int i3), (4, .int i4), (5, .int i5), (6, .int t0)]) (List.forall_mem_cons.mpr ⟨rfl, (List.forall_mem_cons.mpr ⟨rfl, (List.forall_mem_cons.mpr ⟨rfl, (List.forall_mem_cons.mpr ⟨rfl, (List.forall_mem_cons.mpr ⟨rfl, (List.forall_mem_cons.mpr ⟨rfl, (List.forall_mem_cons.mpr ⟨rfl, zs_nil⟩)⟩)⟩)⟩)⟩)⟩)⟩) ?_
    exact zt_X16_isShut_J68 hX hr hR hd hf hk hrec h
  · rw [if_neg c50] at h
    refine zw_aload_n hX dX16_isShut_53 rfl ?_
    obtain ⟨b26, g, h⟩ := zb_some h
    refine zw_getr hX zl_X16_35 dX16_isShut_54 g ?_
    refine zw_iload_n hX dX16_isShut_57 rfl ?_
    obtain ⟨v27, g, h⟩ := zb_some h
    refine zw_xi hX dX16_isShut_58 g ?_
    refine zw_goto (tgt := 68) hX dX16_isShut_59 (by decide) ?_
    refine zw_sub (lv' := [(0, .ref a0), (1, .int i1), (2, .int i2), (3, .int i3), (4, .int i4), (5, .int i5), (6, .int t0)]) (List.forall_mem_cons.mpr ⟨rfl, (List.forall_mem_cons.mpr ⟨rfl, (List.forall_mem_cons.mpr ⟨rfl, (List.forall_mem_cons.mpr ⟨rfl, (List.forall_mem_cons.mpr ⟨rfl, (List.forall_mem_cons.mpr ⟨rfl, (List.forall_mem_cons.mpr ⟨rfl, zs_nil⟩)⟩)⟩)⟩)⟩)⟩)⟩) ?_
    exact zt_X16_isShut_J68 hX hr hR hd hf hk hrec h
set_option maxHeartbeats 4000000 in
set_option maxRecDepth 100000 in
theorem zt_X16_isShut_L6 {p : Program} {l : Launch} {e : Env} {R : Room} {s : State} {m : MethodId} {args : Array Value} {below : List Frame} {meth : Method} {c : Code} {V : zm_V} {mc ms d rc rs : Nat} (hX : zm_X p R s m args meth c RX16 "isShut" cX16_isShut 9 zk_E V mc ms) (hr : meth.sig.returnType = (some .boolean)) (hR : R.frames = d ∧ R.locals = 64 * d) (hd : 2 ≤ d) {N : Nat} {res : (Int32 × zm_S) ⊕ ((Int32) × zm_S)} {out : (Int32 × zm_S)} (a0 : Nat) (i1 : Int32) (i2 : Int32) (i3 : Int32) (hf : ∀ o, res = .inl o → o = out) (hk : ∀ (x4 : Int32) (S' : zm_S), res = .inr (x4, S') → zw p l e R s m args below meth c (vx_MQ below (zm_Qc zk_E V (zo_i out)) (zm_XC zk_E V zo_x) args s mc ms (fun q => V.2.2.2.1 ≤ q)) 9 zk_E V mc ms 209 [(4, .int x4)] [] S' rc rs) : ∀ (n : Nat) (i4 : Int32) (i5 : Int32) (S : zm_S), zf_X16_isShut_L6 N n a0 i1 i2 i3 i4 i5 S = some res → zw p l e R s m args below meth c (vx_MQ below (zm_Qc zk_E V (zo_i out)) (zm_XC zk_E V zo_x) args s mc ms (fun q => V.2.2.2.1 ≤ q)) 9 zk_E V mc ms 6 [(0, .ref a0), (1, .int i1), (2, .int i2), (3, .int i3), (4, .int i4), (5, .int i5)] [] S rc rs := by
  intro n
  induction n with
  | zero => intro i4 i5 S h; cases h
  | succ n ih =>
    intro i4 i5 S h
    rw [zf_X16_isShut_L6] at h
    refine zw_iload hX dX16_isShut_6 rfl ?_
    refine zw_aload_n hX dX16_isShut_8 rfl ?_
    obtain ⟨v1, g, h⟩ := zb_some h
    refine zw_geti hX zl_X16_96 dX16_isShut_9 g ?_
    refine zw_icmp_ge (tgt := 209) hX dX16_isShut_12 (by decide) (fun c12 => ?_) (fun c12 => ?_)
    · rw [if_pos c12] at h
      refine zw_sub (lv' := [(4, .int i4)]) (List.forall_mem_cons.mpr ⟨rfl, zs_nil⟩) ?_
      exact hk _ _ (Option.some.inj h).symm
    · rw [if_neg c12] at h
      refine zw_aload_n hX dX16_isShut_15 rfl ?_
      obtain ⟨b2, g, h⟩ := zb_some h
      refine zw_getr hX zl_X16_16 dX16_isShut_16 g ?_
      refine zw_iload hX dX16_isShut_19 rfl ?_
      obtain ⟨v3, g, h⟩ := zb_some h
      refine zw_xz hX dX16_isShut_21 g ?_
      refine zw_iload_n hX dX16_isShut_22 rfl ?_
      refine zw_icmp_eq (tgt := 203) hX dX16_isShut_23 (by decide) (fun c23 => ?_) (fun c23 => ?_)
      · rw [if_pos c23] at h
        refine zw_iinc (v := (i5 + (1 : Int32))) hX dX16_isShut_203 rfl rfl (by decide) ?_
        refine zw_goto (tgt := 6) hX dX16_isShut_206 (by decide) ?_
        refine zw_sub (lv' := [(0, .ref a0), (1, .int i1), (2, .int i2), (3, .int i3), (4, .int i4), (5, .int (i5 + (1 : Int32)))]) (List.forall_mem_cons.mpr ⟨rfl, (List.forall_mem_cons.mpr ⟨rfl, (List.forall_mem_cons.mpr ⟨rfl, (List.forall_mem_cons.mpr ⟨rfl, (List.forall_mem_cons.mpr ⟨rfl, (List.forall_mem_cons.mpr ⟨rfl, zs_nil⟩)⟩)⟩)⟩)⟩)⟩) ?_
        exact ih _ _ _ h
      · rw [if_neg c23] at h
        refine zw_iload_n hX dX16_isShut_26 rfl ?_
        refine zw_if_eq (tgt := 40) hX dX16_isShut_27 (by decide) (fun c27 => ?_) (fun c27 => ?_)
        · rw [if_pos c27] at h
          refine zw_aload_n hX dX16_isShut_40 rfl ?_
          obtain ⟨b4, g, h⟩ := zb_some h
          refine zw_getr hX zl_X16_13 dX16_isShut_41 g ?_
          refine zw_iload hX dX16_isShut_44 rfl ?_
          obtain ⟨v5, g, h⟩ := zb_some h
          refine zw_xi hX dX16_isShut_46 g ?_
          refine zw_sub (lv' := [(0, .ref a0), (1, .int i1), (2, .int i2), (3, .int i3), (4, .int i4), (5, .int i5)]) (List.forall_mem_cons.mpr ⟨rfl, (List.forall_mem_cons.mpr ⟨rfl, (List.forall_mem_cons.mpr ⟨rfl, (List.forall_mem_cons.mpr ⟨rfl, (List.forall_mem_cons.mpr ⟨rfl, (List.forall_mem_cons.mpr ⟨rfl, zs_nil⟩)⟩)⟩)⟩)⟩)⟩) ?_
          exact zt_X16_isShut_J47 hX hr hR hd hf hk ih h
        · rw [if_neg c27] at h
          refine zw_aload_n hX dX16_isShut_30 rfl ?_
          obtain ⟨b28, g, h⟩ := zb_some h
          refine zw_getr hX zl_X16_7 dX16_isShut_31 g ?_
          refine zw_iload hX dX16_isShut_34 rfl ?_
          obtain ⟨v29, g, h⟩ := zb_some h
          refine zw_xi hX dX16_isShut_36 g ?_
          refine zw_goto (tgt := 47) hX dX16_isShut_37 (by decide) ?_
          refine zw_sub (lv' := [(0, .ref a0), (1, .int i1), (2, .int i2), (3, .int i3), (4, .int i4), (5, .int i5)]) (List.forall_mem_cons.mpr ⟨rfl, (List.forall_mem_cons.mpr ⟨rfl, (List.forall_mem_cons.mpr ⟨rfl, (List.forall_mem_cons.mpr ⟨rfl, (List.forall_mem_cons.mpr ⟨rfl, (List.forall_mem_cons.mpr ⟨rfl, zs_nil⟩)⟩)⟩)⟩)⟩)⟩) ?_
          exact zt_X16_isShut_J47 hX hr hR hd hf hk ih h
set_option maxHeartbeats 4000000 in
set_option maxRecDepth 100000 in
theorem zt_X16_isShut {l : Launch} {V : zm_V} {N : Nat} {S : zm_S} {out : (Int32 × zm_S)} {d : Nat} {a0 : Nat} {i1 : Int32} {i2 : Int32} {i3 : Int32} (hd : 2 ≤ d) (h : zf_X16_isShut N a0 i1 i2 i3 S = some out) : zm_Met l zk_E V yX16_isShut (.code yX16_isShut cX16_isShut 9 (some .boolean)) d [.ref a0, .int i1, .int i2, .int i3] S 0 0 (zo_i out) zo_x := by
  refine zm_of (by decide +kernel) (Nat.le_of_ble_eq_true rfl) ?_
  intro p e R s m args below meth c hRR hX hr hxt
  have hR : R.frames = d ∧ R.locals = 64 * d := by rw [hRR]; exact ⟨rfl, rfl⟩
  have hX : zm_X p R s m args meth c RX16 "isShut" cX16_isShut 9 zk_E V 0 0 := hX
  unfold zf_X16_isShut at h
  refine zw_sub (lv' := [(0, .ref a0), (1, .int i1), (2, .int i2), (3, .int i3)]) (List.forall_mem_cons.mpr ⟨rfl, (List.forall_mem_cons.mpr ⟨rfl, (List.forall_mem_cons.mpr ⟨rfl, (List.forall_mem_cons.mpr ⟨rfl, zs_nil⟩)⟩)⟩)⟩) ?_
  refine zw_iconst (v := (0 : Int32)) hX dX16_isShut_0 (by decide) ?_
  refine zw_istore hX dX16_isShut_1 (by decide) ?_
  refine zw_iconst (v := (0 : Int32)) hX dX16_isShut_3 (by decide) ?_
  refine zw_istore hX dX16_isShut_4 (by decide) ?_
  obtain ⟨r, g, h⟩ := zb_some h
  refine zw_sub (lv' := [(0, .ref a0), (1, .int i1), (2, .int i2), (3, .int i3), (4, .int (0 : Int32)), (5, .int (0 : Int32))]) (List.forall_mem_cons.mpr ⟨rfl, (List.forall_mem_cons.mpr ⟨rfl, (List.forall_mem_cons.mpr ⟨rfl, (List.forall_mem_cons.mpr ⟨rfl, (List.forall_mem_cons.mpr ⟨rfl, (List.forall_mem_cons.mpr ⟨rfl, zs_nil⟩)⟩)⟩)⟩)⟩)⟩) ?_
  refine zt_X16_isShut_L6 hX hr hR hd (res := r) (out := out) a0 i1 i2 i3 ?_ ?_ N _ _ _ g
  · intro o ho
    subst ho
    exact Option.some.inj h
  · intro v31 S30 hx
    subst hx
    try dsimp only at h
    refine zw_iload hX dX16_isShut_209 rfl ?_
    by_cases cz : v31 = 0 ∨ v31 = 1
    · rw [if_pos cz] at h
      obtain rfl := Option.some.inj h
      exact zw_iret hX hr dX16_isShut_211 (zn_z cz) ⟨rfl, rfl⟩
    · rw [if_neg cz] at h
      cases h
set_option maxHeartbeats 4000000 in
set_option maxRecDepth 100000 in
theorem zt_X16_join_J51 {p : Program} {l : Launch} {e : Env} {R : Room} {s : State} {m : MethodId} {args : Array Value} {below : List Frame} {meth : Method} {c : Code} {V : zm_V} {mc ms d rc rs : Nat} (hX : zm_X p R s m args meth c RX16 "join" cX16_join 5 zk_E V mc ms) (hr : meth.sig.returnType = (some .boolean)) (hR : R.frames = d ∧ R.locals = 64 * d) (hd : 1 ≤ d) {N : Nat} {a0 : Nat} {i1 : Int32} {i2 : Int32} {i3 : Int32} {t0 : Int32} {out : (Int32 × zm_S)} {S : zm_S} (h : zf_X16_join_J51 N a0 i1 i2 i3 t0 S = some out) : zw p l e R s m args below meth c (vx_MQ below (zm_Qc zk_E V (zo_i out)) (zm_XC zk_E V zo_x) args s mc ms (fun q => V.2.2.2.1 ≤ q)) 5 zk_E V mc ms 51 [(0, .ref a0), (1, .int i1), (2, .int i2), (3, .int i3)] [.int t0] S rc rs := by
  unfold zf_X16_join_J51 at h
  refine zw_istore hX dX16_join_51 (by decide) ?_
  refine zw_aload_n hX dX16_join_53 rfl ?_
  obtain ⟨b11, g, h⟩ := zb_some h
  refine zw_getr hX zl_X16_41 dX16_join_54 g ?_
  refine zw_iload_n hX dX16_join_57 rfl ?_
  refine zw_iload_n hX dX16_join_58 rfl ?_
  obtain ⟨S12, g, h⟩ := zb_some h
  refine zw_si hX dX16_join_59 g ?_
  refine zw_aload_n hX dX16_join_60 rfl ?_
  obtain ⟨b13, g, h⟩ := zb_some h
  refine zw_getr hX zl_X16_41 dX16_join_61 g ?_
  refine zw_iload_n hX dX16_join_64 rfl ?_
  refine zw_iload_n hX dX16_join_65 rfl ?_
  obtain ⟨S14, g, h⟩ := zb_some h
  refine zw_si hX dX16_join_66 g ?_
  refine zw_iload hX dX16_join_67 rfl ?_
  by_cases cz : t0 = 0 ∨ t0 = 1
  · rw [if_pos cz] at h
    obtain rfl := Option.some.inj h
    exact zw_iret hX hr dX16_join_69 (zn_z cz) ⟨rfl, rfl⟩
  · rw [if_neg cz] at h
    cases h
set_option maxHeartbeats 4000000 in
set_option maxRecDepth 100000 in
theorem zt_X16_join_J30 {p : Program} {l : Launch} {e : Env} {R : Room} {s : State} {m : MethodId} {args : Array Value} {below : List Frame} {meth : Method} {c : Code} {V : zm_V} {mc ms d rc rs : Nat} (hX : zm_X p R s m args meth c RX16 "join" cX16_join 5 zk_E V mc ms) (hr : meth.sig.returnType = (some .boolean)) (hR : R.frames = d ∧ R.locals = 64 * d) (hd : 1 ≤ d) {N : Nat} {a0 : Nat} {i1 : Int32} {i2 : Int32} {t0 : Int32} {out : (Int32 × zm_S)} {S : zm_S} (h : zf_X16_join_J30 N a0 i1 i2 t0 S = some out) : zw p l e R s m args below meth c (vx_MQ below (zm_Qc zk_E V (zo_i out)) (zm_XC zk_E V zo_x) args s mc ms (fun q => V.2.2.2.1 ≤ q)) 5 zk_E V mc ms 30 [(0, .ref a0), (1, .int i1), (2, .int i2)] [.int t0] S rc rs := by
  unfold zf_X16_join_J30 at h
  refine zw_istore_n hX dX16_join_30 (by decide) ?_
  refine zw_aload_n hX dX16_join_31 rfl ?_
  obtain ⟨b7, g, h⟩ := zb_some h
  refine zw_getr hX zl_X16_41 dX16_join_32 g ?_
  refine zw_iload_n hX dX16_join_35 rfl ?_
  obtain ⟨v8, g, h⟩ := zb_some h
  refine zw_xi hX dX16_join_36 g ?_
  refine zw_aload_n hX dX16_join_37 rfl ?_
  obtain ⟨b9, g, h⟩ := zb_some h
  refine zw_getr hX zl_X16_41 dX16_join_38 g ?_
  refine zw_iload_n hX dX16_join_41 rfl ?_
  obtain ⟨v10, g, h⟩ := zb_some h
  refine zw_xi hX dX16_join_42 g ?_
  refine zw_icmp_eq (tgt := 50) hX dX16_join_43 (by decide) (fun c43 => ?_) (fun c43 => ?_)
  · rw [if_pos c43] at h
    refine zw_iconst (v := (0 : Int32)) hX dX16_join_50 (by decide) ?_
    refine zw_sub (lv' := [(0, .ref a0), (1, .int i1), (2, .int i2), (3, .int t0)]) (List.forall_mem_cons.mpr ⟨rfl, (List.forall_mem_cons.mpr ⟨rfl, (List.forall_mem_cons.mpr ⟨rfl, (List.forall_mem_cons.mpr ⟨rfl, zs_nil⟩)⟩)⟩)⟩) ?_
    exact zt_X16_join_J51 hX hr hR hd h
  · rw [if_neg c43] at h
    refine zw_iconst (v := (1 : Int32)) hX dX16_join_46 (by decide) ?_
    refine zw_goto (tgt := 51) hX dX16_join_47 (by decide) ?_
    refine zw_sub (lv' := [(0, .ref a0), (1, .int i1), (2, .int i2), (3, .int t0)]) (List.forall_mem_cons.mpr ⟨rfl, (List.forall_mem_cons.mpr ⟨rfl, (List.forall_mem_cons.mpr ⟨rfl, (List.forall_mem_cons.mpr ⟨rfl, zs_nil⟩)⟩)⟩)⟩) ?_
    exact zt_X16_join_J51 hX hr hR hd h
set_option maxHeartbeats 4000000 in
set_option maxRecDepth 100000 in
theorem zt_X16_join {l : Launch} {V : zm_V} {N : Nat} {S : zm_S} {out : (Int32 × zm_S)} {d : Nat} {a0 : Nat} {i1 : Int32} {i2 : Int32} (hd : 1 ≤ d) (h : zf_X16_join N a0 i1 i2 S = some out) : zm_Met l zk_E V yX16_join (.code yX16_join cX16_join 5 (some .boolean)) d [.ref a0, .int i1, .int i2] S 0 0 (zo_i out) zo_x := by
  refine zm_of (by decide +kernel) (Nat.le_of_ble_eq_true rfl) ?_
  intro p e R s m args below meth c hRR hX hr hxt
  have hR : R.frames = d ∧ R.locals = 64 * d := by rw [hRR]; exact ⟨rfl, rfl⟩
  have hX : zm_X p R s m args meth c RX16 "join" cX16_join 5 zk_E V 0 0 := hX
  unfold zf_X16_join at h
  refine zw_sub (lv' := [(0, .ref a0), (1, .int i1), (2, .int i2)]) (List.forall_mem_cons.mpr ⟨rfl, (List.forall_mem_cons.mpr ⟨rfl, (List.forall_mem_cons.mpr ⟨rfl, zs_nil⟩)⟩)⟩) ?_
  refine zw_aload_n hX dX16_join_0 rfl ?_
  obtain ⟨b1, g, h⟩ := zb_some h
  refine zw_getr hX zl_X16_41 dX16_join_1 g ?_
  refine zw_iload_n hX dX16_join_4 rfl ?_
  obtain ⟨v2, g, h⟩ := zb_some h
  refine zw_xi hX dX16_join_5 g ?_
  refine zw_aload_n hX dX16_join_6 rfl ?_
  obtain ⟨b3, g, h⟩ := zb_some h
  refine zw_getr hX zl_X16_41 dX16_join_7 g ?_
  refine zw_iload_n hX dX16_join_10 rfl ?_
  obtain ⟨v4, g, h⟩ := zb_some h
  refine zw_xi hX dX16_join_11 g ?_
  refine zw_icmp_ge (tgt := 24) hX dX16_join_12 (by decide) (fun c12 => ?_) (fun c12 => ?_)
  · rw [if_pos c12] at h
    refine zw_aload_n hX dX16_join_24 rfl ?_
    obtain ⟨b5, g, h⟩ := zb_some h
    refine zw_getr hX zl_X16_41 dX16_join_25 g ?_
    refine zw_iload_n hX dX16_join_28 rfl ?_
    obtain ⟨v6, g, h⟩ := zb_some h
    refine zw_xi hX dX16_join_29 g ?_
    refine zw_sub (lv' := [(0, .ref a0), (1, .int i1), (2, .int i2)]) (List.forall_mem_cons.mpr ⟨rfl, (List.forall_mem_cons.mpr ⟨rfl, (List.forall_mem_cons.mpr ⟨rfl, zs_nil⟩)⟩)⟩) ?_
    exact zt_X16_join_J30 hX hr hR hd h
  · rw [if_neg c12] at h
    refine zw_aload_n hX dX16_join_15 rfl ?_
    obtain ⟨b15, g, h⟩ := zb_some h
    refine zw_getr hX zl_X16_41 dX16_join_16 g ?_
    refine zw_iload_n hX dX16_join_19 rfl ?_
    obtain ⟨v16, g, h⟩ := zb_some h
    refine zw_xi hX dX16_join_20 g ?_
    refine zw_goto (tgt := 30) hX dX16_join_21 (by decide) ?_
    refine zw_sub (lv' := [(0, .ref a0), (1, .int i1), (2, .int i2)]) (List.forall_mem_cons.mpr ⟨rfl, (List.forall_mem_cons.mpr ⟨rfl, (List.forall_mem_cons.mpr ⟨rfl, zs_nil⟩)⟩)⟩) ?_
    exact zt_X16_join_J30 hX hr hR hd h
set_option maxHeartbeats 4000000 in
set_option maxRecDepth 100000 in
theorem zt_X16_fill_L2 {p : Program} {l : Launch} {e : Env} {R : Room} {s : State} {m : MethodId} {args : Array Value} {below : List Frame} {meth : Method} {c : Code} {V : zm_V} {mc ms d rc rs : Nat} (hX : zm_X p R s m args meth c RX16 "fill" cX16_fill 5 zk_E V mc ms) (hr : meth.sig.returnType = none) (hR : R.frames = d ∧ R.locals = 64 * d) (hd : 3 ≤ d) {N : Nat} {res : (Unit × zm_S) ⊕ ((Unit) × zm_S)} {out : (Unit × zm_S)} (a0 : Nat) (hf : ∀ o, res = .inl o → o = out) (hk : ∀ (S' : zm_S), res = .inr ((), S') → zw p l e R s m args below meth c (vx_MQ below (zm_Qc zk_E V (zo_v out)) (zm_XC zk_E V zo_x) args s mc ms (fun q => V.2.2.2.1 ≤ q)) 5 zk_E V mc ms 22 [(0, .ref a0)] [] S' rc rs) : ∀ (n : Nat) (i1 : Int32) (S : zm_S), zf_X16_fill_L2 N n a0 i1 S = some res → zw p l e R s m args below meth c (vx_MQ below (zm_Qc zk_E V (zo_v out)) (zm_XC zk_E V zo_x) args s mc ms (fun q => V.2.2.2.1 ≤ q)) 5 zk_E V mc ms 2 [(0, .ref a0), (1, .int i1)] [] S rc rs := by
  intro n
  induction n with
  | zero => intro i1 S h; cases h
  | succ n ih =>
    intro i1 S h
    rw [zf_X16_fill_L2] at h
    refine zw_iload_n hX dX16_fill_2 rfl ?_
    refine zw_sipush (v := (1764 : Int32)) hX dX16_fill_3 (by decide) ?_
    refine zw_icmp_ge (tgt := 22) hX dX16_fill_6 (by decide) (fun c6 => ?_) (fun c6 => ?_)
    · rw [if_pos c6] at h
      refine zw_sub (lv' := [(0, .ref a0)]) (List.forall_mem_cons.mpr ⟨rfl, zs_nil⟩) ?_
      exact hk  _ (Option.some.inj h).symm
    · rw [if_neg c6] at h
      refine zw_aload_n hX dX16_fill_9 rfl ?_
      obtain ⟨b1, g, h⟩ := zb_some h
      refine zw_getr hX zl_X16_41 dX16_fill_10 g ?_
      refine zw_iload_n hX dX16_fill_13 rfl ?_
      refine zw_iload_n hX dX16_fill_14 rfl ?_
      obtain ⟨S2, g, h⟩ := zb_some h
      refine zw_si hX dX16_fill_15 g ?_
      refine zw_iinc (v := (i1 + (1 : Int32))) hX dX16_fill_16 rfl rfl (by decide) ?_
      refine zw_goto (tgt := 2) hX dX16_fill_19 (by decide) ?_
      refine zw_sub (lv' := [(0, .ref a0), (1, .int (i1 + (1 : Int32)))]) (List.forall_mem_cons.mpr ⟨rfl, (List.forall_mem_cons.mpr ⟨rfl, zs_nil⟩)⟩) ?_
      exact ih _ _ h
set_option maxHeartbeats 4000000 in
set_option maxRecDepth 100000 in
theorem zt_X16_fill_J135 {p : Program} {l : Launch} {e : Env} {R : Room} {s : State} {m : MethodId} {args : Array Value} {below : List Frame} {meth : Method} {c : Code} {V : zm_V} {mc ms d rc rs : Nat} (hX : zm_X p R s m args meth c RX16 "fill" cX16_fill 5 zk_E V mc ms) (hr : meth.sig.returnType = none) (hR : R.frames = d ∧ R.locals = 64 * d) (hd : 3 ≤ d) {N : Nat} {k : Nat → Int32 → Int32 → Int32 → zm_S → Option ((Unit × zm_S) ⊕ ((Int32) × zm_S))} {a0 : Nat} {i2 : Int32} {i3 : Int32} {t0 : Int32} {t1 : Int32} {res : (Unit × zm_S) ⊕ ((Int32) × zm_S)} {out : (Unit × zm_S)}   (hf : ∀ o, res = .inl o → o = out) (hk : ∀ (x1 : Int32) (S' : zm_S), res = .inr (x1, S') → zw p l e R s m args below meth c (vx_MQ below (zm_Qc zk_E V (zo_v out)) (zm_XC zk_E V zo_x) args s mc ms (fun q => V.2.2.2.1 ≤ q)) 5 zk_E V mc ms 143 [(0, .ref a0), (1, .int x1), (2, .int i2)] [] S' rc rs) (hrec : ∀ (i1' : Int32) (i3' : Int32) (S : zm_S), k a0 i1' i2 i3' S = some res → zw p l e R s m args below meth c (vx_MQ below (zm_Qc zk_E V (zo_v out)) (zm_XC zk_E V zo_x) args s mc ms (fun q => V.2.2.2.1 ≤ q)) 5 zk_E V mc ms 42 [(0, .ref a0), (1, .int i1'), (2, .int i2), (3, .int i3')] [] S rc rs) {S : zm_S} (h : zf_X16_fill_J135 N k a0 i2 i3 t0 t1 S = some res) : zw p l e R s m args below meth c (vx_MQ below (zm_Qc zk_E V (zo_v out)) (zm_XC zk_E V zo_x) args s mc ms (fun q => V.2.2.2.1 ≤ q)) 5 zk_E V mc ms 135 [(0, .ref a0), (2, .int i2), (3, .int i3)] [.int t1, .int t0] S rc rs := by
  unfold zf_X16_fill_J135 at h
  refine zw_ior hX dX16_fill_135 ?_
  refine zw_istore_n hX dX16_fill_136 (by decide) ?_
  refine zw_iinc (v := (i3 + (1 : Int32))) hX dX16_fill_137 rfl rfl (by decide) ?_
  refine zw_goto (tgt := 42) hX dX16_fill_140 (by decide) ?_
  refine zw_sub (lv' := [(0, .ref a0), (1, .int (t0 ||| t1)), (2, .int i2), (3, .int (i3 + (1 : Int32)))]) (List.forall_mem_cons.mpr ⟨rfl, (List.forall_mem_cons.mpr ⟨rfl, (List.forall_mem_cons.mpr ⟨rfl, (List.forall_mem_cons.mpr ⟨rfl, zs_nil⟩)⟩)⟩)⟩) ?_
  exact hrec _ _ _ h
set_option maxHeartbeats 4000000 in
set_option maxRecDepth 100000 in
theorem zt_X16_fill_J134 {p : Program} {l : Launch} {e : Env} {R : Room} {s : State} {m : MethodId} {args : Array Value} {below : List Frame} {meth : Method} {c : Code} {V : zm_V} {mc ms d rc rs : Nat} (hX : zm_X p R s m args meth c RX16 "fill" cX16_fill 5 zk_E V mc ms) (hr : meth.sig.returnType = none) (hR : R.frames = d ∧ R.locals = 64 * d) (hd : 3 ≤ d) {N : Nat} {k : Nat → Int32 → Int32 → Int32 → zm_S → Option ((Unit × zm_S) ⊕ ((Int32) × zm_S))} {a0 : Nat} {i2 : Int32} {i3 : Int32} {t0 : Int32} {res : (Unit × zm_S) ⊕ ((Int32) × zm_S)} {out : (Unit × zm_S)}   (hf : ∀ o, res = .inl o → o = out) (hk : ∀ (x1 : Int32) (S' : zm_S), res = .inr (x1, S') → zw p l e R s m args below meth c (vx_MQ below (zm_Qc zk_E V (zo_v out)) (zm_XC zk_E V zo_x) args s mc ms (fun q => V.2.2.2.1 ≤ q)) 5 zk_E V mc ms 143 [(0, .ref a0), (1, .int x1), (2, .int i2)] [] S' rc rs) (hrec : ∀ (i1' : Int32) (i3' : Int32) (S : zm_S), k a0 i1' i2 i3' S = some res → zw p l e R s m args below meth c (vx_MQ below (zm_Qc zk_E V (zo_v out)) (zm_XC zk_E V zo_x) args s mc ms (fun q => V.2.2.2.1 ≤ q)) 5 zk_E V mc ms 42 [(0, .ref a0), (1, .int i1'), (2, .int i2), (3, .int i3')] [] S rc rs) {S : zm_S} (h : zf_X16_fill_J134 N k a0 i2 i3 t0 S = some res) : zw p l e R s m args below meth c (vx_MQ below (zm_Qc zk_E V (zo_v out)) (zm_XC zk_E V zo_x) args s mc ms (fun q => V.2.2.2.1 ≤ q)) 5 zk_E V mc ms 134 [(0, .ref a0), (2, .int i2), (3, .int i3)] [.int t0] S rc rs := by
  unfold zf_X16_fill_J134 at h
  refine zw_iconst (v := (0 : Int32)) hX dX16_fill_134 (by decide) ?_
  refine zw_sub (lv' := [(0, .ref a0), (2, .int i2), (3, .int i3)]) (List.forall_mem_cons.mpr ⟨rfl, (List.forall_mem_cons.mpr ⟨rfl, (List.forall_mem_cons.mpr ⟨rfl, zs_nil⟩)⟩)⟩) ?_
  exact zt_X16_fill_J135 hX hr hR hd hf hk hrec h
set_option maxHeartbeats 4000000 in
set_option maxRecDepth 100000 in
theorem zt_X16_fill_J95 {p : Program} {l : Launch} {e : Env} {R : Room} {s : State} {m : MethodId} {args : Array Value} {below : List Frame} {meth : Method} {c : Code} {V : zm_V} {mc ms d rc rs : Nat} (hX : zm_X p R s m args meth c RX16 "fill" cX16_fill 5 zk_E V mc ms) (hr : meth.sig.returnType = none) (hR : R.frames = d ∧ R.locals = 64 * d) (hd : 3 ≤ d) {N : Nat} {k : Nat → Int32 → Int32 → Int32 → zm_S → Option ((Unit × zm_S) ⊕ ((Int32) × zm_S))} {a0 : Nat} {i2 : Int32} {i3 : Int32} {i4 : Int32} {t0 : Int32} {t1 : Int32} {res : (Unit × zm_S) ⊕ ((Int32) × zm_S)} {out : (Unit × zm_S)}   (hf : ∀ o, res = .inl o → o = out) (hk : ∀ (x1 : Int32) (S' : zm_S), res = .inr (x1, S') → zw p l e R s m args below meth c (vx_MQ below (zm_Qc zk_E V (zo_v out)) (zm_XC zk_E V zo_x) args s mc ms (fun q => V.2.2.2.1 ≤ q)) 5 zk_E V mc ms 143 [(0, .ref a0), (1, .int x1), (2, .int i2)] [] S' rc rs) (hrec : ∀ (i1' : Int32) (i3' : Int32) (S : zm_S), k a0 i1' i2 i3' S = some res → zw p l e R s m args below meth c (vx_MQ below (zm_Qc zk_E V (zo_v out)) (zm_XC zk_E V zo_x) args s mc ms (fun q => V.2.2.2.1 ≤ q)) 5 zk_E V mc ms 42 [(0, .ref a0), (1, .int i1'), (2, .int i2), (3, .int i3')] [] S rc rs) {S : zm_S} (h : zf_X16_fill_J95 N k a0 i2 i3 i4 t0 t1 S = some res) : zw p l e R s m args below meth c (vx_MQ below (zm_Qc zk_E V (zo_v out)) (zm_XC zk_E V zo_x) args s mc ms (fun q => V.2.2.2.1 ≤ q)) 5 zk_E V mc ms 95 [(0, .ref a0), (2, .int i2), (3, .int i3), (4, .int i4)] [.int t1, .int t0] S rc rs := by
  unfold zf_X16_fill_J95 at h
  refine zw_ior hX dX16_fill_95 ?_
  refine zw_istore_n hX dX16_fill_96 (by decide) ?_
  refine zw_iload_n hX dX16_fill_97 rfl ?_
  refine zw_iload_n hX dX16_fill_98 rfl ?_
  refine zw_aload_n hX dX16_fill_99 rfl ?_
  obtain ⟨v7, g, h⟩ := zb_some h
  refine zw_geti hX zl_X16_115 dX16_fill_100 g ?_
  refine zw_icmp_ge (tgt := 134) hX dX16_fill_103 (by decide) (fun c103 => ?_) (fun c103 => ?_)
  · rw [if_pos c103] at h
    refine zw_sub (lv' := [(0, .ref a0), (2, .int i2), (3, .int i3)]) (List.forall_mem_cons.mpr ⟨rfl, (List.forall_mem_cons.mpr ⟨rfl, (List.forall_mem_cons.mpr ⟨rfl, zs_nil⟩)⟩)⟩) ?_
    exact zt_X16_fill_J134 hX hr hR hd hf hk hrec h
  · rw [if_neg c103] at h
    refine zw_aload_n hX dX16_fill_106 rfl ?_
    refine zw_iload_n hX dX16_fill_107 rfl ?_
    refine zw_iload_n hX dX16_fill_108 rfl ?_
    refine zw_iconst (v := (0 : Int32)) hX dX16_fill_109 (by decide) ?_
    obtain ⟨_, gi, h⟩ := zb_some h
    obtain ⟨r9, g, h⟩ := zb_some h
    refine zc_Vi (as := [.int i3, .int i2, .int (0 : Int32)]) hX gi (zt_X16_isShut (d := d - 1) (by omega) g) zl_X16_121 rfl dX16_fill_110 ⟨rfl, rfl, Nat.le_of_ble_eq_true rfl⟩ ⟨by omega, by omega⟩ ?_
    refine zw_if_ne (tgt := 134) hX dX16_fill_113 (by decide) (fun c113 => ?_) (fun c113 => ?_)
    · rw [if_neg c113] at h
      refine zw_sub (lv' := [(0, .ref a0), (2, .int i2), (3, .int i3)]) (List.forall_mem_cons.mpr ⟨rfl, (List.forall_mem_cons.mpr ⟨rfl, (List.forall_mem_cons.mpr ⟨rfl, zs_nil⟩)⟩)⟩) ?_
      exact zt_X16_fill_J134 hX hr hR hd hf hk hrec h
    · rw [if_pos c113] at h
      refine zw_aload_n hX dX16_fill_116 rfl ?_
      refine zw_iload hX dX16_fill_117 rfl ?_
      refine zw_iload hX dX16_fill_119 rfl ?_
      refine zw_bipush (v := (42 : Int32)) hX dX16_fill_121 (by decide) ?_
      refine zw_iadd hX dX16_fill_123 ?_
      obtain ⟨_, gi, h⟩ := zb_some h
      obtain ⟨r11, g, h⟩ := zb_some h
      refine zc_Vi (as := [.int i4, .int (i4 + (42 : Int32))]) hX gi (zt_X16_join (d := d - 1) (by omega) g) zl_X16_125 rfl dX16_fill_124 ⟨rfl, rfl, Nat.le_of_ble_eq_true rfl⟩ ⟨by omega, by omega⟩ ?_
      refine zw_if_eq (tgt := 134) hX dX16_fill_127 (by decide) (fun c127 => ?_) (fun c127 => ?_)
      · rw [if_pos c127] at h
        refine zw_sub (lv' := [(0, .ref a0), (2, .int i2), (3, .int i3)]) (List.forall_mem_cons.mpr ⟨rfl, (List.forall_mem_cons.mpr ⟨rfl, (List.forall_mem_cons.mpr ⟨rfl, zs_nil⟩)⟩)⟩) ?_
        exact zt_X16_fill_J134 hX hr hR hd hf hk hrec h
      · rw [if_neg c127] at h
        refine zw_iconst (v := (1 : Int32)) hX dX16_fill_130 (by decide) ?_
        refine zw_goto (tgt := 135) hX dX16_fill_131 (by decide) ?_
        refine zw_sub (lv' := [(0, .ref a0), (2, .int i2), (3, .int i3)]) (List.forall_mem_cons.mpr ⟨rfl, (List.forall_mem_cons.mpr ⟨rfl, (List.forall_mem_cons.mpr ⟨rfl, zs_nil⟩)⟩)⟩) ?_
        exact zt_X16_fill_J135 hX hr hR hd hf hk hrec h
set_option maxHeartbeats 4000000 in
set_option maxRecDepth 100000 in
theorem zt_X16_fill_J94 {p : Program} {l : Launch} {e : Env} {R : Room} {s : State} {m : MethodId} {args : Array Value} {below : List Frame} {meth : Method} {c : Code} {V : zm_V} {mc ms d rc rs : Nat} (hX : zm_X p R s m args meth c RX16 "fill" cX16_fill 5 zk_E V mc ms) (hr : meth.sig.returnType = none) (hR : R.frames = d ∧ R.locals = 64 * d) (hd : 3 ≤ d) {N : Nat} {k : Nat → Int32 → Int32 → Int32 → zm_S → Option ((Unit × zm_S) ⊕ ((Int32) × zm_S))} {a0 : Nat} {i2 : Int32} {i3 : Int32} {i4 : Int32} {t0 : Int32} {res : (Unit × zm_S) ⊕ ((Int32) × zm_S)} {out : (Unit × zm_S)}   (hf : ∀ o, res = .inl o → o = out) (hk : ∀ (x1 : Int32) (S' : zm_S), res = .inr (x1, S') → zw p l e R s m args below meth c (vx_MQ below (zm_Qc zk_E V (zo_v out)) (zm_XC zk_E V zo_x) args s mc ms (fun q => V.2.2.2.1 ≤ q)) 5 zk_E V mc ms 143 [(0, .ref a0), (1, .int x1), (2, .int i2)] [] S' rc rs) (hrec : ∀ (i1' : Int32) (i3' : Int32) (S : zm_S), k a0 i1' i2 i3' S = some res → zw p l e R s m args below meth c (vx_MQ below (zm_Qc zk_E V (zo_v out)) (zm_XC zk_E V zo_x) args s mc ms (fun q => V.2.2.2.1 ≤ q)) 5 zk_E V mc ms 42 [(0, .ref a0), (1, .int i1'), (2, .int i2), (3, .int i3')] [] S rc rs) {S : zm_S} (h : zf_X16_fill_J94 N k a0 i2 i3 i4 t0 S = some res) : zw p l e R s m args below meth c (vx_MQ below (zm_Qc zk_E V (zo_v out)) (zm_XC zk_E V zo_x) args s mc ms (fun q => V.2.2.2.1 ≤ q)) 5 zk_E V mc ms 94 [(0, .ref a0), (2, .int i2), (3, .int i3), (4, .int i4)] [.int t0] S rc rs := by
  unfold zf_X16_fill_J94 at h
  refine zw_iconst (v := (0 : Int32)) hX dX16_fill_94 (by decide) ?_
  refine zw_sub (lv' := [(0, .ref a0), (2, .int i2), (3, .int i3), (4, .int i4)]) (List.forall_mem_cons.mpr ⟨rfl, (List.forall_mem_cons.mpr ⟨rfl, (List.forall_mem_cons.mpr ⟨rfl, (List.forall_mem_cons.mpr ⟨rfl, zs_nil⟩)⟩)⟩)⟩) ?_
  exact zt_X16_fill_J95 hX hr hR hd hf hk hrec h
set_option maxHeartbeats 4000000 in
set_option maxRecDepth 100000 in
theorem zt_X16_fill_L42 {p : Program} {l : Launch} {e : Env} {R : Room} {s : State} {m : MethodId} {args : Array Value} {below : List Frame} {meth : Method} {c : Code} {V : zm_V} {mc ms d rc rs : Nat} (hX : zm_X p R s m args meth c RX16 "fill" cX16_fill 5 zk_E V mc ms) (hr : meth.sig.returnType = none) (hR : R.frames = d ∧ R.locals = 64 * d) (hd : 3 ≤ d) {N : Nat} {res : (Unit × zm_S) ⊕ ((Int32) × zm_S)} {out : (Unit × zm_S)} (a0 : Nat) (i2 : Int32) (hf : ∀ o, res = .inl o → o = out) (hk : ∀ (x1 : Int32) (S' : zm_S), res = .inr (x1, S') → zw p l e R s m args below meth c (vx_MQ below (zm_Qc zk_E V (zo_v out)) (zm_XC zk_E V zo_x) args s mc ms (fun q => V.2.2.2.1 ≤ q)) 5 zk_E V mc ms 143 [(0, .ref a0), (1, .int x1), (2, .int i2)] [] S' rc rs) : ∀ (n : Nat) (i1 : Int32) (i3 : Int32) (S : zm_S), zf_X16_fill_L42 N n a0 i1 i2 i3 S = some res → zw p l e R s m args below meth c (vx_MQ below (zm_Qc zk_E V (zo_v out)) (zm_XC zk_E V zo_x) args s mc ms (fun q => V.2.2.2.1 ≤ q)) 5 zk_E V mc ms 42 [(0, .ref a0), (1, .int i1), (2, .int i2), (3, .int i3)] [] S rc rs := by
  intro n
  induction n with
  | zero => intro i1 i3 S h; cases h
  | succ n ih =>
    intro i1 i3 S h
    rw [zf_X16_fill_L42] at h
    refine zw_iload_n hX dX16_fill_42 rfl ?_
    refine zw_aload_n hX dX16_fill_43 rfl ?_
    obtain ⟨v5, g, h⟩ := zb_some h
    refine zw_geti hX zl_X16_118 dX16_fill_44 g ?_
    refine zw_icmp_gt (tgt := 143) hX dX16_fill_47 (by decide) (fun c47 => ?_) (fun c47 => ?_)
    · rw [if_pos c47] at h
      refine zw_sub (lv' := [(0, .ref a0), (1, .int i1), (2, .int i2)]) (List.forall_mem_cons.mpr ⟨rfl, (List.forall_mem_cons.mpr ⟨rfl, (List.forall_mem_cons.mpr ⟨rfl, zs_nil⟩)⟩)⟩) ?_
      exact hk _ _ (Option.some.inj h).symm
    · rw [if_neg c47] at h
      refine zw_bipush (v := (42 : Int32)) hX dX16_fill_50 (by decide) ?_
      refine zw_iload_n hX dX16_fill_52 rfl ?_
      refine zw_imul hX dX16_fill_53 ?_
      refine zw_iload_n hX dX16_fill_54 rfl ?_
      refine zw_iadd hX dX16_fill_55 ?_
      refine zw_istore hX dX16_fill_56 (by decide) ?_
      refine zw_iload_n hX dX16_fill_58 rfl ?_
      refine zw_iload_n hX dX16_fill_59 rfl ?_
      refine zw_aload_n hX dX16_fill_60 rfl ?_
      obtain ⟨v6, g, h⟩ := zb_some h
      refine zw_geti hX zl_X16_118 dX16_fill_61 g ?_
      refine zw_icmp_ge (tgt := 94) hX dX16_fill_64 (by decide) (fun c64 => ?_) (fun c64 => ?_)
      · rw [if_pos c64] at h
        refine zw_sub (lv' := [(0, .ref a0), (2, .int i2), (3, .int i3), (4, .int (((42 : Int32) * i2) + i3))]) (List.forall_mem_cons.mpr ⟨rfl, (List.forall_mem_cons.mpr ⟨rfl, (List.forall_mem_cons.mpr ⟨rfl, (List.forall_mem_cons.mpr ⟨rfl, zs_nil⟩)⟩)⟩)⟩) ?_
        exact zt_X16_fill_J94 hX hr hR hd hf hk ih h
      · rw [if_neg c64] at h
        refine zw_aload_n hX dX16_fill_67 rfl ?_
        refine zw_iload_n hX dX16_fill_68 rfl ?_
        refine zw_iload_n hX dX16_fill_69 rfl ?_
        refine zw_iconst (v := (1 : Int32)) hX dX16_fill_70 (by decide) ?_
        obtain ⟨_, gi, h⟩ := zb_some h
        obtain ⟨r13, g, h⟩ := zb_some h
        refine zc_Vi (as := [.int i3, .int i2, .int (1 : Int32)]) hX gi (zt_X16_isShut (d := d - 1) (by omega) g) zl_X16_121 rfl dX16_fill_71 ⟨rfl, rfl, Nat.le_of_ble_eq_true rfl⟩ ⟨by omega, by omega⟩ ?_
        refine zw_if_ne (tgt := 94) hX dX16_fill_74 (by decide) (fun c74 => ?_) (fun c74 => ?_)
        · rw [if_neg c74] at h
          refine zw_sub (lv' := [(0, .ref a0), (2, .int i2), (3, .int i3), (4, .int (((42 : Int32) * i2) + i3))]) (List.forall_mem_cons.mpr ⟨rfl, (List.forall_mem_cons.mpr ⟨rfl, (List.forall_mem_cons.mpr ⟨rfl, (List.forall_mem_cons.mpr ⟨rfl, zs_nil⟩)⟩)⟩)⟩) ?_
          exact zt_X16_fill_J94 hX hr hR hd hf hk ih h
        · rw [if_pos c74] at h
          refine zw_aload_n hX dX16_fill_77 rfl ?_
          refine zw_iload hX dX16_fill_78 rfl ?_
          refine zw_iload hX dX16_fill_80 rfl ?_
          refine zw_iconst (v := (1 : Int32)) hX dX16_fill_82 (by decide) ?_
          refine zw_iadd hX dX16_fill_83 ?_
          obtain ⟨_, gi, h⟩ := zb_some h
          obtain ⟨r15, g, h⟩ := zb_some h
          refine zc_Vi (as := [.int (((42 : Int32) * i2) + i3), .int ((((42 : Int32) * i2) + i3) + (1 : Int32))]) hX gi (zt_X16_join (d := d - 1) (by omega) g) zl_X16_125 rfl dX16_fill_84 ⟨rfl, rfl, Nat.le_of_ble_eq_true rfl⟩ ⟨by omega, by omega⟩ ?_
          refine zw_if_eq (tgt := 94) hX dX16_fill_87 (by decide) (fun c87 => ?_) (fun c87 => ?_)
          · rw [if_pos c87] at h
            refine zw_sub (lv' := [(0, .ref a0), (2, .int i2), (3, .int i3), (4, .int (((42 : Int32) * i2) + i3))]) (List.forall_mem_cons.mpr ⟨rfl, (List.forall_mem_cons.mpr ⟨rfl, (List.forall_mem_cons.mpr ⟨rfl, (List.forall_mem_cons.mpr ⟨rfl, zs_nil⟩)⟩)⟩)⟩) ?_
            exact zt_X16_fill_J94 hX hr hR hd hf hk ih h
          · rw [if_neg c87] at h
            refine zw_iconst (v := (1 : Int32)) hX dX16_fill_90 (by decide) ?_
            refine zw_goto (tgt := 95) hX dX16_fill_91 (by decide) ?_
            refine zw_sub (lv' := [(0, .ref a0), (2, .int i2), (3, .int i3), (4, .int (((42 : Int32) * i2) + i3))]) (List.forall_mem_cons.mpr ⟨rfl, (List.forall_mem_cons.mpr ⟨rfl, (List.forall_mem_cons.mpr ⟨rfl, (List.forall_mem_cons.mpr ⟨rfl, zs_nil⟩)⟩)⟩)⟩) ?_
            exact zt_X16_fill_J95 hX hr hR hd hf hk ih h
set_option maxHeartbeats 4000000 in
set_option maxRecDepth 100000 in
theorem zt_X16_fill_L32 {p : Program} {l : Launch} {e : Env} {R : Room} {s : State} {m : MethodId} {args : Array Value} {below : List Frame} {meth : Method} {c : Code} {V : zm_V} {mc ms d rc rs : Nat} (hX : zm_X p R s m args meth c RX16 "fill" cX16_fill 5 zk_E V mc ms) (hr : meth.sig.returnType = none) (hR : R.frames = d ∧ R.locals = 64 * d) (hd : 3 ≤ d) {N : Nat} {res : (Unit × zm_S) ⊕ ((Int32) × zm_S)} {out : (Unit × zm_S)} (a0 : Nat) (hf : ∀ o, res = .inl o → o = out) (hk : ∀ (x1 : Int32) (S' : zm_S), res = .inr (x1, S') → zw p l e R s m args below meth c (vx_MQ below (zm_Qc zk_E V (zo_v out)) (zm_XC zk_E V zo_x) args s mc ms (fun q => V.2.2.2.1 ≤ q)) 5 zk_E V mc ms 149 [(0, .ref a0), (1, .int x1)] [] S' rc rs) : ∀ (n : Nat) (i1 : Int32) (i2 : Int32) (S : zm_S), zf_X16_fill_L32 N n a0 i1 i2 S = some res → zw p l e R s m args below meth c (vx_MQ below (zm_Qc zk_E V (zo_v out)) (zm_XC zk_E V zo_x) args s mc ms (fun q => V.2.2.2.1 ≤ q)) 5 zk_E V mc ms 32 [(0, .ref a0), (1, .int i1), (2, .int i2)] [] S rc rs := by
  intro n
  induction n with
  | zero => intro i1 i2 S h; cases h
  | succ n ih =>
    intro i1 i2 S h
    rw [zf_X16_fill_L32] at h
    refine zw_iload_n hX dX16_fill_32 rfl ?_
    refine zw_aload_n hX dX16_fill_33 rfl ?_
    obtain ⟨v4, g, h⟩ := zb_some h
    refine zw_geti hX zl_X16_115 dX16_fill_34 g ?_
    refine zw_icmp_gt (tgt := 149) hX dX16_fill_37 (by decide) (fun c37 => ?_) (fun c37 => ?_)
    · rw [if_pos c37] at h
      refine zw_sub (lv' := [(0, .ref a0), (1, .int i1)]) (List.forall_mem_cons.mpr ⟨rfl, (List.forall_mem_cons.mpr ⟨rfl, zs_nil⟩)⟩) ?_
      exact hk _ _ (Option.some.inj h).symm
    · rw [if_neg c37] at h
      refine zw_iconst (v := (0 : Int32)) hX dX16_fill_40 (by decide) ?_
      refine zw_istore_n hX dX16_fill_41 (by decide) ?_
      obtain ⟨r, g, h⟩ := zb_some h
      refine zw_sub (lv' := [(0, .ref a0), (1, .int i1), (2, .int i2), (3, .int (0 : Int32))]) (List.forall_mem_cons.mpr ⟨rfl, (List.forall_mem_cons.mpr ⟨rfl, (List.forall_mem_cons.mpr ⟨rfl, (List.forall_mem_cons.mpr ⟨rfl, zs_nil⟩)⟩)⟩)⟩) ?_
      refine zt_X16_fill_L42 hX hr hR hd (res := r) (out := out) a0 i2 ?_ ?_ N _ _ _ g
      · intro o ho
        subst ho
        exact hf _ (Option.some.inj h).symm
      · intro v17 S16 hx
        subst hx
        try dsimp only at h
        refine zw_iinc (v := (i2 + (1 : Int32))) hX dX16_fill_143 rfl rfl (by decide) ?_
        refine zw_goto (tgt := 32) hX dX16_fill_146 (by decide) ?_
        refine zw_sub (lv' := [(0, .ref a0), (1, .int v17), (2, .int (i2 + (1 : Int32)))]) (List.forall_mem_cons.mpr ⟨rfl, (List.forall_mem_cons.mpr ⟨rfl, (List.forall_mem_cons.mpr ⟨rfl, zs_nil⟩)⟩)⟩) ?_
        exact ih _ _ _ h
set_option maxHeartbeats 4000000 in
set_option maxRecDepth 100000 in
theorem zt_X16_fill_L24 {p : Program} {l : Launch} {e : Env} {R : Room} {s : State} {m : MethodId} {args : Array Value} {below : List Frame} {meth : Method} {c : Code} {V : zm_V} {mc ms d rc rs : Nat} (hX : zm_X p R s m args meth c RX16 "fill" cX16_fill 5 zk_E V mc ms) (hr : meth.sig.returnType = none) (hR : R.frames = d ∧ R.locals = 64 * d) (hd : 3 ≤ d) {N : Nat} {res : (Unit × zm_S) ⊕ ((Unit) × zm_S)} {out : (Unit × zm_S)} (a0 : Nat) (hf : ∀ o, res = .inl o → o = out) (hk : ∀ (S' : zm_S), res = .inr ((), S') → zw p l e R s m args below meth c (vx_MQ below (zm_Qc zk_E V (zo_v out)) (zm_XC zk_E V zo_x) args s mc ms (fun q => V.2.2.2.1 ≤ q)) 5 zk_E V mc ms 152 [] [] S' rc rs) : ∀ (n : Nat) (i1 : Int32) (S : zm_S), zf_X16_fill_L24 N n a0 i1 S = some res → zw p l e R s m args below meth c (vx_MQ below (zm_Qc zk_E V (zo_v out)) (zm_XC zk_E V zo_x) args s mc ms (fun q => V.2.2.2.1 ≤ q)) 5 zk_E V mc ms 24 [(0, .ref a0), (1, .int i1)] [] S rc rs := by
  intro n
  induction n with
  | zero => intro i1 S h; cases h
  | succ n ih =>
    intro i1 S h
    rw [zf_X16_fill_L24] at h
    refine zw_iload_n hX dX16_fill_24 rfl ?_
    refine zw_if_eq (tgt := 152) hX dX16_fill_25 (by decide) (fun c25 => ?_) (fun c25 => ?_)
    · rw [if_pos c25] at h
      refine zw_sub (lv' := []) zs_nil ?_
      exact hk  _ (Option.some.inj h).symm
    · rw [if_neg c25] at h
      refine zw_iconst (v := (0 : Int32)) hX dX16_fill_28 (by decide) ?_
      refine zw_istore_n hX dX16_fill_29 (by decide) ?_
      refine zw_iconst (v := (0 : Int32)) hX dX16_fill_30 (by decide) ?_
      refine zw_istore_n hX dX16_fill_31 (by decide) ?_
      obtain ⟨r, g, h⟩ := zb_some h
      refine zw_sub (lv' := [(0, .ref a0), (1, .int (0 : Int32)), (2, .int (0 : Int32))]) (List.forall_mem_cons.mpr ⟨rfl, (List.forall_mem_cons.mpr ⟨rfl, (List.forall_mem_cons.mpr ⟨rfl, zs_nil⟩)⟩)⟩) ?_
      refine zt_X16_fill_L32 hX hr hR hd (res := r) (out := out) a0 ?_ ?_ N _ _ _ g
      · intro o ho
        subst ho
        exact hf _ (Option.some.inj h).symm
      · intro v19 S18 hx
        subst hx
        try dsimp only at h
        refine zw_goto (tgt := 24) hX dX16_fill_149 (by decide) ?_
        refine zw_sub (lv' := [(0, .ref a0), (1, .int v19)]) (List.forall_mem_cons.mpr ⟨rfl, (List.forall_mem_cons.mpr ⟨rfl, zs_nil⟩)⟩) ?_
        exact ih _ _ h
set_option maxHeartbeats 4000000 in
set_option maxRecDepth 100000 in
theorem zt_X16_fill {l : Launch} {V : zm_V} {N : Nat} {S : zm_S} {out : (Unit × zm_S)} {d : Nat} {a0 : Nat} (hd : 3 ≤ d) (h : zf_X16_fill N a0 S = some out) : zm_Met l zk_E V yX16_fill (.code yX16_fill cX16_fill 5 none) d [.ref a0] S 0 0 (zo_v out) zo_x := by
  refine zm_of (by decide +kernel) (Nat.le_of_ble_eq_true rfl) ?_
  intro p e R s m args below meth c hRR hX hr hxt
  have hR : R.frames = d ∧ R.locals = 64 * d := by rw [hRR]; exact ⟨rfl, rfl⟩
  have hX : zm_X p R s m args meth c RX16 "fill" cX16_fill 5 zk_E V 0 0 := hX
  unfold zf_X16_fill at h
  refine zw_sub (lv' := [(0, .ref a0)]) (List.forall_mem_cons.mpr ⟨rfl, zs_nil⟩) ?_
  refine zw_iconst (v := (0 : Int32)) hX dX16_fill_0 (by decide) ?_
  refine zw_istore_n hX dX16_fill_1 (by decide) ?_
  obtain ⟨r, g, h⟩ := zb_some h
  refine zw_sub (lv' := [(0, .ref a0), (1, .int (0 : Int32))]) (List.forall_mem_cons.mpr ⟨rfl, (List.forall_mem_cons.mpr ⟨rfl, zs_nil⟩)⟩) ?_
  refine zt_X16_fill_L2 hX hr hR hd (res := r) (out := out) a0 ?_ ?_ N _ _ g
  · intro o ho
    subst ho
    exact Option.some.inj h
  · intro  S3 hx
    subst hx
    try dsimp only at h
    refine zw_iconst (v := (1 : Int32)) hX dX16_fill_22 (by decide) ?_
    refine zw_istore_n hX dX16_fill_23 (by decide) ?_
    obtain ⟨r, g, h⟩ := zb_some h
    refine zw_sub (lv' := [(0, .ref a0), (1, .int (1 : Int32))]) (List.forall_mem_cons.mpr ⟨rfl, (List.forall_mem_cons.mpr ⟨rfl, zs_nil⟩)⟩) ?_
    refine zt_X16_fill_L24 hX hr hR hd (res := r) (out := out) a0 ?_ ?_ N _ _ g
    · intro o ho
      subst ho
      exact Option.some.inj h
    · intro  S20 hx
      subst hx
      try dsimp only at h
      obtain rfl := Option.some.inj h
      exact zw_vret hX hr dX16_fill_152 ⟨rfl, rfl⟩
set_option maxHeartbeats 4000000 in
set_option maxRecDepth 100000 in
theorem zt_X16_pointAt_L2 {p : Program} {l : Launch} {e : Env} {R : Room} {s : State} {m : MethodId} {args : Array Value} {below : List Frame} {meth : Method} {c : Code} {V : zm_V} {mc ms d rc rs : Nat} (hX : zm_X p R s m args meth c RX16 "pointAt" cX16_pointAt 4 zk_E V mc ms) (hr : meth.sig.returnType = (some .int)) (hR : R.frames = d ∧ R.locals = 64 * d) (hd : 1 ≤ d) {N : Nat} {res : (Int32 × zm_S) ⊕ ((Int32) × zm_S)} {out : (Int32 × zm_S)} (a0 : Nat) (i1 : Int32) (i2 : Int32) (hf : ∀ o, res = .inl o → o = out) (hk : ∀ (x3 : Int32) (S' : zm_S), res = .inr (x3, S') → zw p l e R s m args below meth c (vx_MQ below (zm_Qc zk_E V (zo_i out)) (zm_XC zk_E V zo_x) args s mc ms (fun q => V.2.2.2.1 ≤ q)) 4 zk_E V mc ms 36 [(3, .int x3)] [] S' rc rs) : ∀ (n : Nat) (i3 : Int32) (S : zm_S), zf_X16_pointAt_L2 N n a0 i1 i2 i3 S = some res → zw p l e R s m args below meth c (vx_MQ below (zm_Qc zk_E V (zo_i out)) (zm_XC zk_E V zo_x) args s mc ms (fun q => V.2.2.2.1 ≤ q)) 4 zk_E V mc ms 2 [(0, .ref a0), (1, .int i1), (2, .int i2), (3, .int i3)] [] S rc rs := by
  intro n
  induction n with
  | zero => intro i3 S h; cases h
  | succ n ih =>
    intro i3 S h
    rw [zf_X16_pointAt_L2] at h
    refine zw_iload_n hX dX16_pointAt_2 rfl ?_
    refine zw_aload_n hX dX16_pointAt_3 rfl ?_
    obtain ⟨v1, g, h⟩ := zb_some h
    refine zw_geti hX zl_X16_129 dX16_pointAt_4 g ?_
    refine zw_icmp_ge (tgt := 36) hX dX16_pointAt_7 (by decide) (fun c7 => ?_) (fun c7 => ?_)
    · rw [if_pos c7] at h
      refine zw_sub (lv' := [(3, .int i3)]) (List.forall_mem_cons.mpr ⟨rfl, zs_nil⟩) ?_
      exact hk _ _ (Option.some.inj h).symm
    · rw [if_neg c7] at h
      refine zw_aload_n hX dX16_pointAt_10 rfl ?_
      obtain ⟨b2, g, h⟩ := zb_some h
      refine zw_getr hX zl_X16_59 dX16_pointAt_11 g ?_
      refine zw_iload_n hX dX16_pointAt_14 rfl ?_
      obtain ⟨v3, g, h⟩ := zb_some h
      refine zw_xi hX dX16_pointAt_15 g ?_
      refine zw_iload_n hX dX16_pointAt_16 rfl ?_
      refine zw_icmp_ne (tgt := 30) hX dX16_pointAt_17 (by decide) (fun c17 => ?_) (fun c17 => ?_)
      · rw [if_neg c17] at h
        refine zw_iinc (v := (i3 + (1 : Int32))) hX dX16_pointAt_30 rfl rfl (by decide) ?_
        refine zw_goto (tgt := 2) hX dX16_pointAt_33 (by decide) ?_
        refine zw_sub (lv' := [(0, .ref a0), (1, .int i1), (2, .int i2), (3, .int (i3 + (1 : Int32)))]) (List.forall_mem_cons.mpr ⟨rfl, (List.forall_mem_cons.mpr ⟨rfl, (List.forall_mem_cons.mpr ⟨rfl, (List.forall_mem_cons.mpr ⟨rfl, zs_nil⟩)⟩)⟩)⟩) ?_
        exact ih _ _ h
      · rw [if_pos c17] at h
        refine zw_aload_n hX dX16_pointAt_20 rfl ?_
        obtain ⟨b4, g, h⟩ := zb_some h
        refine zw_getr hX zl_X16_62 dX16_pointAt_21 g ?_
        refine zw_iload_n hX dX16_pointAt_24 rfl ?_
        obtain ⟨v5, g, h⟩ := zb_some h
        refine zw_xi hX dX16_pointAt_25 g ?_
        refine zw_iload_n hX dX16_pointAt_26 rfl ?_
        refine zw_icmp_eq (tgt := 36) hX dX16_pointAt_27 (by decide) (fun c27 => ?_) (fun c27 => ?_)
        · rw [if_pos c27] at h
          refine zw_sub (lv' := [(3, .int i3)]) (List.forall_mem_cons.mpr ⟨rfl, zs_nil⟩) ?_
          exact hk _ _ (Option.some.inj h).symm
        · rw [if_neg c27] at h
          refine zw_iinc (v := (i3 + (1 : Int32))) hX dX16_pointAt_30 rfl rfl (by decide) ?_
          refine zw_goto (tgt := 2) hX dX16_pointAt_33 (by decide) ?_
          refine zw_sub (lv' := [(0, .ref a0), (1, .int i1), (2, .int i2), (3, .int (i3 + (1 : Int32)))]) (List.forall_mem_cons.mpr ⟨rfl, (List.forall_mem_cons.mpr ⟨rfl, (List.forall_mem_cons.mpr ⟨rfl, (List.forall_mem_cons.mpr ⟨rfl, zs_nil⟩)⟩)⟩)⟩) ?_
          exact ih _ _ h
set_option maxHeartbeats 4000000 in
set_option maxRecDepth 100000 in
theorem zt_X16_pointAt {l : Launch} {V : zm_V} {N : Nat} {S : zm_S} {out : (Int32 × zm_S)} {d : Nat} {a0 : Nat} {i1 : Int32} {i2 : Int32} (hd : 1 ≤ d) (h : zf_X16_pointAt N a0 i1 i2 S = some out) : zm_Met l zk_E V yX16_pointAt (.code yX16_pointAt cX16_pointAt 4 (some .int)) d [.ref a0, .int i1, .int i2] S 0 0 (zo_i out) zo_x := by
  refine zm_of (by decide +kernel) (Nat.le_of_ble_eq_true rfl) ?_
  intro p e R s m args below meth c hRR hX hr hxt
  have hR : R.frames = d ∧ R.locals = 64 * d := by rw [hRR]; exact ⟨rfl, rfl⟩
  have hX : zm_X p R s m args meth c RX16 "pointAt" cX16_pointAt 4 zk_E V 0 0 := hX
  unfold zf_X16_pointAt at h
  refine zw_sub (lv' := [(0, .ref a0), (1, .int i1), (2, .int i2)]) (List.forall_mem_cons.mpr ⟨rfl, (List.forall_mem_cons.mpr ⟨rfl, (List.forall_mem_cons.mpr ⟨rfl, zs_nil⟩)⟩)⟩) ?_
  refine zw_iconst (v := (0 : Int32)) hX dX16_pointAt_0 (by decide) ?_
  refine zw_istore_n hX dX16_pointAt_1 (by decide) ?_
  obtain ⟨r, g, h⟩ := zb_some h
  refine zw_sub (lv' := [(0, .ref a0), (1, .int i1), (2, .int i2), (3, .int (0 : Int32))]) (List.forall_mem_cons.mpr ⟨rfl, (List.forall_mem_cons.mpr ⟨rfl, (List.forall_mem_cons.mpr ⟨rfl, (List.forall_mem_cons.mpr ⟨rfl, zs_nil⟩)⟩)⟩)⟩) ?_
  refine zt_X16_pointAt_L2 hX hr hR hd (res := r) (out := out) a0 i1 i2 ?_ ?_ N _ _ g
  · intro o ho
    subst ho
    exact Option.some.inj h
  · intro v7 S6 hx
    subst hx
    try dsimp only at h
    refine zw_iload_n hX dX16_pointAt_36 rfl ?_
    obtain rfl := Option.some.inj h
    exact zw_iret hX hr dX16_pointAt_37 rfl ⟨rfl, rfl⟩
set_option maxHeartbeats 4000000 in
set_option maxRecDepth 100000 in
theorem zt_X16_point_J59 {p : Program} {l : Launch} {e : Env} {R : Room} {s : State} {m : MethodId} {args : Array Value} {below : List Frame} {meth : Method} {c : Code} {V : zm_V} {mc ms d rc rs : Nat} (hX : zm_X p R s m args meth c RX16 "point" cX16_point 4 zk_E V mc ms) (hr : meth.sig.returnType = none) (hR : R.frames = d ∧ R.locals = 64 * d) (hd : 2 ≤ d) {N : Nat} {k : Nat → Int32 → Int32 → Int32 → zm_S → Option ((Unit × zm_S) ⊕ ((Int32) × zm_S))} {a0 : Nat} {i1 : Int32} {i2 : Int32} {i3 : Int32} {res : (Unit × zm_S) ⊕ ((Int32) × zm_S)} {out : (Unit × zm_S)}   (hf : ∀ o, res = .inl o → o = out) (hk : ∀ (x3 : Int32) (S' : zm_S), res = .inr (x3, S') → zw p l e R s m args below meth c (vx_MQ below (zm_Qc zk_E V (zo_v out)) (zm_XC zk_E V zo_x) args s mc ms (fun q => V.2.2.2.1 ≤ q)) 4 zk_E V mc ms 93 [(0, .ref a0), (1, .int i1), (2, .int i2), (3, .int x3)] [] S' rc rs) (hrec : ∀ (i3' : Int32) (S : zm_S), k a0 i1 i2 i3' S = some res → zw p l e R s m args below meth c (vx_MQ below (zm_Qc zk_E V (zo_v out)) (zm_XC zk_E V zo_x) args s mc ms (fun q => V.2.2.2.1 ≤ q)) 4 zk_E V mc ms 19 [(0, .ref a0), (1, .int i1), (2, .int i2), (3, .int i3')] [] S rc rs) {S : zm_S} (h : zf_X16_point_J59 N k a0 i1 i2 i3 S = some res) : zw p l e R s m args below meth c (vx_MQ below (zm_Qc zk_E V (zo_v out)) (zm_XC zk_E V zo_x) args s mc ms (fun q => V.2.2.2.1 ≤ q)) 4 zk_E V mc ms 59 [(0, .ref a0), (1, .int i1), (2, .int i2), (3, .int i3)] [] S rc rs := by
  unfold zf_X16_point_J59 at h
  refine zw_aload_n hX dX16_point_59 rfl ?_
  obtain ⟨b7, g, h⟩ := zb_some h
  refine zw_getr hX zl_X16_59 dX16_point_60 g ?_
  refine zw_iload_n hX dX16_point_63 rfl ?_
  refine zw_aload_n hX dX16_point_64 rfl ?_
  obtain ⟨b8, g, h⟩ := zb_some h
  refine zw_getr hX zl_X16_59 dX16_point_65 g ?_
  refine zw_iload_n hX dX16_point_68 rfl ?_
  refine zw_iconst (v := (1 : Int32)) hX dX16_point_69 (by decide) ?_
  refine zw_isub hX dX16_point_70 ?_
  obtain ⟨v9, g, h⟩ := zb_some h
  refine zw_xi hX dX16_point_71 g ?_
  obtain ⟨S10, g, h⟩ := zb_some h
  refine zw_si hX dX16_point_72 g ?_
  refine zw_aload_n hX dX16_point_73 rfl ?_
  obtain ⟨b11, g, h⟩ := zb_some h
  refine zw_getr hX zl_X16_62 dX16_point_74 g ?_
  refine zw_iload_n hX dX16_point_77 rfl ?_
  refine zw_aload_n hX dX16_point_78 rfl ?_
  obtain ⟨b12, g, h⟩ := zb_some h
  refine zw_getr hX zl_X16_62 dX16_point_79 g ?_
  refine zw_iload_n hX dX16_point_82 rfl ?_
  refine zw_iconst (v := (1 : Int32)) hX dX16_point_83 (by decide) ?_
  refine zw_isub hX dX16_point_84 ?_
  obtain ⟨v13, g, h⟩ := zb_some h
  refine zw_xi hX dX16_point_85 g ?_
  obtain ⟨S14, g, h⟩ := zb_some h
  refine zw_si hX dX16_point_86 g ?_
  refine zw_iinc (v := (i3 + (-1 : Int32))) hX dX16_point_87 rfl rfl (by decide) ?_
  refine zw_goto (tgt := 19) hX dX16_point_90 (by decide) ?_
  refine zw_sub (lv' := [(0, .ref a0), (1, .int i1), (2, .int i2), (3, .int (i3 + (-1 : Int32)))]) (List.forall_mem_cons.mpr ⟨rfl, (List.forall_mem_cons.mpr ⟨rfl, (List.forall_mem_cons.mpr ⟨rfl, (List.forall_mem_cons.mpr ⟨rfl, zs_nil⟩)⟩)⟩)⟩) ?_
  exact hrec _ _ h
set_option maxHeartbeats 4000000 in
set_option maxRecDepth 100000 in
theorem zt_X16_point_L19 {p : Program} {l : Launch} {e : Env} {R : Room} {s : State} {m : MethodId} {args : Array Value} {below : List Frame} {meth : Method} {c : Code} {V : zm_V} {mc ms d rc rs : Nat} (hX : zm_X p R s m args meth c RX16 "point" cX16_point 4 zk_E V mc ms) (hr : meth.sig.returnType = none) (hR : R.frames = d ∧ R.locals = 64 * d) (hd : 2 ≤ d) {N : Nat} {res : (Unit × zm_S) ⊕ ((Int32) × zm_S)} {out : (Unit × zm_S)} (a0 : Nat) (i1 : Int32) (i2 : Int32) (hf : ∀ o, res = .inl o → o = out) (hk : ∀ (x3 : Int32) (S' : zm_S), res = .inr (x3, S') → zw p l e R s m args below meth c (vx_MQ below (zm_Qc zk_E V (zo_v out)) (zm_XC zk_E V zo_x) args s mc ms (fun q => V.2.2.2.1 ≤ q)) 4 zk_E V mc ms 93 [(0, .ref a0), (1, .int i1), (2, .int i2), (3, .int x3)] [] S' rc rs) : ∀ (n : Nat) (i3 : Int32) (S : zm_S), zf_X16_point_L19 N n a0 i1 i2 i3 S = some res → zw p l e R s m args below meth c (vx_MQ below (zm_Qc zk_E V (zo_v out)) (zm_XC zk_E V zo_x) args s mc ms (fun q => V.2.2.2.1 ≤ q)) 4 zk_E V mc ms 19 [(0, .ref a0), (1, .int i1), (2, .int i2), (3, .int i3)] [] S rc rs := by
  intro n
  induction n with
  | zero => intro i3 S h; cases h
  | succ n ih =>
    intro i3 S h
    rw [zf_X16_point_L19] at h
    refine zw_iload_n hX dX16_point_19 rfl ?_
    refine zw_if_le (tgt := 93) hX dX16_point_20 (by decide) (fun c20 => ?_) (fun c20 => ?_)
    · rw [if_pos c20] at h
      refine zw_sub (lv' := [(0, .ref a0), (1, .int i1), (2, .int i2), (3, .int i3)]) (List.forall_mem_cons.mpr ⟨rfl, (List.forall_mem_cons.mpr ⟨rfl, (List.forall_mem_cons.mpr ⟨rfl, (List.forall_mem_cons.mpr ⟨rfl, zs_nil⟩)⟩)⟩)⟩) ?_
      exact hk _ _ (Option.some.inj h).symm
    · rw [if_neg c20] at h
      refine zw_aload_n hX dX16_point_23 rfl ?_
      obtain ⟨b5, g, h⟩ := zb_some h
      refine zw_getr hX zl_X16_59 dX16_point_24 g ?_
      refine zw_iload_n hX dX16_point_27 rfl ?_
      refine zw_iconst (v := (1 : Int32)) hX dX16_point_28 (by decide) ?_
      refine zw_isub hX dX16_point_29 ?_
      obtain ⟨v6, g, h⟩ := zb_some h
      refine zw_xi hX dX16_point_30 g ?_
      refine zw_iload_n hX dX16_point_31 rfl ?_
      refine zw_icmp_gt (tgt := 59) hX dX16_point_32 (by decide) (fun c32 => ?_) (fun c32 => ?_)
      · rw [if_pos c32] at h
        refine zw_sub (lv' := [(0, .ref a0), (1, .int i1), (2, .int i2), (3, .int i3)]) (List.forall_mem_cons.mpr ⟨rfl, (List.forall_mem_cons.mpr ⟨rfl, (List.forall_mem_cons.mpr ⟨rfl, (List.forall_mem_cons.mpr ⟨rfl, zs_nil⟩)⟩)⟩)⟩) ?_
        exact zt_X16_point_J59 hX hr hR hd hf hk ih h
      · rw [if_neg c32] at h
        refine zw_aload_n hX dX16_point_35 rfl ?_
        obtain ⟨b15, g, h⟩ := zb_some h
        refine zw_getr hX zl_X16_59 dX16_point_36 g ?_
        refine zw_iload_n hX dX16_point_39 rfl ?_
        refine zw_iconst (v := (1 : Int32)) hX dX16_point_40 (by decide) ?_
        refine zw_isub hX dX16_point_41 ?_
        obtain ⟨v16, g, h⟩ := zb_some h
        refine zw_xi hX dX16_point_42 g ?_
        refine zw_iload_n hX dX16_point_43 rfl ?_
        refine zw_icmp_ne (tgt := 93) hX dX16_point_44 (by decide) (fun c44 => ?_) (fun c44 => ?_)
        · rw [if_neg c44] at h
          refine zw_sub (lv' := [(0, .ref a0), (1, .int i1), (2, .int i2), (3, .int i3)]) (List.forall_mem_cons.mpr ⟨rfl, (List.forall_mem_cons.mpr ⟨rfl, (List.forall_mem_cons.mpr ⟨rfl, (List.forall_mem_cons.mpr ⟨rfl, zs_nil⟩)⟩)⟩)⟩) ?_
          exact hk _ _ (Option.some.inj h).symm
        · rw [if_pos c44] at h
          refine zw_aload_n hX dX16_point_47 rfl ?_
          obtain ⟨b17, g, h⟩ := zb_some h
          refine zw_getr hX zl_X16_62 dX16_point_48 g ?_
          refine zw_iload_n hX dX16_point_51 rfl ?_
          refine zw_iconst (v := (1 : Int32)) hX dX16_point_52 (by decide) ?_
          refine zw_isub hX dX16_point_53 ?_
          obtain ⟨v18, g, h⟩ := zb_some h
          refine zw_xi hX dX16_point_54 g ?_
          refine zw_iload_n hX dX16_point_55 rfl ?_
          refine zw_icmp_le (tgt := 93) hX dX16_point_56 (by decide) (fun c56 => ?_) (fun c56 => ?_)
          · rw [if_pos c56] at h
            refine zw_sub (lv' := [(0, .ref a0), (1, .int i1), (2, .int i2), (3, .int i3)]) (List.forall_mem_cons.mpr ⟨rfl, (List.forall_mem_cons.mpr ⟨rfl, (List.forall_mem_cons.mpr ⟨rfl, (List.forall_mem_cons.mpr ⟨rfl, zs_nil⟩)⟩)⟩)⟩) ?_
            exact hk _ _ (Option.some.inj h).symm
          · rw [if_neg c56] at h
            refine zw_sub (lv' := [(0, .ref a0), (1, .int i1), (2, .int i2), (3, .int i3)]) (List.forall_mem_cons.mpr ⟨rfl, (List.forall_mem_cons.mpr ⟨rfl, (List.forall_mem_cons.mpr ⟨rfl, (List.forall_mem_cons.mpr ⟨rfl, zs_nil⟩)⟩)⟩)⟩) ?_
            exact zt_X16_point_J59 hX hr hR hd hf hk ih h
set_option maxHeartbeats 4000000 in
set_option maxRecDepth 100000 in
theorem zt_X16_point_J93 {p : Program} {l : Launch} {e : Env} {R : Room} {s : State} {m : MethodId} {args : Array Value} {below : List Frame} {meth : Method} {c : Code} {V : zm_V} {mc ms d rc rs : Nat} (hX : zm_X p R s m args meth c RX16 "point" cX16_point 4 zk_E V mc ms) (hr : meth.sig.returnType = none) (hR : R.frames = d ∧ R.locals = 64 * d) (hd : 2 ≤ d) {N : Nat} {a0 : Nat} {i1 : Int32} {i2 : Int32} {i3 : Int32} {out : (Unit × zm_S)} {S : zm_S} (h : zf_X16_point_J93 N a0 i1 i2 i3 S = some out) : zw p l e R s m args below meth c (vx_MQ below (zm_Qc zk_E V (zo_v out)) (zm_XC zk_E V zo_x) args s mc ms (fun q => V.2.2.2.1 ≤ q)) 4 zk_E V mc ms 93 [(0, .ref a0), (1, .int i1), (2, .int i2), (3, .int i3)] [] S rc rs := by
  unfold zf_X16_point_J93 at h
  refine zw_aload_n hX dX16_point_93 rfl ?_
  obtain ⟨b21, g, h⟩ := zb_some h
  refine zw_getr hX zl_X16_59 dX16_point_94 g ?_
  refine zw_iload_n hX dX16_point_97 rfl ?_
  refine zw_iload_n hX dX16_point_98 rfl ?_
  obtain ⟨S22, g, h⟩ := zb_some h
  refine zw_si hX dX16_point_99 g ?_
  refine zw_aload_n hX dX16_point_100 rfl ?_
  obtain ⟨b23, g, h⟩ := zb_some h
  refine zw_getr hX zl_X16_62 dX16_point_101 g ?_
  refine zw_iload_n hX dX16_point_104 rfl ?_
  refine zw_iload_n hX dX16_point_105 rfl ?_
  obtain ⟨S24, g, h⟩ := zb_some h
  refine zw_si hX dX16_point_106 g ?_
  refine zw_aload_n hX dX16_point_107 rfl ?_
  refine zw_dup hX dX16_point_108 rfl ?_
  obtain ⟨v25, g, h⟩ := zb_some h
  refine zw_geti hX zl_X16_129 dX16_point_109 g ?_
  refine zw_iconst (v := (1 : Int32)) hX dX16_point_112 (by decide) ?_
  refine zw_iadd hX dX16_point_113 ?_
  obtain ⟨S26, g, h⟩ := zb_some h
  refine zw_putv hX zl_X16_129 zt_16_27 dX16_point_114 rfl rfl g ?_
  obtain rfl := Option.some.inj h
  exact zw_vret hX hr dX16_point_117 ⟨rfl, rfl⟩
set_option maxHeartbeats 4000000 in
set_option maxRecDepth 100000 in
theorem zt_X16_point {l : Launch} {V : zm_V} {N : Nat} {S : zm_S} {out : (Unit × zm_S)} {d : Nat} {a0 : Nat} {i1 : Int32} {i2 : Int32} (hd : 2 ≤ d) (h : zf_X16_point N a0 i1 i2 S = some out) : zm_Met l zk_E V yX16_point (.code yX16_point cX16_point 4 none) d [.ref a0, .int i1, .int i2] S 0 0 (zo_v out) zo_x := by
  refine zm_of (by decide +kernel) (Nat.le_of_ble_eq_true rfl) ?_
  intro p e R s m args below meth c hRR hX hr hxt
  have hR : R.frames = d ∧ R.locals = 64 * d := by rw [hRR]; exact ⟨rfl, rfl⟩
  have hX : zm_X p R s m args meth c RX16 "point" cX16_point 4 zk_E V 0 0 := hX
  unfold zf_X16_point at h
  refine zw_sub (lv' := [(0, .ref a0), (1, .int i1), (2, .int i2)]) (List.forall_mem_cons.mpr ⟨rfl, (List.forall_mem_cons.mpr ⟨rfl, (List.forall_mem_cons.mpr ⟨rfl, zs_nil⟩)⟩)⟩) ?_
  refine zw_aload_n hX dX16_point_0 rfl ?_
  refine zw_iload_n hX dX16_point_1 rfl ?_
  refine zw_iload_n hX dX16_point_2 rfl ?_
  obtain ⟨_, gi, h⟩ := zb_some h
  obtain ⟨r2, g, h⟩ := zb_some h
  refine zc_Vi (as := [.int i1, .int i2]) hX gi (zt_X16_pointAt (d := d - 1) (by omega) g) zl_X16_132 rfl dX16_point_3 ⟨rfl, rfl, Nat.le_of_ble_eq_true rfl⟩ ⟨by omega, by omega⟩ ?_
  refine zw_aload_n hX dX16_point_6 rfl ?_
  obtain ⟨v3, g, h⟩ := zb_some h
  refine zw_geti hX zl_X16_129 dX16_point_7 g ?_
  refine zw_icmp_ge (tgt := 14) hX dX16_point_10 (by decide) (fun c10 => ?_) (fun c10 => ?_)
  · rw [if_pos c10] at h
    refine zw_aload_n hX dX16_point_14 rfl ?_
    obtain ⟨v4, g, h⟩ := zb_some h
    refine zw_geti hX zl_X16_129 dX16_point_15 g ?_
    refine zw_istore_n hX dX16_point_18 (by decide) ?_
    obtain ⟨r, g, h⟩ := zb_some h
    refine zw_sub (lv' := [(0, .ref a0), (1, .int i1), (2, .int i2), (3, .int v4)]) (List.forall_mem_cons.mpr ⟨rfl, (List.forall_mem_cons.mpr ⟨rfl, (List.forall_mem_cons.mpr ⟨rfl, (List.forall_mem_cons.mpr ⟨rfl, zs_nil⟩)⟩)⟩)⟩) ?_
    refine zt_X16_point_L19 hX hr hR hd (res := r) (out := out) a0 i1 i2 ?_ ?_ N _ _ g
    · intro o ho
      subst ho
      exact Option.some.inj h
    · intro v20 S19 hx
      subst hx
      try dsimp only at h
      refine zw_sub (lv' := [(0, .ref a0), (1, .int i1), (2, .int i2), (3, .int v20)]) (List.forall_mem_cons.mpr ⟨rfl, (List.forall_mem_cons.mpr ⟨rfl, (List.forall_mem_cons.mpr ⟨rfl, (List.forall_mem_cons.mpr ⟨rfl, zs_nil⟩)⟩)⟩)⟩) ?_
      exact zt_X16_point_J93 hX hr hR hd h
  · rw [if_neg c10] at h
    obtain rfl := Option.some.inj h
    exact zw_vret hX hr dX16_point_13 ⟨rfl, rfl⟩
set_option maxHeartbeats 4000000 in
set_option maxRecDepth 100000 in
theorem zt_X16_findPoints_L47 {p : Program} {l : Launch} {e : Env} {R : Room} {s : State} {m : MethodId} {args : Array Value} {below : List Frame} {meth : Method} {c : Code} {V : zm_V} {mc ms d rc rs : Nat} (hX : zm_X p R s m args meth c RX16 "findPoints" cX16_findPoints 4 zk_E V mc ms) (hr : meth.sig.returnType = none) (hR : R.frames = d ∧ R.locals = 64 * d) (hd : 3 ≤ d) {N : Nat} {res : (Unit × zm_S) ⊕ ((Unit) × zm_S)} {out : (Unit × zm_S)} (a0 : Nat) (i1 : Int32) (hf : ∀ o, res = .inl o → o = out) (hk : ∀ (S' : zm_S), res = .inr ((), S') → zw p l e R s m args below meth c (vx_MQ below (zm_Qc zk_E V (zo_v out)) (zm_XC zk_E V zo_x) args s mc ms (fun q => V.2.2.2.1 ≤ q)) 4 zk_E V mc ms 135 [(0, .ref a0), (1, .int i1)] [] S' rc rs) : ∀ (n : Nat) (i2 : Int32) (S : zm_S), zf_X16_findPoints_L47 N n a0 i1 i2 S = some res → zw p l e R s m args below meth c (vx_MQ below (zm_Qc zk_E V (zo_v out)) (zm_XC zk_E V zo_x) args s mc ms (fun q => V.2.2.2.1 ≤ q)) 4 zk_E V mc ms 47 [(0, .ref a0), (1, .int i1), (2, .int i2)] [] S rc rs := by
  intro n
  induction n with
  | zero => intro i2 S h; cases h
  | succ n ih =>
    intro i2 S h
    rw [zf_X16_findPoints_L47] at h
    refine zw_iload_n hX dX16_findPoints_47 rfl ?_
    refine zw_aload_n hX dX16_findPoints_48 rfl ?_
    obtain ⟨v15, g, h⟩ := zb_some h
    refine zw_geti hX zl_X16_96 dX16_findPoints_49 g ?_
    refine zw_icmp_ge (tgt := 135) hX dX16_findPoints_52 (by decide) (fun c52 => ?_) (fun c52 => ?_)
    · rw [if_pos c52] at h
      refine zw_sub (lv' := [(0, .ref a0), (1, .int i1)]) (List.forall_mem_cons.mpr ⟨rfl, (List.forall_mem_cons.mpr ⟨rfl, zs_nil⟩)⟩) ?_
      exact hk  _ (Option.some.inj h).symm
    · rw [if_neg c52] at h
      refine zw_aload_n hX dX16_findPoints_55 rfl ?_
      obtain ⟨b16, g, h⟩ := zb_some h
      refine zw_getr hX zl_X16_16 dX16_findPoints_56 g ?_
      refine zw_iload_n hX dX16_findPoints_59 rfl ?_
      obtain ⟨v17, g, h⟩ := zb_some h
      refine zw_xz hX dX16_findPoints_60 g ?_
      refine zw_if_eq (tgt := 129) hX dX16_findPoints_61 (by decide) (fun c61 => ?_) (fun c61 => ?_)
      · rw [if_pos c61] at h
        refine zw_iinc (v := (i2 + (1 : Int32))) hX dX16_findPoints_129 rfl rfl (by decide) ?_
        refine zw_goto (tgt := 47) hX dX16_findPoints_132 (by decide) ?_
        refine zw_sub (lv' := [(0, .ref a0), (1, .int i1), (2, .int (i2 + (1 : Int32)))]) (List.forall_mem_cons.mpr ⟨rfl, (List.forall_mem_cons.mpr ⟨rfl, (List.forall_mem_cons.mpr ⟨rfl, zs_nil⟩)⟩)⟩) ?_
        exact ih _ _ h
      · rw [if_neg c61] at h
        refine zw_aload_n hX dX16_findPoints_64 rfl ?_
        obtain ⟨b18, g, h⟩ := zb_some h
        refine zw_getr hX zl_X16_16 dX16_findPoints_65 g ?_
        refine zw_iload_n hX dX16_findPoints_68 rfl ?_
        obtain ⟨v19, g, h⟩ := zb_some h
        refine zw_xz hX dX16_findPoints_69 g ?_
        refine zw_if_ne (tgt := 129) hX dX16_findPoints_70 (by decide) (fun c70 => ?_) (fun c70 => ?_)
        · rw [if_neg c70] at h
          refine zw_iinc (v := (i2 + (1 : Int32))) hX dX16_findPoints_129 rfl rfl (by decide) ?_
          refine zw_goto (tgt := 47) hX dX16_findPoints_132 (by decide) ?_
          refine zw_sub (lv' := [(0, .ref a0), (1, .int i1), (2, .int (i2 + (1 : Int32)))]) (List.forall_mem_cons.mpr ⟨rfl, (List.forall_mem_cons.mpr ⟨rfl, (List.forall_mem_cons.mpr ⟨rfl, zs_nil⟩)⟩)⟩) ?_
          exact ih _ _ h
        · rw [if_pos c70] at h
          refine zw_aload_n hX dX16_findPoints_73 rfl ?_
          refine zw_iload_n hX dX16_findPoints_74 rfl ?_
          refine zw_aload_n hX dX16_findPoints_75 rfl ?_
          obtain ⟨b20, g, h⟩ := zb_some h
          refine zw_getr hX zl_X16_7 dX16_findPoints_76 g ?_
          refine zw_iload_n hX dX16_findPoints_79 rfl ?_
          obtain ⟨v21, g, h⟩ := zb_some h
          refine zw_xi hX dX16_findPoints_80 g ?_
          refine zw_aload_n hX dX16_findPoints_81 rfl ?_
          obtain ⟨b22, g, h⟩ := zb_some h
          refine zw_getr hX zl_X16_13 dX16_findPoints_82 g ?_
          refine zw_iload_n hX dX16_findPoints_85 rfl ?_
          obtain ⟨v23, g, h⟩ := zb_some h
          refine zw_xi hX dX16_findPoints_86 g ?_
          obtain ⟨_, gi, h⟩ := zb_some h
          obtain ⟨r25, g, h⟩ := zb_some h
          refine zc_Vi (as := [.int i1, .int v21, .int v23]) hX gi (zt_X16_isOn (d := d - 1) (by omega) g) zl_X16_139 rfl dX16_findPoints_87 ⟨rfl, rfl, Nat.le_of_ble_eq_true rfl⟩ ⟨by omega, by omega⟩ ?_
          refine zw_if_eq (tgt := 129) hX dX16_findPoints_90 (by decide) (fun c90 => ?_) (fun c90 => ?_)
          · rw [if_pos c90] at h
            refine zw_iinc (v := (i2 + (1 : Int32))) hX dX16_findPoints_129 rfl rfl (by decide) ?_
            refine zw_goto (tgt := 47) hX dX16_findPoints_132 (by decide) ?_
            refine zw_sub (lv' := [(0, .ref a0), (1, .int i1), (2, .int (i2 + (1 : Int32)))]) (List.forall_mem_cons.mpr ⟨rfl, (List.forall_mem_cons.mpr ⟨rfl, (List.forall_mem_cons.mpr ⟨rfl, zs_nil⟩)⟩)⟩) ?_
            exact ih _ _ h
          · rw [if_neg c90] at h
            refine zw_aload_n hX dX16_findPoints_93 rfl ?_
            refine zw_iload_n hX dX16_findPoints_94 rfl ?_
            refine zw_aload_n hX dX16_findPoints_95 rfl ?_
            obtain ⟨b26, g, h⟩ := zb_some h
            refine zw_getr hX zl_X16_7 dX16_findPoints_96 g ?_
            refine zw_iload_n hX dX16_findPoints_99 rfl ?_
            obtain ⟨v27, g, h⟩ := zb_some h
            refine zw_xi hX dX16_findPoints_100 g ?_
            refine zw_aload_n hX dX16_findPoints_101 rfl ?_
            obtain ⟨b28, g, h⟩ := zb_some h
            refine zw_getr hX zl_X16_13 dX16_findPoints_102 g ?_
            refine zw_iload_n hX dX16_findPoints_105 rfl ?_
            obtain ⟨v29, g, h⟩ := zb_some h
            refine zw_xi hX dX16_findPoints_106 g ?_
            obtain ⟨_, gi, h⟩ := zb_some h
            obtain ⟨r31, g, h⟩ := zb_some h
            refine zc_Vi (as := [.int i2, .int v27, .int v29]) hX gi (zt_X16_isOn (d := d - 1) (by omega) g) zl_X16_139 rfl dX16_findPoints_107 ⟨rfl, rfl, Nat.le_of_ble_eq_true rfl⟩ ⟨by omega, by omega⟩ ?_
            refine zw_if_eq (tgt := 129) hX dX16_findPoints_110 (by decide) (fun c110 => ?_) (fun c110 => ?_)
            · rw [if_pos c110] at h
              refine zw_iinc (v := (i2 + (1 : Int32))) hX dX16_findPoints_129 rfl rfl (by decide) ?_
              refine zw_goto (tgt := 47) hX dX16_findPoints_132 (by decide) ?_
              refine zw_sub (lv' := [(0, .ref a0), (1, .int i1), (2, .int (i2 + (1 : Int32)))]) (List.forall_mem_cons.mpr ⟨rfl, (List.forall_mem_cons.mpr ⟨rfl, (List.forall_mem_cons.mpr ⟨rfl, zs_nil⟩)⟩)⟩) ?_
              exact ih _ _ h
            · rw [if_neg c110] at h
              refine zw_aload_n hX dX16_findPoints_113 rfl ?_
              refine zw_aload_n hX dX16_findPoints_114 rfl ?_
              obtain ⟨b32, g, h⟩ := zb_some h
              refine zw_getr hX zl_X16_7 dX16_findPoints_115 g ?_
              refine zw_iload_n hX dX16_findPoints_118 rfl ?_
              obtain ⟨v33, g, h⟩ := zb_some h
              refine zw_xi hX dX16_findPoints_119 g ?_
              refine zw_aload_n hX dX16_findPoints_120 rfl ?_
              obtain ⟨b34, g, h⟩ := zb_some h
              refine zw_getr hX zl_X16_13 dX16_findPoints_121 g ?_
              refine zw_iload_n hX dX16_findPoints_124 rfl ?_
              obtain ⟨v35, g, h⟩ := zb_some h
              refine zw_xi hX dX16_findPoints_125 g ?_
              obtain ⟨_, gi, h⟩ := zb_some h
              obtain ⟨r37, g, h⟩ := zb_some h
              refine zc_Vv (as := [.int v33, .int v35]) hX gi (zt_X16_point (d := d - 1) (by omega) g) zl_X16_135 rfl dX16_findPoints_126 ⟨rfl, rfl, Nat.le_of_ble_eq_true rfl⟩ ⟨by omega, by omega⟩ ?_
              refine zw_iinc (v := (i2 + (1 : Int32))) hX dX16_findPoints_129 rfl rfl (by decide) ?_
              refine zw_goto (tgt := 47) hX dX16_findPoints_132 (by decide) ?_
              refine zw_sub (lv' := [(0, .ref a0), (1, .int i1), (2, .int (i2 + (1 : Int32)))]) (List.forall_mem_cons.mpr ⟨rfl, (List.forall_mem_cons.mpr ⟨rfl, (List.forall_mem_cons.mpr ⟨rfl, zs_nil⟩)⟩)⟩) ?_
              exact ih _ _ h
set_option maxHeartbeats 4000000 in
set_option maxRecDepth 100000 in
theorem zt_X16_findPoints_L7 {p : Program} {l : Launch} {e : Env} {R : Room} {s : State} {m : MethodId} {args : Array Value} {below : List Frame} {meth : Method} {c : Code} {V : zm_V} {mc ms d rc rs : Nat} (hX : zm_X p R s m args meth c RX16 "findPoints" cX16_findPoints 4 zk_E V mc ms) (hr : meth.sig.returnType = none) (hR : R.frames = d ∧ R.locals = 64 * d) (hd : 3 ≤ d) {N : Nat} {res : (Unit × zm_S) ⊕ ((Unit) × zm_S)} {out : (Unit × zm_S)} (a0 : Nat) (hf : ∀ o, res = .inl o → o = out) (hk : ∀ (S' : zm_S), res = .inr ((), S') → zw p l e R s m args below meth c (vx_MQ below (zm_Qc zk_E V (zo_v out)) (zm_XC zk_E V zo_x) args s mc ms (fun q => V.2.2.2.1 ≤ q)) 4 zk_E V mc ms 141 [(0, .ref a0)] [] S' rc rs) : ∀ (n : Nat) (i1 : Int32) (S : zm_S), zf_X16_findPoints_L7 N n a0 i1 S = some res → zw p l e R s m args below meth c (vx_MQ below (zm_Qc zk_E V (zo_v out)) (zm_XC zk_E V zo_x) args s mc ms (fun q => V.2.2.2.1 ≤ q)) 4 zk_E V mc ms 7 [(0, .ref a0), (1, .int i1)] [] S rc rs := by
  intro n
  induction n with
  | zero => intro i1 S h; cases h
  | succ n ih =>
    intro i1 S h
    rw [zf_X16_findPoints_L7] at h
    refine zw_iload_n hX dX16_findPoints_7 rfl ?_
    refine zw_aload_n hX dX16_findPoints_8 rfl ?_
    obtain ⟨v2, g, h⟩ := zb_some h
    refine zw_geti hX zl_X16_96 dX16_findPoints_9 g ?_
    refine zw_icmp_ge (tgt := 141) hX dX16_findPoints_12 (by decide) (fun c12 => ?_) (fun c12 => ?_)
    · rw [if_pos c12] at h
      refine zw_sub (lv' := [(0, .ref a0)]) (List.forall_mem_cons.mpr ⟨rfl, zs_nil⟩) ?_
      exact hk  _ (Option.some.inj h).symm
    · rw [if_neg c12] at h
      refine zw_aload_n hX dX16_findPoints_15 rfl ?_
      refine zw_aload_n hX dX16_findPoints_16 rfl ?_
      obtain ⟨b3, g, h⟩ := zb_some h
      refine zw_getr hX zl_X16_7 dX16_findPoints_17 g ?_
      refine zw_iload_n hX dX16_findPoints_20 rfl ?_
      obtain ⟨v4, g, h⟩ := zb_some h
      refine zw_xi hX dX16_findPoints_21 g ?_
      refine zw_aload_n hX dX16_findPoints_22 rfl ?_
      obtain ⟨b5, g, h⟩ := zb_some h
      refine zw_getr hX zl_X16_13 dX16_findPoints_23 g ?_
      refine zw_iload_n hX dX16_findPoints_26 rfl ?_
      obtain ⟨v6, g, h⟩ := zb_some h
      refine zw_xi hX dX16_findPoints_27 g ?_
      obtain ⟨_, gi, h⟩ := zb_some h
      obtain ⟨r8, g, h⟩ := zb_some h
      refine zc_Vv (as := [.int v4, .int v6]) hX gi (zt_X16_point (d := d - 1) (by omega) g) zl_X16_135 rfl dX16_findPoints_28 ⟨rfl, rfl, Nat.le_of_ble_eq_true rfl⟩ ⟨by omega, by omega⟩ ?_
      refine zw_aload_n hX dX16_findPoints_31 rfl ?_
      refine zw_aload_n hX dX16_findPoints_32 rfl ?_
      refine zw_iload_n hX dX16_findPoints_33 rfl ?_
      obtain ⟨_, gi, h⟩ := zb_some h
      obtain ⟨r10, g, h⟩ := zb_some h
      refine zc_Vi (as := [.int i1]) hX gi (zt_X16_highX (d := d - 1) (by omega) g) zl_X16_89 rfl dX16_findPoints_34 ⟨rfl, rfl, Nat.le_of_ble_eq_true rfl⟩ ⟨by omega, by omega⟩ ?_
      refine zw_aload_n hX dX16_findPoints_37 rfl ?_
      refine zw_iload_n hX dX16_findPoints_38 rfl ?_
      obtain ⟨_, gi, h⟩ := zb_some h
      obtain ⟨r12, g, h⟩ := zb_some h
      refine zc_Vi (as := [.int i1]) hX gi (zt_X16_highY (d := d - 1) (by omega) g) zl_X16_93 rfl dX16_findPoints_39 ⟨rfl, rfl, Nat.le_of_ble_eq_true rfl⟩ ⟨by omega, by omega⟩ ?_
      obtain ⟨_, gi, h⟩ := zb_some h
      obtain ⟨r14, g, h⟩ := zb_some h
      refine zc_Vv (as := [.int r10.1, .int r12.1]) hX gi (zt_X16_point (d := d - 1) (by omega) g) zl_X16_135 rfl dX16_findPoints_42 ⟨rfl, rfl, Nat.le_of_ble_eq_true rfl⟩ ⟨by omega, by omega⟩ ?_
      refine zw_iconst (v := (0 : Int32)) hX dX16_findPoints_45 (by decide) ?_
      refine zw_istore_n hX dX16_findPoints_46 (by decide) ?_
      obtain ⟨r, g, h⟩ := zb_some h
      refine zw_sub (lv' := [(0, .ref a0), (1, .int i1), (2, .int (0 : Int32))]) (List.forall_mem_cons.mpr ⟨rfl, (List.forall_mem_cons.mpr ⟨rfl, (List.forall_mem_cons.mpr ⟨rfl, zs_nil⟩)⟩)⟩) ?_
      refine zt_X16_findPoints_L47 hX hr hR hd (res := r) (out := out) a0 i1 ?_ ?_ N _ _ g
      · intro o ho
        subst ho
        exact hf _ (Option.some.inj h).symm
      · intro  S38 hx
        subst hx
        try dsimp only at h
        refine zw_iinc (v := (i1 + (1 : Int32))) hX dX16_findPoints_135 rfl rfl (by decide) ?_
        refine zw_goto (tgt := 7) hX dX16_findPoints_138 (by decide) ?_
        refine zw_sub (lv' := [(0, .ref a0), (1, .int (i1 + (1 : Int32)))]) (List.forall_mem_cons.mpr ⟨rfl, (List.forall_mem_cons.mpr ⟨rfl, zs_nil⟩)⟩) ?_
        exact ih _ _ h
set_option maxHeartbeats 4000000 in
set_option maxRecDepth 100000 in
theorem zt_X16_findPoints_J232 {p : Program} {l : Launch} {e : Env} {R : Room} {s : State} {m : MethodId} {args : Array Value} {below : List Frame} {meth : Method} {c : Code} {V : zm_V} {mc ms d rc rs : Nat} (hX : zm_X p R s m args meth c RX16 "findPoints" cX16_findPoints 4 zk_E V mc ms) (hr : meth.sig.returnType = none) (hR : R.frames = d ∧ R.locals = 64 * d) (hd : 3 ≤ d) {N : Nat} {k : Nat → Int32 → Int32 → Int32 → zm_S → Option ((Unit × zm_S) ⊕ ((Unit) × zm_S))} {a0 : Nat} {i1 : Int32} {i3 : Int32} {res : (Unit × zm_S) ⊕ ((Unit) × zm_S)} {out : (Unit × zm_S)}   (hf : ∀ o, res = .inl o → o = out) (hk : ∀ (S' : zm_S), res = .inr ((), S') → zw p l e R s m args below meth c (vx_MQ below (zm_Qc zk_E V (zo_v out)) (zm_XC zk_E V zo_x) args s mc ms (fun q => V.2.2.2.1 ≤ q)) 4 zk_E V mc ms 240 [(0, .ref a0), (1, .int i1)] [] S' rc rs) (hrec : ∀ (i2' : Int32) (i3' : Int32) (S : zm_S), k a0 i1 i2' i3' S = some res → zw p l e R s m args below meth c (vx_MQ below (zm_Qc zk_E V (zo_v out)) (zm_XC zk_E V zo_x) args s mc ms (fun q => V.2.2.2.1 ≤ q)) 4 zk_E V mc ms 160 [(0, .ref a0), (1, .int i1), (2, .int i2'), (3, .int i3')] [] S rc rs) {S : zm_S} (h : zf_X16_findPoints_J232 N k a0 i1 i3 S = some res) : zw p l e R s m args below meth c (vx_MQ below (zm_Qc zk_E V (zo_v out)) (zm_XC zk_E V zo_x) args s mc ms (fun q => V.2.2.2.1 ≤ q)) 4 zk_E V mc ms 232 [(0, .ref a0), (1, .int i1), (3, .int i3)] [] S rc rs := by
  unfold zf_X16_findPoints_J232 at h
  refine zw_iload_n hX dX16_findPoints_232 rfl ?_
  refine zw_istore_n hX dX16_findPoints_233 (by decide) ?_
  refine zw_iinc (v := (i3 + (1 : Int32))) hX dX16_findPoints_234 rfl rfl (by decide) ?_
  refine zw_goto (tgt := 160) hX dX16_findPoints_237 (by decide) ?_
  refine zw_sub (lv' := [(0, .ref a0), (1, .int i1), (2, .int i3), (3, .int (i3 + (1 : Int32)))]) (List.forall_mem_cons.mpr ⟨rfl, (List.forall_mem_cons.mpr ⟨rfl, (List.forall_mem_cons.mpr ⟨rfl, (List.forall_mem_cons.mpr ⟨rfl, zs_nil⟩)⟩)⟩)⟩) ?_
  exact hrec _ _ _ h
set_option maxHeartbeats 4000000 in
set_option maxRecDepth 100000 in
theorem zt_X16_findPoints_L160 {p : Program} {l : Launch} {e : Env} {R : Room} {s : State} {m : MethodId} {args : Array Value} {below : List Frame} {meth : Method} {c : Code} {V : zm_V} {mc ms d rc rs : Nat} (hX : zm_X p R s m args meth c RX16 "findPoints" cX16_findPoints 4 zk_E V mc ms) (hr : meth.sig.returnType = none) (hR : R.frames = d ∧ R.locals = 64 * d) (hd : 3 ≤ d) {N : Nat} {res : (Unit × zm_S) ⊕ ((Unit) × zm_S)} {out : (Unit × zm_S)} (a0 : Nat) (i1 : Int32) (hf : ∀ o, res = .inl o → o = out) (hk : ∀ (S' : zm_S), res = .inr ((), S') → zw p l e R s m args below meth c (vx_MQ below (zm_Qc zk_E V (zo_v out)) (zm_XC zk_E V zo_x) args s mc ms (fun q => V.2.2.2.1 ≤ q)) 4 zk_E V mc ms 240 [(0, .ref a0), (1, .int i1)] [] S' rc rs) : ∀ (n : Nat) (i2 : Int32) (i3 : Int32) (S : zm_S), zf_X16_findPoints_L160 N n a0 i1 i2 i3 S = some res → zw p l e R s m args below meth c (vx_MQ below (zm_Qc zk_E V (zo_v out)) (zm_XC zk_E V zo_x) args s mc ms (fun q => V.2.2.2.1 ≤ q)) 4 zk_E V mc ms 160 [(0, .ref a0), (1, .int i1), (2, .int i2), (3, .int i3)] [] S rc rs := by
  intro n
  induction n with
  | zero => intro i2 i3 S h; cases h
  | succ n ih =>
    intro i2 i3 S h
    rw [zf_X16_findPoints_L160] at h
    refine zw_iload_n hX dX16_findPoints_160 rfl ?_
    refine zw_aload_n hX dX16_findPoints_161 rfl ?_
    obtain ⟨v42, g, h⟩ := zb_some h
    refine zw_geti hX zl_X16_129 dX16_findPoints_162 g ?_
    refine zw_icmp_ge (tgt := 240) hX dX16_findPoints_165 (by decide) (fun c165 => ?_) (fun c165 => ?_)
    · rw [if_pos c165] at h
      refine zw_sub (lv' := [(0, .ref a0), (1, .int i1)]) (List.forall_mem_cons.mpr ⟨rfl, (List.forall_mem_cons.mpr ⟨rfl, zs_nil⟩)⟩) ?_
      exact hk  _ (Option.some.inj h).symm
    · rw [if_neg c165] at h
      refine zw_aload_n hX dX16_findPoints_168 rfl ?_
      refine zw_iload_n hX dX16_findPoints_169 rfl ?_
      refine zw_aload_n hX dX16_findPoints_170 rfl ?_
      obtain ⟨b43, g, h⟩ := zb_some h
      refine zw_getr hX zl_X16_59 dX16_findPoints_171 g ?_
      refine zw_iload_n hX dX16_findPoints_174 rfl ?_
      obtain ⟨v44, g, h⟩ := zb_some h
      refine zw_xi hX dX16_findPoints_175 g ?_
      refine zw_aload_n hX dX16_findPoints_176 rfl ?_
      obtain ⟨b45, g, h⟩ := zb_some h
      refine zw_getr hX zl_X16_62 dX16_findPoints_177 g ?_
      refine zw_iload_n hX dX16_findPoints_180 rfl ?_
      obtain ⟨v46, g, h⟩ := zb_some h
      refine zw_xi hX dX16_findPoints_181 g ?_
      obtain ⟨_, gi, h⟩ := zb_some h
      obtain ⟨r48, g, h⟩ := zb_some h
      refine zc_Vi (as := [.int i1, .int v44, .int v46]) hX gi (zt_X16_isOn (d := d - 1) (by omega) g) zl_X16_139 rfl dX16_findPoints_182 ⟨rfl, rfl, Nat.le_of_ble_eq_true rfl⟩ ⟨by omega, by omega⟩ ?_
      refine zw_if_eq (tgt := 234) hX dX16_findPoints_185 (by decide) (fun c185 => ?_) (fun c185 => ?_)
      · rw [if_pos c185] at h
        refine zw_iinc (v := (i3 + (1 : Int32))) hX dX16_findPoints_234 rfl rfl (by decide) ?_
        refine zw_goto (tgt := 160) hX dX16_findPoints_237 (by decide) ?_
        refine zw_sub (lv' := [(0, .ref a0), (1, .int i1), (2, .int i2), (3, .int (i3 + (1 : Int32)))]) (List.forall_mem_cons.mpr ⟨rfl, (List.forall_mem_cons.mpr ⟨rfl, (List.forall_mem_cons.mpr ⟨rfl, (List.forall_mem_cons.mpr ⟨rfl, zs_nil⟩)⟩)⟩)⟩) ?_
        exact ih _ _ _ h
      · rw [if_neg c185] at h
        refine zw_iload_n hX dX16_findPoints_188 rfl ?_
        refine zw_if_lt (tgt := 232) hX dX16_findPoints_189 (by decide) (fun c189 => ?_) (fun c189 => ?_)
        · rw [if_pos c189] at h
          refine zw_sub (lv' := [(0, .ref a0), (1, .int i1), (3, .int i3)]) (List.forall_mem_cons.mpr ⟨rfl, (List.forall_mem_cons.mpr ⟨rfl, (List.forall_mem_cons.mpr ⟨rfl, zs_nil⟩)⟩)⟩) ?_
          exact zt_X16_findPoints_J232 hX hr hR hd hf hk ih h
        · rw [if_neg c189] at h
          refine zw_aload_n hX dX16_findPoints_192 rfl ?_
          obtain ⟨b49, g, h⟩ := zb_some h
          refine zw_getr hX zl_X16_65 dX16_findPoints_193 g ?_
          refine zw_aload_n hX dX16_findPoints_196 rfl ?_
          obtain ⟨v50, g, h⟩ := zb_some h
          refine zw_geti hX zl_X16_143 dX16_findPoints_197 g ?_
          refine zw_iload_n hX dX16_findPoints_200 rfl ?_
          obtain ⟨S51, g, h⟩ := zb_some h
          refine zw_si hX dX16_findPoints_201 g ?_
          refine zw_aload_n hX dX16_findPoints_202 rfl ?_
          obtain ⟨b52, g, h⟩ := zb_some h
          refine zw_getr hX zl_X16_68 dX16_findPoints_203 g ?_
          refine zw_aload_n hX dX16_findPoints_206 rfl ?_
          obtain ⟨v53, g, h⟩ := zb_some h
          refine zw_geti hX zl_X16_143 dX16_findPoints_207 g ?_
          refine zw_iload_n hX dX16_findPoints_210 rfl ?_
          obtain ⟨S54, g, h⟩ := zb_some h
          refine zw_si hX dX16_findPoints_211 g ?_
          refine zw_aload_n hX dX16_findPoints_212 rfl ?_
          obtain ⟨b55, g, h⟩ := zb_some h
          refine zw_getr hX zl_X16_71 dX16_findPoints_213 g ?_
          refine zw_aload_n hX dX16_findPoints_216 rfl ?_
          obtain ⟨v56, g, h⟩ := zb_some h
          refine zw_geti hX zl_X16_143 dX16_findPoints_217 g ?_
          refine zw_iload_n hX dX16_findPoints_220 rfl ?_
          obtain ⟨S57, g, h⟩ := zb_some h
          refine zw_si hX dX16_findPoints_221 g ?_
          refine zw_aload_n hX dX16_findPoints_222 rfl ?_
          refine zw_dup hX dX16_findPoints_223 rfl ?_
          obtain ⟨v58, g, h⟩ := zb_some h
          refine zw_geti hX zl_X16_143 dX16_findPoints_224 g ?_
          refine zw_iconst (v := (1 : Int32)) hX dX16_findPoints_227 (by decide) ?_
          refine zw_iadd hX dX16_findPoints_228 ?_
          obtain ⟨S59, g, h⟩ := zb_some h
          refine zw_putv hX zl_X16_143 zt_16_30 dX16_findPoints_229 rfl rfl g ?_
          refine zw_sub (lv' := [(0, .ref a0), (1, .int i1), (3, .int i3)]) (List.forall_mem_cons.mpr ⟨rfl, (List.forall_mem_cons.mpr ⟨rfl, (List.forall_mem_cons.mpr ⟨rfl, zs_nil⟩)⟩)⟩) ?_
          exact zt_X16_findPoints_J232 hX hr hR hd hf hk ih h
set_option maxHeartbeats 4000000 in
set_option maxRecDepth 100000 in
theorem zt_X16_findPoints_L148 {p : Program} {l : Launch} {e : Env} {R : Room} {s : State} {m : MethodId} {args : Array Value} {below : List Frame} {meth : Method} {c : Code} {V : zm_V} {mc ms d rc rs : Nat} (hX : zm_X p R s m args meth c RX16 "findPoints" cX16_findPoints 4 zk_E V mc ms) (hr : meth.sig.returnType = none) (hR : R.frames = d ∧ R.locals = 64 * d) (hd : 3 ≤ d) {N : Nat} {res : (Unit × zm_S) ⊕ ((Unit) × zm_S)} {out : (Unit × zm_S)} (a0 : Nat) (hf : ∀ o, res = .inl o → o = out) (hk : ∀ (S' : zm_S), res = .inr ((), S') → zw p l e R s m args below meth c (vx_MQ below (zm_Qc zk_E V (zo_v out)) (zm_XC zk_E V zo_x) args s mc ms (fun q => V.2.2.2.1 ≤ q)) 4 zk_E V mc ms 246 [] [] S' rc rs) : ∀ (n : Nat) (i1 : Int32) (S : zm_S), zf_X16_findPoints_L148 N n a0 i1 S = some res → zw p l e R s m args below meth c (vx_MQ below (zm_Qc zk_E V (zo_v out)) (zm_XC zk_E V zo_x) args s mc ms (fun q => V.2.2.2.1 ≤ q)) 4 zk_E V mc ms 148 [(0, .ref a0), (1, .int i1)] [] S rc rs := by
  intro n
  induction n with
  | zero => intro i1 S h; cases h
  | succ n ih =>
    intro i1 S h
    rw [zf_X16_findPoints_L148] at h
    refine zw_iload_n hX dX16_findPoints_148 rfl ?_
    refine zw_aload_n hX dX16_findPoints_149 rfl ?_
    obtain ⟨v41, g, h⟩ := zb_some h
    refine zw_geti hX zl_X16_96 dX16_findPoints_150 g ?_
    refine zw_icmp_ge (tgt := 246) hX dX16_findPoints_153 (by decide) (fun c153 => ?_) (fun c153 => ?_)
    · rw [if_pos c153] at h
      refine zw_sub (lv' := []) zs_nil ?_
      exact hk  _ (Option.some.inj h).symm
    · rw [if_neg c153] at h
      refine zw_iconst (v := (-1 : Int32)) hX dX16_findPoints_156 (by decide) ?_
      refine zw_istore_n hX dX16_findPoints_157 (by decide) ?_
      refine zw_iconst (v := (0 : Int32)) hX dX16_findPoints_158 (by decide) ?_
      refine zw_istore_n hX dX16_findPoints_159 (by decide) ?_
      obtain ⟨r, g, h⟩ := zb_some h
      refine zw_sub (lv' := [(0, .ref a0), (1, .int i1), (2, .int (-1 : Int32)), (3, .int (0 : Int32))]) (List.forall_mem_cons.mpr ⟨rfl, (List.forall_mem_cons.mpr ⟨rfl, (List.forall_mem_cons.mpr ⟨rfl, (List.forall_mem_cons.mpr ⟨rfl, zs_nil⟩)⟩)⟩)⟩) ?_
      refine zt_X16_findPoints_L160 hX hr hR hd (res := r) (out := out) a0 i1 ?_ ?_ N _ _ _ g
      · intro o ho
        subst ho
        exact hf _ (Option.some.inj h).symm
      · intro  S60 hx
        subst hx
        try dsimp only at h
        refine zw_iinc (v := (i1 + (1 : Int32))) hX dX16_findPoints_240 rfl rfl (by decide) ?_
        refine zw_goto (tgt := 148) hX dX16_findPoints_243 (by decide) ?_
        refine zw_sub (lv' := [(0, .ref a0), (1, .int (i1 + (1 : Int32)))]) (List.forall_mem_cons.mpr ⟨rfl, (List.forall_mem_cons.mpr ⟨rfl, zs_nil⟩)⟩) ?_
        exact ih _ _ h
set_option maxHeartbeats 4000000 in
set_option maxRecDepth 100000 in
theorem zt_X16_findPoints {l : Launch} {V : zm_V} {N : Nat} {S : zm_S} {out : (Unit × zm_S)} {d : Nat} {a0 : Nat} (hd : 3 ≤ d) (h : zf_X16_findPoints N a0 S = some out) : zm_Met l zk_E V yX16_findPoints (.code yX16_findPoints cX16_findPoints 4 none) d [.ref a0] S 0 0 (zo_v out) zo_x := by
  refine zm_of (by decide +kernel) (Nat.le_of_ble_eq_true rfl) ?_
  intro p e R s m args below meth c hRR hX hr hxt
  have hR : R.frames = d ∧ R.locals = 64 * d := by rw [hRR]; exact ⟨rfl, rfl⟩
  have hX : zm_X p R s m args meth c RX16 "findPoints" cX16_findPoints 4 zk_E V 0 0 := hX
  unfold zf_X16_findPoints at h
  refine zw_sub (lv' := [(0, .ref a0)]) (List.forall_mem_cons.mpr ⟨rfl, zs_nil⟩) ?_
  refine zw_aload_n hX dX16_findPoints_0 rfl ?_
  refine zw_iconst (v := (0 : Int32)) hX dX16_findPoints_1 (by decide) ?_
  obtain ⟨S1, g, h⟩ := zb_some h
  refine zw_putv hX zl_X16_129 zt_16_27 dX16_findPoints_2 rfl rfl g ?_
  refine zw_iconst (v := (0 : Int32)) hX dX16_findPoints_5 (by decide) ?_
  refine zw_istore_n hX dX16_findPoints_6 (by decide) ?_
  obtain ⟨r, g, h⟩ := zb_some h
  refine zw_sub (lv' := [(0, .ref a0), (1, .int (0 : Int32))]) (List.forall_mem_cons.mpr ⟨rfl, (List.forall_mem_cons.mpr ⟨rfl, zs_nil⟩)⟩) ?_
  refine zt_X16_findPoints_L7 hX hr hR hd (res := r) (out := out) a0 ?_ ?_ N _ _ g
  · intro o ho
    subst ho
    exact Option.some.inj h
  · intro  S39 hx
    subst hx
    try dsimp only at h
    refine zw_aload_n hX dX16_findPoints_141 rfl ?_
    refine zw_iconst (v := (0 : Int32)) hX dX16_findPoints_142 (by decide) ?_
    obtain ⟨S40, g, h⟩ := zb_some h
    refine zw_putv hX zl_X16_143 zt_16_30 dX16_findPoints_143 rfl rfl g ?_
    refine zw_iconst (v := (0 : Int32)) hX dX16_findPoints_146 (by decide) ?_
    refine zw_istore_n hX dX16_findPoints_147 (by decide) ?_
    obtain ⟨r, g, h⟩ := zb_some h
    refine zw_sub (lv' := [(0, .ref a0), (1, .int (0 : Int32))]) (List.forall_mem_cons.mpr ⟨rfl, (List.forall_mem_cons.mpr ⟨rfl, zs_nil⟩)⟩) ?_
    refine zt_X16_findPoints_L148 hX hr hR hd (res := r) (out := out) a0 ?_ ?_ N _ _ g
    · intro o ho
      subst ho
      exact Option.some.inj h
    · intro  S61 hx
      subst hx
      try dsimp only at h
      obtain rfl := Option.some.inj h
      exact zw_vret hX hr dX16_findPoints_246 ⟨rfl, rfl⟩

