/-! ===== functions of methods, by program (wip/whole/tools/gen11.py) ===== -/
theorem dX16_sideFrom_0 : decode cX16_sideFrom 0 = .ok (.iload_n 1, 1) := by decide +kernel
theorem dX16_sideFrom_1 : decode cX16_sideFrom 1 = .ok (.iconst 2, 1) := by decide +kernel
theorem dX16_sideFrom_2 : decode cX16_sideFrom 2 = .ok (.irem, 1) := by decide +kernel
theorem dX16_sideFrom_3 : decode cX16_sideFrom 3 = .ok (.ifCond .ne 14, 3) := by decide +kernel
theorem dX16_sideFrom_17 : decode cX16_sideFrom 17 = .ok (.aload_n 0, 1) := by decide +kernel
theorem dX16_sideFrom_18 : decode cX16_sideFrom 18 = .ok (.getfield 71, 3) := by decide +kernel
theorem dX16_sideFrom_21 : decode cX16_sideFrom 21 = .ok (.iload_n 1, 1) := by decide +kernel
theorem dX16_sideFrom_22 : decode cX16_sideFrom 22 = .ok (.iconst 2, 1) := by decide +kernel
theorem dX16_sideFrom_23 : decode cX16_sideFrom 23 = .ok (.idiv, 1) := by decide +kernel
theorem dX16_sideFrom_24 : decode cX16_sideFrom 24 = .ok (.iaload, 1) := by decide +kernel
theorem dX16_sideFrom_25 : decode cX16_sideFrom 25 = .ok (.ireturn, 1) := by decide +kernel
theorem dX16_sideFrom_6 : decode cX16_sideFrom 6 = .ok (.aload_n 0, 1) := by decide +kernel
theorem dX16_sideFrom_7 : decode cX16_sideFrom 7 = .ok (.getfield 68, 3) := by decide +kernel
theorem dX16_sideFrom_10 : decode cX16_sideFrom 10 = .ok (.iload_n 1, 1) := by decide +kernel
theorem dX16_sideFrom_11 : decode cX16_sideFrom 11 = .ok (.iconst 2, 1) := by decide +kernel
theorem dX16_sideFrom_12 : decode cX16_sideFrom 12 = .ok (.idiv, 1) := by decide +kernel
theorem dX16_sideFrom_13 : decode cX16_sideFrom 13 = .ok (.iaload, 1) := by decide +kernel
theorem dX16_sideFrom_14 : decode cX16_sideFrom 14 = .ok (.goto 11, 3) := by decide +kernel
theorem dX16_sideTo_0 : decode cX16_sideTo 0 = .ok (.iload_n 1, 1) := by decide +kernel
theorem dX16_sideTo_1 : decode cX16_sideTo 1 = .ok (.iconst 2, 1) := by decide +kernel
theorem dX16_sideTo_2 : decode cX16_sideTo 2 = .ok (.irem, 1) := by decide +kernel
theorem dX16_sideTo_3 : decode cX16_sideTo 3 = .ok (.ifCond .ne 14, 3) := by decide +kernel
theorem dX16_sideTo_17 : decode cX16_sideTo 17 = .ok (.aload_n 0, 1) := by decide +kernel
theorem dX16_sideTo_18 : decode cX16_sideTo 18 = .ok (.getfield 68, 3) := by decide +kernel
theorem dX16_sideTo_21 : decode cX16_sideTo 21 = .ok (.iload_n 1, 1) := by decide +kernel
theorem dX16_sideTo_22 : decode cX16_sideTo 22 = .ok (.iconst 2, 1) := by decide +kernel
theorem dX16_sideTo_23 : decode cX16_sideTo 23 = .ok (.idiv, 1) := by decide +kernel
theorem dX16_sideTo_24 : decode cX16_sideTo 24 = .ok (.iaload, 1) := by decide +kernel
theorem dX16_sideTo_25 : decode cX16_sideTo 25 = .ok (.ireturn, 1) := by decide +kernel
theorem dX16_sideTo_6 : decode cX16_sideTo 6 = .ok (.aload_n 0, 1) := by decide +kernel
theorem dX16_sideTo_7 : decode cX16_sideTo 7 = .ok (.getfield 71, 3) := by decide +kernel
theorem dX16_sideTo_10 : decode cX16_sideTo 10 = .ok (.iload_n 1, 1) := by decide +kernel
theorem dX16_sideTo_11 : decode cX16_sideTo 11 = .ok (.iconst 2, 1) := by decide +kernel
theorem dX16_sideTo_12 : decode cX16_sideTo 12 = .ok (.idiv, 1) := by decide +kernel
theorem dX16_sideTo_13 : decode cX16_sideTo 13 = .ok (.iaload, 1) := by decide +kernel
theorem dX16_sideTo_14 : decode cX16_sideTo 14 = .ok (.goto 11, 3) := by decide +kernel
theorem dX16_sideWay_0 : decode cX16_sideWay 0 = .ok (.aload_n 0, 1) := by decide +kernel
theorem dX16_sideWay_1 : decode cX16_sideWay 1 = .ok (.getfield 16, 3) := by decide +kernel
theorem dX16_sideWay_4 : decode cX16_sideWay 4 = .ok (.aload_n 0, 1) := by decide +kernel
theorem dX16_sideWay_5 : decode cX16_sideWay 5 = .ok (.getfield 65, 3) := by decide +kernel
theorem dX16_sideWay_8 : decode cX16_sideWay 8 = .ok (.iload_n 1, 1) := by decide +kernel
theorem dX16_sideWay_9 : decode cX16_sideWay 9 = .ok (.iconst 2, 1) := by decide +kernel
theorem dX16_sideWay_10 : decode cX16_sideWay 10 = .ok (.idiv, 1) := by decide +kernel
theorem dX16_sideWay_11 : decode cX16_sideWay 11 = .ok (.iaload, 1) := by decide +kernel
theorem dX16_sideWay_12 : decode cX16_sideWay 12 = .ok (.baload, 1) := by decide +kernel
theorem dX16_sideWay_13 : decode cX16_sideWay 13 = .ok (.ifCond .eq 7, 3) := by decide +kernel
theorem dX16_sideWay_20 : decode cX16_sideWay 20 = .ok (.iconst 1, 1) := by decide +kernel
theorem dX16_sideWay_21 : decode cX16_sideWay 21 = .ok (.iconst 2, 1) := by decide +kernel
theorem dX16_sideWay_22 : decode cX16_sideWay 22 = .ok (.iload_n 1, 1) := by decide +kernel
theorem dX16_sideWay_23 : decode cX16_sideWay 23 = .ok (.iconst 2, 1) := by decide +kernel
theorem dX16_sideWay_24 : decode cX16_sideWay 24 = .ok (.irem, 1) := by decide +kernel
theorem dX16_sideWay_25 : decode cX16_sideWay 25 = .ok (.imul, 1) := by decide +kernel
theorem dX16_sideWay_26 : decode cX16_sideWay 26 = .ok (.iadd, 1) := by decide +kernel
theorem dX16_sideWay_27 : decode cX16_sideWay 27 = .ok (.ireturn, 1) := by decide +kernel
theorem dX16_sideWay_16 : decode cX16_sideWay 16 = .ok (.iconst 0, 1) := by decide +kernel
theorem dX16_sideWay_17 : decode cX16_sideWay 17 = .ok (.goto 4, 3) := by decide +kernel
theorem dX16_sideLength_0 : decode cX16_sideLength 0 = .ok (.aload_n 0, 1) := by decide +kernel
theorem dX16_sideLength_1 : decode cX16_sideLength 1 = .ok (.getfield 68, 3) := by decide +kernel
theorem dX16_sideLength_4 : decode cX16_sideLength 4 = .ok (.iload_n 1, 1) := by decide +kernel
theorem dX16_sideLength_5 : decode cX16_sideLength 5 = .ok (.iconst 2, 1) := by decide +kernel
theorem dX16_sideLength_6 : decode cX16_sideLength 6 = .ok (.idiv, 1) := by decide +kernel
theorem dX16_sideLength_7 : decode cX16_sideLength 7 = .ok (.iaload, 1) := by decide +kernel
theorem dX16_sideLength_8 : decode cX16_sideLength 8 = .ok (.istore_n 2, 1) := by decide +kernel
theorem dX16_sideLength_9 : decode cX16_sideLength 9 = .ok (.aload_n 0, 1) := by decide +kernel
theorem dX16_sideLength_10 : decode cX16_sideLength 10 = .ok (.getfield 71, 3) := by decide +kernel
theorem dX16_sideLength_13 : decode cX16_sideLength 13 = .ok (.iload_n 1, 1) := by decide +kernel
theorem dX16_sideLength_14 : decode cX16_sideLength 14 = .ok (.iconst 2, 1) := by decide +kernel
theorem dX16_sideLength_15 : decode cX16_sideLength 15 = .ok (.idiv, 1) := by decide +kernel
theorem dX16_sideLength_16 : decode cX16_sideLength 16 = .ok (.iaload, 1) := by decide +kernel
theorem dX16_sideLength_17 : decode cX16_sideLength 17 = .ok (.istore_n 3, 1) := by decide +kernel
theorem dX16_sideLength_18 : decode cX16_sideLength 18 = .ok (.aload_n 0, 1) := by decide +kernel
theorem dX16_sideLength_19 : decode cX16_sideLength 19 = .ok (.getfield 59, 3) := by decide +kernel
theorem dX16_sideLength_22 : decode cX16_sideLength 22 = .ok (.iload_n 3, 1) := by decide +kernel
theorem dX16_sideLength_23 : decode cX16_sideLength 23 = .ok (.iaload, 1) := by decide +kernel
theorem dX16_sideLength_24 : decode cX16_sideLength 24 = .ok (.aload_n 0, 1) := by decide +kernel
theorem dX16_sideLength_25 : decode cX16_sideLength 25 = .ok (.getfield 59, 3) := by decide +kernel
theorem dX16_sideLength_28 : decode cX16_sideLength 28 = .ok (.iload_n 2, 1) := by decide +kernel
theorem dX16_sideLength_29 : decode cX16_sideLength 29 = .ok (.iaload, 1) := by decide +kernel
theorem dX16_sideLength_30 : decode cX16_sideLength 30 = .ok (.isub, 1) := by decide +kernel
theorem dX16_sideLength_31 : decode cX16_sideLength 31 = .ok (.aload_n 0, 1) := by decide +kernel
theorem dX16_sideLength_32 : decode cX16_sideLength 32 = .ok (.getfield 62, 3) := by decide +kernel
theorem dX16_sideLength_35 : decode cX16_sideLength 35 = .ok (.iload_n 3, 1) := by decide +kernel
theorem dX16_sideLength_36 : decode cX16_sideLength 36 = .ok (.iaload, 1) := by decide +kernel
theorem dX16_sideLength_37 : decode cX16_sideLength 37 = .ok (.iadd, 1) := by decide +kernel
theorem dX16_sideLength_38 : decode cX16_sideLength 38 = .ok (.aload_n 0, 1) := by decide +kernel
theorem dX16_sideLength_39 : decode cX16_sideLength 39 = .ok (.getfield 62, 3) := by decide +kernel
theorem dX16_sideLength_42 : decode cX16_sideLength 42 = .ok (.iload_n 2, 1) := by decide +kernel
theorem dX16_sideLength_43 : decode cX16_sideLength 43 = .ok (.iaload, 1) := by decide +kernel
theorem dX16_sideLength_44 : decode cX16_sideLength 44 = .ok (.isub, 1) := by decide +kernel
theorem dX16_sideLength_45 : decode cX16_sideLength 45 = .ok (.ireturn, 1) := by decide +kernel
theorem dX16_left_0 : decode cX16_left 0 = .ok (.aload_n 0, 1) := by decide +kernel
theorem dX16_left_1 : decode cX16_left 1 = .ok (.getfield 68, 3) := by decide +kernel
theorem dX16_left_4 : decode cX16_left 4 = .ok (.iload_n 1, 1) := by decide +kernel
theorem dX16_left_5 : decode cX16_left 5 = .ok (.iconst 2, 1) := by decide +kernel
theorem dX16_left_6 : decode cX16_left 6 = .ok (.idiv, 1) := by decide +kernel
theorem dX16_left_7 : decode cX16_left 7 = .ok (.iaload, 1) := by decide +kernel
theorem dX16_left_8 : decode cX16_left 8 = .ok (.istore_n 2, 1) := by decide +kernel
theorem dX16_left_9 : decode cX16_left 9 = .ok (.aload_n 0, 1) := by decide +kernel
theorem dX16_left_10 : decode cX16_left 10 = .ok (.getfield 35, 3) := by decide +kernel
theorem dX16_left_13 : decode cX16_left 13 = .ok (.aload_n 0, 1) := by decide +kernel
theorem dX16_left_14 : decode cX16_left 14 = .ok (.getfield 59, 3) := by decide +kernel
theorem dX16_left_17 : decode cX16_left 17 = .ok (.iload_n 2, 1) := by decide +kernel
theorem dX16_left_18 : decode cX16_left 18 = .ok (.iaload, 1) := by decide +kernel
theorem dX16_left_19 : decode cX16_left 19 = .ok (.invokestatic 146, 3) := by decide +kernel
theorem dX16_left_22 : decode cX16_left 22 = .ok (.istore_n 3, 1) := by decide +kernel
theorem dX16_left_23 : decode cX16_left 23 = .ok (.aload_n 0, 1) := by decide +kernel
theorem dX16_left_24 : decode cX16_left 24 = .ok (.getfield 38, 3) := by decide +kernel
theorem dX16_left_27 : decode cX16_left 27 = .ok (.aload_n 0, 1) := by decide +kernel
theorem dX16_left_28 : decode cX16_left 28 = .ok (.getfield 62, 3) := by decide +kernel
theorem dX16_left_31 : decode cX16_left 31 = .ok (.iload_n 2, 1) := by decide +kernel
theorem dX16_left_32 : decode cX16_left 32 = .ok (.iaload, 1) := by decide +kernel
theorem dX16_left_33 : decode cX16_left 33 = .ok (.invokestatic 146, 3) := by decide +kernel
theorem dX16_left_36 : decode cX16_left 36 = .ok (.istore 4, 2) := by decide +kernel
theorem dX16_left_38 : decode cX16_left 38 = .ok (.aload_n 0, 1) := by decide +kernel
theorem dX16_left_39 : decode cX16_left 39 = .ok (.iload_n 1, 1) := by decide +kernel
theorem dX16_left_40 : decode cX16_left 40 = .ok (.invokevirtual 150, 3) := by decide +kernel
theorem dX16_left_43 : decode cX16_left 43 = .ok (.tableswitch 72 0 2 #[25, 57, 42], 25) := by decide +kernel
theorem dX16_left_115 : decode cX16_left 115 = .ok (.aload_n 0, 1) := by decide +kernel
theorem dX16_left_116 : decode cX16_left 116 = .ok (.getfield 41, 3) := by decide +kernel
theorem dX16_left_119 : decode cX16_left 119 = .ok (.bipush 42, 2) := by decide +kernel
theorem dX16_left_121 : decode cX16_left 121 = .ok (.iload 4, 2) := by decide +kernel
theorem dX16_left_123 : decode cX16_left 123 = .ok (.iconst 1, 1) := by decide +kernel
theorem dX16_left_124 : decode cX16_left 124 = .ok (.iadd, 1) := by decide +kernel
theorem dX16_left_125 : decode cX16_left 125 = .ok (.imul, 1) := by decide +kernel
theorem dX16_left_126 : decode cX16_left 126 = .ok (.iload_n 3, 1) := by decide +kernel
theorem dX16_left_127 : decode cX16_left 127 = .ok (.iadd, 1) := by decide +kernel
theorem dX16_left_128 : decode cX16_left 128 = .ok (.iconst 1, 1) := by decide +kernel
theorem dX16_left_129 : decode cX16_left 129 = .ok (.iadd, 1) := by decide +kernel
theorem dX16_left_130 : decode cX16_left 130 = .ok (.iaload, 1) := by decide +kernel
theorem dX16_left_131 : decode cX16_left 131 = .ok (.ireturn, 1) := by decide +kernel
theorem dX16_left_68 : decode cX16_left 68 = .ok (.aload_n 0, 1) := by decide +kernel
theorem dX16_left_69 : decode cX16_left 69 = .ok (.getfield 41, 3) := by decide +kernel
theorem dX16_left_72 : decode cX16_left 72 = .ok (.bipush 42, 2) := by decide +kernel
theorem dX16_left_74 : decode cX16_left 74 = .ok (.iload 4, 2) := by decide +kernel
theorem dX16_left_76 : decode cX16_left 76 = .ok (.iconst 1, 1) := by decide +kernel
theorem dX16_left_77 : decode cX16_left 77 = .ok (.iadd, 1) := by decide +kernel
theorem dX16_left_78 : decode cX16_left 78 = .ok (.imul, 1) := by decide +kernel
theorem dX16_left_79 : decode cX16_left 79 = .ok (.iload_n 3, 1) := by decide +kernel
theorem dX16_left_80 : decode cX16_left 80 = .ok (.iadd, 1) := by decide +kernel
theorem dX16_left_81 : decode cX16_left 81 = .ok (.iconst 1, 1) := by decide +kernel
theorem dX16_left_82 : decode cX16_left 82 = .ok (.iadd, 1) := by decide +kernel
theorem dX16_left_83 : decode cX16_left 83 = .ok (.iaload, 1) := by decide +kernel
theorem dX16_left_84 : decode cX16_left 84 = .ok (.ireturn, 1) := by decide +kernel
theorem dX16_left_100 : decode cX16_left 100 = .ok (.aload_n 0, 1) := by decide +kernel
theorem dX16_left_101 : decode cX16_left 101 = .ok (.getfield 41, 3) := by decide +kernel
theorem dX16_left_104 : decode cX16_left 104 = .ok (.bipush 42, 2) := by decide +kernel
theorem dX16_left_106 : decode cX16_left 106 = .ok (.iload 4, 2) := by decide +kernel
theorem dX16_left_108 : decode cX16_left 108 = .ok (.iconst 1, 1) := by decide +kernel
theorem dX16_left_109 : decode cX16_left 109 = .ok (.iadd, 1) := by decide +kernel
theorem dX16_left_110 : decode cX16_left 110 = .ok (.imul, 1) := by decide +kernel
theorem dX16_left_111 : decode cX16_left 111 = .ok (.iload_n 3, 1) := by decide +kernel
theorem dX16_left_112 : decode cX16_left 112 = .ok (.iadd, 1) := by decide +kernel
theorem dX16_left_113 : decode cX16_left 113 = .ok (.iaload, 1) := by decide +kernel
theorem dX16_left_114 : decode cX16_left 114 = .ok (.ireturn, 1) := by decide +kernel
theorem dX16_left_85 : decode cX16_left 85 = .ok (.aload_n 0, 1) := by decide +kernel
theorem dX16_left_86 : decode cX16_left 86 = .ok (.getfield 41, 3) := by decide +kernel
theorem dX16_left_89 : decode cX16_left 89 = .ok (.bipush 42, 2) := by decide +kernel
theorem dX16_left_91 : decode cX16_left 91 = .ok (.iload 4, 2) := by decide +kernel
theorem dX16_left_93 : decode cX16_left 93 = .ok (.imul, 1) := by decide +kernel
theorem dX16_left_94 : decode cX16_left 94 = .ok (.iload_n 3, 1) := by decide +kernel
theorem dX16_left_95 : decode cX16_left 95 = .ok (.iadd, 1) := by decide +kernel
theorem dX16_left_96 : decode cX16_left 96 = .ok (.iconst 1, 1) := by decide +kernel
theorem dX16_left_97 : decode cX16_left 97 = .ok (.iadd, 1) := by decide +kernel
theorem dX16_left_98 : decode cX16_left 98 = .ok (.iaload, 1) := by decide +kernel
theorem dX16_left_99 : decode cX16_left 99 = .ok (.ireturn, 1) := by decide +kernel
theorem dX16_right_0 : decode cX16_right 0 = .ok (.aload_n 0, 1) := by decide +kernel
theorem dX16_right_1 : decode cX16_right 1 = .ok (.iload_n 1, 1) := by decide +kernel
theorem dX16_right_2 : decode cX16_right 2 = .ok (.iconst 2, 1) := by decide +kernel
theorem dX16_right_3 : decode cX16_right 3 = .ok (.irem, 1) := by decide +kernel
theorem dX16_right_4 : decode cX16_right 4 = .ok (.ifCond .ne 9, 3) := by decide +kernel
theorem dX16_right_13 : decode cX16_right 13 = .ok (.iload_n 1, 1) := by decide +kernel
theorem dX16_right_14 : decode cX16_right 14 = .ok (.iconst 1, 1) := by decide +kernel
theorem dX16_right_15 : decode cX16_right 15 = .ok (.isub, 1) := by decide +kernel
theorem dX16_right_16 : decode cX16_right 16 = .ok (.invokevirtual 153, 3) := by decide +kernel
theorem dX16_right_19 : decode cX16_right 19 = .ok (.ireturn, 1) := by decide +kernel
theorem dX16_right_7 : decode cX16_right 7 = .ok (.iload_n 1, 1) := by decide +kernel
theorem dX16_right_8 : decode cX16_right 8 = .ok (.iconst 1, 1) := by decide +kernel
theorem dX16_right_9 : decode cX16_right 9 = .ok (.iadd, 1) := by decide +kernel
theorem dX16_right_10 : decode cX16_right 10 = .ok (.goto 6, 3) := by decide +kernel
theorem dX16_leaving_0 : decode cX16_leaving 0 = .ok (.iconst (-1), 1) := by decide +kernel
theorem dX16_leaving_1 : decode cX16_leaving 1 = .ok (.istore_n 3, 1) := by decide +kernel
theorem dX16_leaving_2 : decode cX16_leaving 2 = .ok (.iconst 0, 1) := by decide +kernel
theorem dX16_leaving_3 : decode cX16_leaving 3 = .ok (.istore 4, 2) := by decide +kernel
theorem dX16_leaving_5 : decode cX16_leaving 5 = .ok (.iload 4, 2) := by decide +kernel
theorem dX16_leaving_7 : decode cX16_leaving 7 = .ok (.iconst 2, 1) := by decide +kernel
theorem dX16_leaving_8 : decode cX16_leaving 8 = .ok (.aload_n 0, 1) := by decide +kernel
theorem dX16_leaving_9 : decode cX16_leaving 9 = .ok (.getfield 143, 3) := by decide +kernel
theorem dX16_leaving_12 : decode cX16_leaving 12 = .ok (.imul, 1) := by decide +kernel
theorem dX16_leaving_13 : decode cX16_leaving 13 = .ok (.if_icmp .ge 36, 3) := by decide +kernel
theorem dX16_leaving_16 : decode cX16_leaving 16 = .ok (.aload_n 0, 1) := by decide +kernel
theorem dX16_leaving_17 : decode cX16_leaving 17 = .ok (.iload 4, 2) := by decide +kernel
theorem dX16_leaving_19 : decode cX16_leaving 19 = .ok (.invokevirtual 156, 3) := by decide +kernel
theorem dX16_leaving_22 : decode cX16_leaving 22 = .ok (.iload_n 1, 1) := by decide +kernel
theorem dX16_leaving_23 : decode cX16_leaving 23 = .ok (.if_icmp .ne 18, 3) := by decide +kernel
theorem dX16_leaving_41 : decode cX16_leaving 41 = .ok (.iload_n 3, 1) := by decide +kernel
theorem dX16_leaving_42 : decode cX16_leaving 42 = .ok (.istore_n 3, 1) := by decide +kernel
theorem dX16_leaving_43 : decode cX16_leaving 43 = .ok (.iinc 4 1, 3) := by decide +kernel
theorem dX16_leaving_46 : decode cX16_leaving 46 = .ok (.goto (-41), 3) := by decide +kernel
theorem dX16_leaving_26 : decode cX16_leaving 26 = .ok (.aload_n 0, 1) := by decide +kernel
theorem dX16_leaving_27 : decode cX16_leaving 27 = .ok (.iload 4, 2) := by decide +kernel
theorem dX16_leaving_29 : decode cX16_leaving 29 = .ok (.invokevirtual 150, 3) := by decide +kernel
theorem dX16_leaving_32 : decode cX16_leaving 32 = .ok (.iload_n 2, 1) := by decide +kernel
theorem dX16_leaving_33 : decode cX16_leaving 33 = .ok (.if_icmp .ne 8, 3) := by decide +kernel
theorem dX16_leaving_36 : decode cX16_leaving 36 = .ok (.iload 4, 2) := by decide +kernel
theorem dX16_leaving_38 : decode cX16_leaving 38 = .ok (.goto 4, 3) := by decide +kernel
theorem dX16_leaving_49 : decode cX16_leaving 49 = .ok (.iload_n 3, 1) := by decide +kernel
theorem dX16_leaving_50 : decode cX16_leaving 50 = .ok (.ireturn, 1) := by decide +kernel
theorem dX16_next_0 : decode cX16_next 0 = .ok (.iconst (-1), 1) := by decide +kernel
theorem dX16_next_1 : decode cX16_next 1 = .ok (.istore_n 2, 1) := by decide +kernel
theorem dX16_next_2 : decode cX16_next 2 = .ok (.iconst 1, 1) := by decide +kernel
theorem dX16_next_3 : decode cX16_next 3 = .ok (.istore_n 3, 1) := by decide +kernel
theorem dX16_next_4 : decode cX16_next 4 = .ok (.iload_n 3, 1) := by decide +kernel
theorem dX16_next_5 : decode cX16_next 5 = .ok (.bipush (-3), 2) := by decide +kernel
theorem dX16_next_7 : decode cX16_next 7 = .ok (.if_icmp .le 34, 3) := by decide +kernel
theorem dX16_next_10 : decode cX16_next 10 = .ok (.iload_n 2, 1) := by decide +kernel
theorem dX16_next_11 : decode cX16_next 11 = .ok (.ifCond .ge 30, 3) := by decide +kernel
theorem dX16_next_14 : decode cX16_next 14 = .ok (.aload_n 0, 1) := by decide +kernel
theorem dX16_next_15 : decode cX16_next 15 = .ok (.aload_n 0, 1) := by decide +kernel
theorem dX16_next_16 : decode cX16_next 16 = .ok (.iload_n 1, 1) := by decide +kernel
theorem dX16_next_17 : decode cX16_next 17 = .ok (.invokevirtual 159, 3) := by decide +kernel
theorem dX16_next_20 : decode cX16_next 20 = .ok (.aload_n 0, 1) := by decide +kernel
theorem dX16_next_21 : decode cX16_next 21 = .ok (.iload_n 1, 1) := by decide +kernel
theorem dX16_next_22 : decode cX16_next 22 = .ok (.invokevirtual 150, 3) := by decide +kernel
theorem dX16_next_25 : decode cX16_next 25 = .ok (.iload_n 3, 1) := by decide +kernel
theorem dX16_next_26 : decode cX16_next 26 = .ok (.iadd, 1) := by decide +kernel
theorem dX16_next_27 : decode cX16_next 27 = .ok (.iconst 4, 1) := by decide +kernel
theorem dX16_next_28 : decode cX16_next 28 = .ok (.iadd, 1) := by decide +kernel
theorem dX16_next_29 : decode cX16_next 29 = .ok (.iconst 4, 1) := by decide +kernel
theorem dX16_next_30 : decode cX16_next 30 = .ok (.irem, 1) := by decide +kernel
theorem dX16_next_31 : decode cX16_next 31 = .ok (.invokevirtual 162, 3) := by decide +kernel
theorem dX16_next_34 : decode cX16_next 34 = .ok (.istore_n 2, 1) := by decide +kernel
theorem dX16_next_35 : decode cX16_next 35 = .ok (.iinc 3 (-1), 3) := by decide +kernel
theorem dX16_next_38 : decode cX16_next 38 = .ok (.goto (-34), 3) := by decide +kernel
theorem dX16_next_41 : decode cX16_next 41 = .ok (.iload_n 2, 1) := by decide +kernel
theorem dX16_next_42 : decode cX16_next 42 = .ok (.ireturn, 1) := by decide +kernel
theorem dX16_findRings_0 : decode cX16_findRings 0 = .ok (.aload_n 0, 1) := by decide +kernel
theorem dX16_findRings_1 : decode cX16_findRings 1 = .ok (.iconst 0, 1) := by decide +kernel
theorem dX16_findRings_2 : decode cX16_findRings 2 = .ok (.putfield 165, 3) := by decide +kernel
theorem dX16_findRings_5 : decode cX16_findRings 5 = .ok (.iconst 0, 1) := by decide +kernel
theorem dX16_findRings_6 : decode cX16_findRings 6 = .ok (.istore_n 1, 1) := by decide +kernel
theorem dX16_findRings_7 : decode cX16_findRings 7 = .ok (.iload_n 1, 1) := by decide +kernel
theorem dX16_findRings_8 : decode cX16_findRings 8 = .ok (.iconst 2, 1) := by decide +kernel
theorem dX16_findRings_9 : decode cX16_findRings 9 = .ok (.aload_n 0, 1) := by decide +kernel
theorem dX16_findRings_10 : decode cX16_findRings 10 = .ok (.getfield 143, 3) := by decide +kernel
theorem dX16_findRings_13 : decode cX16_findRings 13 = .ok (.imul, 1) := by decide +kernel
theorem dX16_findRings_14 : decode cX16_findRings 14 = .ok (.if_icmp .ge 16, 3) := by decide +kernel
theorem dX16_findRings_17 : decode cX16_findRings 17 = .ok (.aload_n 0, 1) := by decide +kernel
theorem dX16_findRings_18 : decode cX16_findRings 18 = .ok (.getfield 74, 3) := by decide +kernel
theorem dX16_findRings_21 : decode cX16_findRings 21 = .ok (.iload_n 1, 1) := by decide +kernel
theorem dX16_findRings_22 : decode cX16_findRings 22 = .ok (.iconst 0, 1) := by decide +kernel
theorem dX16_findRings_23 : decode cX16_findRings 23 = .ok (.bastore, 1) := by decide +kernel
theorem dX16_findRings_24 : decode cX16_findRings 24 = .ok (.iinc 1 1, 3) := by decide +kernel
theorem dX16_findRings_27 : decode cX16_findRings 27 = .ok (.goto (-20), 3) := by decide +kernel
theorem dX16_findRings_30 : decode cX16_findRings 30 = .ok (.iconst 0, 1) := by decide +kernel
theorem dX16_findRings_31 : decode cX16_findRings 31 = .ok (.istore_n 1, 1) := by decide +kernel
theorem dX16_findRings_32 : decode cX16_findRings 32 = .ok (.iload_n 1, 1) := by decide +kernel
theorem dX16_findRings_33 : decode cX16_findRings 33 = .ok (.aload_n 0, 1) := by decide +kernel
theorem dX16_findRings_34 : decode cX16_findRings 34 = .ok (.getfield 129, 3) := by decide +kernel
theorem dX16_findRings_37 : decode cX16_findRings 37 = .ok (.if_icmp .ge 110, 3) := by decide +kernel
theorem dX16_findRings_40 : decode cX16_findRings 40 = .ok (.iconst 0, 1) := by decide +kernel
theorem dX16_findRings_41 : decode cX16_findRings 41 = .ok (.istore_n 2, 1) := by decide +kernel
theorem dX16_findRings_42 : decode cX16_findRings 42 = .ok (.iload_n 2, 1) := by decide +kernel
theorem dX16_findRings_43 : decode cX16_findRings 43 = .ok (.iconst 4, 1) := by decide +kernel
theorem dX16_findRings_44 : decode cX16_findRings 44 = .ok (.if_icmp .ge 97, 3) := by decide +kernel
theorem dX16_findRings_47 : decode cX16_findRings 47 = .ok (.aload_n 0, 1) := by decide +kernel
theorem dX16_findRings_48 : decode cX16_findRings 48 = .ok (.iload_n 1, 1) := by decide +kernel
theorem dX16_findRings_49 : decode cX16_findRings 49 = .ok (.iload_n 2, 1) := by decide +kernel
theorem dX16_findRings_50 : decode cX16_findRings 50 = .ok (.invokevirtual 162, 3) := by decide +kernel
theorem dX16_findRings_53 : decode cX16_findRings 53 = .ok (.istore_n 3, 1) := by decide +kernel
theorem dX16_findRings_54 : decode cX16_findRings 54 = .ok (.iload_n 3, 1) := by decide +kernel
theorem dX16_findRings_55 : decode cX16_findRings 55 = .ok (.ifCond .lt 80, 3) := by decide +kernel
theorem dX16_findRings_135 : decode cX16_findRings 135 = .ok (.iinc 2 1, 3) := by decide +kernel
theorem dX16_findRings_138 : decode cX16_findRings 138 = .ok (.goto (-96), 3) := by decide +kernel
theorem dX16_findRings_58 : decode cX16_findRings 58 = .ok (.aload_n 0, 1) := by decide +kernel
theorem dX16_findRings_59 : decode cX16_findRings 59 = .ok (.getfield 74, 3) := by decide +kernel
theorem dX16_findRings_62 : decode cX16_findRings 62 = .ok (.iload_n 3, 1) := by decide +kernel
theorem dX16_findRings_63 : decode cX16_findRings 63 = .ok (.baload, 1) := by decide +kernel
theorem dX16_findRings_64 : decode cX16_findRings 64 = .ok (.ifCond .ne 71, 3) := by decide +kernel
theorem dX16_findRings_67 : decode cX16_findRings 67 = .ok (.aload_n 0, 1) := by decide +kernel
theorem dX16_findRings_68 : decode cX16_findRings 68 = .ok (.getfield 77, 3) := by decide +kernel
theorem dX16_findRings_71 : decode cX16_findRings 71 = .ok (.aload_n 0, 1) := by decide +kernel
theorem dX16_findRings_72 : decode cX16_findRings 72 = .ok (.getfield 165, 3) := by decide +kernel
theorem dX16_findRings_75 : decode cX16_findRings 75 = .ok (.iload_n 3, 1) := by decide +kernel
theorem dX16_findRings_76 : decode cX16_findRings 76 = .ok (.iastore, 1) := by decide +kernel
theorem dX16_findRings_77 : decode cX16_findRings 77 = .ok (.aload_n 0, 1) := by decide +kernel
theorem dX16_findRings_78 : decode cX16_findRings 78 = .ok (.getfield 80, 3) := by decide +kernel
theorem dX16_findRings_81 : decode cX16_findRings 81 = .ok (.aload_n 0, 1) := by decide +kernel
theorem dX16_findRings_82 : decode cX16_findRings 82 = .ok (.getfield 165, 3) := by decide +kernel
theorem dX16_findRings_85 : decode cX16_findRings 85 = .ok (.iconst 0, 1) := by decide +kernel
theorem dX16_findRings_86 : decode cX16_findRings 86 = .ok (.iastore, 1) := by decide +kernel
theorem dX16_findRings_87 : decode cX16_findRings 87 = .ok (.aload_n 0, 1) := by decide +kernel
theorem dX16_findRings_88 : decode cX16_findRings 88 = .ok (.getfield 74, 3) := by decide +kernel
theorem dX16_findRings_91 : decode cX16_findRings 91 = .ok (.iload_n 3, 1) := by decide +kernel
theorem dX16_findRings_92 : decode cX16_findRings 92 = .ok (.baload, 1) := by decide +kernel
theorem dX16_findRings_93 : decode cX16_findRings 93 = .ok (.ifCond .ne 32, 3) := by decide +kernel
theorem dX16_findRings_96 : decode cX16_findRings 96 = .ok (.aload_n 0, 1) := by decide +kernel
theorem dX16_findRings_97 : decode cX16_findRings 97 = .ok (.getfield 74, 3) := by decide +kernel
theorem dX16_findRings_100 : decode cX16_findRings 100 = .ok (.iload_n 3, 1) := by decide +kernel
theorem dX16_findRings_101 : decode cX16_findRings 101 = .ok (.iconst 1, 1) := by decide +kernel
theorem dX16_findRings_102 : decode cX16_findRings 102 = .ok (.bastore, 1) := by decide +kernel
theorem dX16_findRings_103 : decode cX16_findRings 103 = .ok (.aload_n 0, 1) := by decide +kernel
theorem dX16_findRings_104 : decode cX16_findRings 104 = .ok (.getfield 80, 3) := by decide +kernel
theorem dX16_findRings_107 : decode cX16_findRings 107 = .ok (.aload_n 0, 1) := by decide +kernel
theorem dX16_findRings_108 : decode cX16_findRings 108 = .ok (.getfield 165, 3) := by decide +kernel
theorem dX16_findRings_111 : decode cX16_findRings 111 = .ok (.dup2, 1) := by decide +kernel
theorem dX16_findRings_112 : decode cX16_findRings 112 = .ok (.iaload, 1) := by decide +kernel
theorem dX16_findRings_113 : decode cX16_findRings 113 = .ok (.iconst 1, 1) := by decide +kernel
theorem dX16_findRings_114 : decode cX16_findRings 114 = .ok (.iadd, 1) := by decide +kernel
theorem dX16_findRings_115 : decode cX16_findRings 115 = .ok (.iastore, 1) := by decide +kernel
theorem dX16_findRings_116 : decode cX16_findRings 116 = .ok (.aload_n 0, 1) := by decide +kernel
theorem dX16_findRings_117 : decode cX16_findRings 117 = .ok (.iload_n 3, 1) := by decide +kernel
theorem dX16_findRings_118 : decode cX16_findRings 118 = .ok (.invokevirtual 168, 3) := by decide +kernel
theorem dX16_findRings_121 : decode cX16_findRings 121 = .ok (.istore_n 3, 1) := by decide +kernel
theorem dX16_findRings_122 : decode cX16_findRings 122 = .ok (.goto (-35), 3) := by decide +kernel
theorem dX16_findRings_125 : decode cX16_findRings 125 = .ok (.aload_n 0, 1) := by decide +kernel
theorem dX16_findRings_126 : decode cX16_findRings 126 = .ok (.dup, 1) := by decide +kernel
theorem dX16_findRings_127 : decode cX16_findRings 127 = .ok (.getfield 165, 3) := by decide +kernel
theorem dX16_findRings_130 : decode cX16_findRings 130 = .ok (.iconst 1, 1) := by decide +kernel
theorem dX16_findRings_131 : decode cX16_findRings 131 = .ok (.iadd, 1) := by decide +kernel
theorem dX16_findRings_132 : decode cX16_findRings 132 = .ok (.putfield 165, 3) := by decide +kernel
theorem dX16_findRings_141 : decode cX16_findRings 141 = .ok (.iinc 1 1, 3) := by decide +kernel
theorem dX16_findRings_144 : decode cX16_findRings 144 = .ok (.goto (-112), 3) := by decide +kernel
theorem dX16_findRings_147 : decode cX16_findRings 147 = .ok (.return_, 1) := by decide +kernel
theorem dX16_number_0 : decode cX16_number 0 = .ok (.aload_n 0, 1) := by decide +kernel
theorem dX16_number_1 : decode cX16_number 1 = .ok (.iconst 0, 1) := by decide +kernel
theorem dX16_number_2 : decode cX16_number 2 = .ok (.putfield 171, 3) := by decide +kernel
theorem dX16_number_5 : decode cX16_number 5 = .ok (.aload_n 0, 1) := by decide +kernel
theorem dX16_number_6 : decode cX16_number 6 = .ok (.getfield 41, 3) := by decide +kernel
theorem dX16_number_9 : decode cX16_number 9 = .ok (.iconst 0, 1) := by decide +kernel
theorem dX16_number_10 : decode cX16_number 10 = .ok (.iaload, 1) := by decide +kernel
theorem dX16_number_11 : decode cX16_number 11 = .ok (.istore_n 1, 1) := by decide +kernel
theorem dX16_number_12 : decode cX16_number 12 = .ok (.iconst 0, 1) := by decide +kernel
theorem dX16_number_13 : decode cX16_number 13 = .ok (.istore_n 2, 1) := by decide +kernel
theorem dX16_number_14 : decode cX16_number 14 = .ok (.iload_n 2, 1) := by decide +kernel
theorem dX16_number_15 : decode cX16_number 15 = .ok (.sipush 1764, 3) := by decide +kernel
theorem dX16_number_18 : decode cX16_number 18 = .ok (.if_icmp .ge 17, 3) := by decide +kernel
theorem dX16_number_21 : decode cX16_number 21 = .ok (.aload_n 0, 1) := by decide +kernel
theorem dX16_number_22 : decode cX16_number 22 = .ok (.getfield 83, 3) := by decide +kernel
theorem dX16_number_25 : decode cX16_number 25 = .ok (.iload_n 2, 1) := by decide +kernel
theorem dX16_number_26 : decode cX16_number 26 = .ok (.bipush (-2), 2) := by decide +kernel
theorem dX16_number_28 : decode cX16_number 28 = .ok (.iastore, 1) := by decide +kernel
theorem dX16_number_29 : decode cX16_number 29 = .ok (.iinc 2 1, 3) := by decide +kernel
theorem dX16_number_32 : decode cX16_number 32 = .ok (.goto (-18), 3) := by decide +kernel
theorem dX16_number_35 : decode cX16_number 35 = .ok (.aload_n 0, 1) := by decide +kernel
theorem dX16_number_36 : decode cX16_number 36 = .ok (.getfield 83, 3) := by decide +kernel
theorem dX16_number_39 : decode cX16_number 39 = .ok (.iload_n 1, 1) := by decide +kernel
theorem dX16_number_40 : decode cX16_number 40 = .ok (.iconst (-1), 1) := by decide +kernel
theorem dX16_number_41 : decode cX16_number 41 = .ok (.iastore, 1) := by decide +kernel
theorem dX16_number_42 : decode cX16_number 42 = .ok (.iconst 0, 1) := by decide +kernel
theorem dX16_number_43 : decode cX16_number 43 = .ok (.istore_n 2, 1) := by decide +kernel
theorem dX16_number_44 : decode cX16_number 44 = .ok (.iload_n 2, 1) := by decide +kernel
theorem dX16_number_45 : decode cX16_number 45 = .ok (.aload_n 0, 1) := by decide +kernel
theorem dX16_number_46 : decode cX16_number 46 = .ok (.getfield 165, 3) := by decide +kernel
theorem dX16_number_49 : decode cX16_number 49 = .ok (.if_icmp .ge 51, 3) := by decide +kernel
theorem dX16_number_52 : decode cX16_number 52 = .ok (.aload_n 0, 1) := by decide +kernel
theorem dX16_number_53 : decode cX16_number 53 = .ok (.aload_n 0, 1) := by decide +kernel
theorem dX16_number_54 : decode cX16_number 54 = .ok (.getfield 77, 3) := by decide +kernel
theorem dX16_number_57 : decode cX16_number 57 = .ok (.iload_n 2, 1) := by decide +kernel
theorem dX16_number_58 : decode cX16_number 58 = .ok (.iaload, 1) := by decide +kernel
theorem dX16_number_59 : decode cX16_number 59 = .ok (.invokevirtual 153, 3) := by decide +kernel
theorem dX16_number_62 : decode cX16_number 62 = .ok (.istore_n 3, 1) := by decide +kernel
theorem dX16_number_63 : decode cX16_number 63 = .ok (.aload_n 0, 1) := by decide +kernel
theorem dX16_number_64 : decode cX16_number 64 = .ok (.getfield 83, 3) := by decide +kernel
theorem dX16_number_67 : decode cX16_number 67 = .ok (.iload_n 3, 1) := by decide +kernel
theorem dX16_number_68 : decode cX16_number 68 = .ok (.iaload, 1) := by decide +kernel
theorem dX16_number_69 : decode cX16_number 69 = .ok (.bipush (-2), 2) := by decide +kernel
theorem dX16_number_71 : decode cX16_number 71 = .ok (.if_icmp .ne 23, 3) := by decide +kernel
theorem dX16_number_94 : decode cX16_number 94 = .ok (.iinc 2 1, 3) := by decide +kernel
theorem dX16_number_97 : decode cX16_number 97 = .ok (.goto (-53), 3) := by decide +kernel
theorem dX16_number_74 : decode cX16_number 74 = .ok (.aload_n 0, 1) := by decide +kernel
theorem dX16_number_75 : decode cX16_number 75 = .ok (.getfield 83, 3) := by decide +kernel
theorem dX16_number_78 : decode cX16_number 78 = .ok (.iload_n 3, 1) := by decide +kernel
theorem dX16_number_79 : decode cX16_number 79 = .ok (.aload_n 0, 1) := by decide +kernel
theorem dX16_number_80 : decode cX16_number 80 = .ok (.getfield 171, 3) := by decide +kernel
theorem dX16_number_83 : decode cX16_number 83 = .ok (.iastore, 1) := by decide +kernel
theorem dX16_number_84 : decode cX16_number 84 = .ok (.aload_n 0, 1) := by decide +kernel
theorem dX16_number_85 : decode cX16_number 85 = .ok (.dup, 1) := by decide +kernel
theorem dX16_number_86 : decode cX16_number 86 = .ok (.getfield 171, 3) := by decide +kernel
theorem dX16_number_89 : decode cX16_number 89 = .ok (.iconst 1, 1) := by decide +kernel
theorem dX16_number_90 : decode cX16_number 90 = .ok (.iadd, 1) := by decide +kernel
theorem dX16_number_91 : decode cX16_number 91 = .ok (.putfield 171, 3) := by decide +kernel
theorem dX16_number_100 : decode cX16_number 100 = .ok (.iconst 0, 1) := by decide +kernel
theorem dX16_number_101 : decode cX16_number 101 = .ok (.istore_n 2, 1) := by decide +kernel
theorem dX16_number_102 : decode cX16_number 102 = .ok (.iload_n 2, 1) := by decide +kernel
theorem dX16_number_103 : decode cX16_number 103 = .ok (.aload_n 0, 1) := by decide +kernel
theorem dX16_number_104 : decode cX16_number 104 = .ok (.getfield 115, 3) := by decide +kernel
theorem dX16_number_107 : decode cX16_number 107 = .ok (.if_icmp .gt 52, 3) := by decide +kernel
theorem dX16_number_110 : decode cX16_number 110 = .ok (.iconst 0, 1) := by decide +kernel
theorem dX16_number_111 : decode cX16_number 111 = .ok (.istore_n 3, 1) := by decide +kernel
theorem dX16_number_112 : decode cX16_number 112 = .ok (.iload_n 3, 1) := by decide +kernel
theorem dX16_number_113 : decode cX16_number 113 = .ok (.aload_n 0, 1) := by decide +kernel
theorem dX16_number_114 : decode cX16_number 114 = .ok (.getfield 118, 3) := by decide +kernel
theorem dX16_number_117 : decode cX16_number 117 = .ok (.if_icmp .gt 36, 3) := by decide +kernel
theorem dX16_number_120 : decode cX16_number 120 = .ok (.aload_n 0, 1) := by decide +kernel
theorem dX16_number_121 : decode cX16_number 121 = .ok (.getfield 41, 3) := by decide +kernel
theorem dX16_number_124 : decode cX16_number 124 = .ok (.bipush 42, 2) := by decide +kernel
theorem dX16_number_126 : decode cX16_number 126 = .ok (.iload_n 2, 1) := by decide +kernel
theorem dX16_number_127 : decode cX16_number 127 = .ok (.imul, 1) := by decide +kernel
theorem dX16_number_128 : decode cX16_number 128 = .ok (.iload_n 3, 1) := by decide +kernel
theorem dX16_number_129 : decode cX16_number 129 = .ok (.iadd, 1) := by decide +kernel
theorem dX16_number_130 : decode cX16_number 130 = .ok (.aload_n 0, 1) := by decide +kernel
theorem dX16_number_131 : decode cX16_number 131 = .ok (.getfield 83, 3) := by decide +kernel
theorem dX16_number_134 : decode cX16_number 134 = .ok (.aload_n 0, 1) := by decide +kernel
theorem dX16_number_135 : decode cX16_number 135 = .ok (.getfield 41, 3) := by decide +kernel
theorem dX16_number_138 : decode cX16_number 138 = .ok (.bipush 42, 2) := by decide +kernel
theorem dX16_number_140 : decode cX16_number 140 = .ok (.iload_n 2, 1) := by decide +kernel
theorem dX16_number_141 : decode cX16_number 141 = .ok (.imul, 1) := by decide +kernel
theorem dX16_number_142 : decode cX16_number 142 = .ok (.iload_n 3, 1) := by decide +kernel
theorem dX16_number_143 : decode cX16_number 143 = .ok (.iadd, 1) := by decide +kernel
theorem dX16_number_144 : decode cX16_number 144 = .ok (.iaload, 1) := by decide +kernel
theorem dX16_number_145 : decode cX16_number 145 = .ok (.iaload, 1) := by decide +kernel
theorem dX16_number_146 : decode cX16_number 146 = .ok (.iastore, 1) := by decide +kernel
theorem dX16_number_147 : decode cX16_number 147 = .ok (.iinc 3 1, 3) := by decide +kernel
theorem dX16_number_150 : decode cX16_number 150 = .ok (.goto (-38), 3) := by decide +kernel
theorem dX16_number_153 : decode cX16_number 153 = .ok (.iinc 2 1, 3) := by decide +kernel
theorem dX16_number_156 : decode cX16_number 156 = .ok (.goto (-54), 3) := by decide +kernel
theorem dX16_number_159 : decode cX16_number 159 = .ok (.return_, 1) := by decide +kernel
theorem dX16_turn_0 : decode cX16_turn 0 = .ok (.aload_n 0, 1) := by decide +kernel
theorem dX16_turn_1 : decode cX16_turn 1 = .ok (.getfield 44, 3) := by decide +kernel
theorem dX16_turn_4 : decode cX16_turn 4 = .ok (.astore_n 1, 1) := by decide +kernel
theorem dX16_turn_5 : decode cX16_turn 5 = .ok (.aload_n 0, 1) := by decide +kernel
theorem dX16_turn_6 : decode cX16_turn 6 = .ok (.aload_n 0, 1) := by decide +kernel
theorem dX16_turn_7 : decode cX16_turn 7 = .ok (.getfield 35, 3) := by decide +kernel
theorem dX16_turn_10 : decode cX16_turn 10 = .ok (.putfield 44, 3) := by decide +kernel
theorem dX16_turn_13 : decode cX16_turn 13 = .ok (.aload_n 0, 1) := by decide +kernel
theorem dX16_turn_14 : decode cX16_turn 14 = .ok (.aload_n 1, 1) := by decide +kernel
theorem dX16_turn_15 : decode cX16_turn 15 = .ok (.putfield 35, 3) := by decide +kernel
theorem dX16_turn_18 : decode cX16_turn 18 = .ok (.aload_n 0, 1) := by decide +kernel
theorem dX16_turn_19 : decode cX16_turn 19 = .ok (.getfield 47, 3) := by decide +kernel
theorem dX16_turn_22 : decode cX16_turn 22 = .ok (.astore_n 1, 1) := by decide +kernel
theorem dX16_turn_23 : decode cX16_turn 23 = .ok (.aload_n 0, 1) := by decide +kernel
theorem dX16_turn_24 : decode cX16_turn 24 = .ok (.aload_n 0, 1) := by decide +kernel
theorem dX16_turn_25 : decode cX16_turn 25 = .ok (.getfield 38, 3) := by decide +kernel
theorem dX16_turn_28 : decode cX16_turn 28 = .ok (.putfield 47, 3) := by decide +kernel
theorem dX16_turn_31 : decode cX16_turn 31 = .ok (.aload_n 0, 1) := by decide +kernel
theorem dX16_turn_32 : decode cX16_turn 32 = .ok (.aload_n 1, 1) := by decide +kernel
theorem dX16_turn_33 : decode cX16_turn 33 = .ok (.putfield 38, 3) := by decide +kernel
theorem dX16_turn_36 : decode cX16_turn 36 = .ok (.aload_n 0, 1) := by decide +kernel
theorem dX16_turn_37 : decode cX16_turn 37 = .ok (.getfield 50, 3) := by decide +kernel
theorem dX16_turn_40 : decode cX16_turn 40 = .ok (.astore_n 1, 1) := by decide +kernel
theorem dX16_turn_41 : decode cX16_turn 41 = .ok (.aload_n 0, 1) := by decide +kernel
theorem dX16_turn_42 : decode cX16_turn 42 = .ok (.aload_n 0, 1) := by decide +kernel
theorem dX16_turn_43 : decode cX16_turn 43 = .ok (.getfield 41, 3) := by decide +kernel
theorem dX16_turn_46 : decode cX16_turn 46 = .ok (.putfield 50, 3) := by decide +kernel
theorem dX16_turn_49 : decode cX16_turn 49 = .ok (.aload_n 0, 1) := by decide +kernel
theorem dX16_turn_50 : decode cX16_turn 50 = .ok (.aload_n 1, 1) := by decide +kernel
theorem dX16_turn_51 : decode cX16_turn 51 = .ok (.putfield 41, 3) := by decide +kernel
theorem dX16_turn_54 : decode cX16_turn 54 = .ok (.aload_n 0, 1) := by decide +kernel
theorem dX16_turn_55 : decode cX16_turn 55 = .ok (.getfield 56, 3) := by decide +kernel
theorem dX16_turn_58 : decode cX16_turn 58 = .ok (.astore_n 1, 1) := by decide +kernel
theorem dX16_turn_59 : decode cX16_turn 59 = .ok (.aload_n 0, 1) := by decide +kernel
theorem dX16_turn_60 : decode cX16_turn 60 = .ok (.aload_n 0, 1) := by decide +kernel
theorem dX16_turn_61 : decode cX16_turn 61 = .ok (.getfield 53, 3) := by decide +kernel
theorem dX16_turn_64 : decode cX16_turn 64 = .ok (.putfield 56, 3) := by decide +kernel
theorem dX16_turn_67 : decode cX16_turn 67 = .ok (.aload_n 0, 1) := by decide +kernel
theorem dX16_turn_68 : decode cX16_turn 68 = .ok (.aload_n 1, 1) := by decide +kernel
theorem dX16_turn_69 : decode cX16_turn 69 = .ok (.putfield 53, 3) := by decide +kernel
theorem dX16_turn_72 : decode cX16_turn 72 = .ok (.aload_n 0, 1) := by decide +kernel
theorem dX16_turn_73 : decode cX16_turn 73 = .ok (.aload_n 0, 1) := by decide +kernel
theorem dX16_turn_74 : decode cX16_turn 74 = .ok (.getfield 118, 3) := by decide +kernel
theorem dX16_turn_77 : decode cX16_turn 77 = .ok (.putfield 174, 3) := by decide +kernel
theorem dX16_turn_80 : decode cX16_turn 80 = .ok (.aload_n 0, 1) := by decide +kernel
theorem dX16_turn_81 : decode cX16_turn 81 = .ok (.aload_n 0, 1) := by decide +kernel
theorem dX16_turn_82 : decode cX16_turn 82 = .ok (.getfield 115, 3) := by decide +kernel
theorem dX16_turn_85 : decode cX16_turn 85 = .ok (.putfield 177, 3) := by decide +kernel
theorem dX16_turn_88 : decode cX16_turn 88 = .ok (.aload_n 0, 1) := by decide +kernel
theorem dX16_turn_89 : decode cX16_turn 89 = .ok (.aload_n 0, 1) := by decide +kernel
theorem dX16_turn_90 : decode cX16_turn 90 = .ok (.getfield 171, 3) := by decide +kernel
theorem dX16_turn_93 : decode cX16_turn 93 = .ok (.putfield 180, 3) := by decide +kernel
theorem dX16_turn_96 : decode cX16_turn 96 = .ok (.aload_n 0, 1) := by decide +kernel
theorem dX16_turn_97 : decode cX16_turn 97 = .ok (.aload_n 0, 1) := by decide +kernel
theorem dX16_turn_98 : decode cX16_turn 98 = .ok (.getfield 183, 3) := by decide +kernel
theorem dX16_turn_101 : decode cX16_turn 101 = .ok (.putfield 186, 3) := by decide +kernel
theorem dX16_turn_104 : decode cX16_turn 104 = .ok (.return_, 1) := by decide +kernel
theorem dX16_shared_0 : decode cX16_shared 0 = .ok (.iload_n 0, 1) := by decide +kernel
theorem dX16_shared_1 : decode cX16_shared 1 = .ok (.iload_n 2, 1) := by decide +kernel
theorem dX16_shared_2 : decode cX16_shared 2 = .ok (.if_icmp .le 7, 3) := by decide +kernel
theorem dX16_shared_9 : decode cX16_shared 9 = .ok (.iload_n 2, 1) := by decide +kernel
theorem dX16_shared_10 : decode cX16_shared 10 = .ok (.istore 4, 2) := by decide +kernel
theorem dX16_shared_12 : decode cX16_shared 12 = .ok (.iload_n 1, 1) := by decide +kernel
theorem dX16_shared_13 : decode cX16_shared 13 = .ok (.iload_n 3, 1) := by decide +kernel
theorem dX16_shared_14 : decode cX16_shared 14 = .ok (.if_icmp .ge 7, 3) := by decide +kernel
theorem dX16_shared_21 : decode cX16_shared 21 = .ok (.iload_n 3, 1) := by decide +kernel
theorem dX16_shared_22 : decode cX16_shared 22 = .ok (.istore 5, 2) := by decide +kernel
theorem dX16_shared_24 : decode cX16_shared 24 = .ok (.iload 5, 2) := by decide +kernel
theorem dX16_shared_26 : decode cX16_shared 26 = .ok (.iload 4, 2) := by decide +kernel
theorem dX16_shared_28 : decode cX16_shared 28 = .ok (.if_icmp .le 11, 3) := by decide +kernel
theorem dX16_shared_39 : decode cX16_shared 39 = .ok (.iconst 0, 1) := by decide +kernel
theorem dX16_shared_40 : decode cX16_shared 40 = .ok (.ireturn, 1) := by decide +kernel
theorem dX16_shared_31 : decode cX16_shared 31 = .ok (.iload 5, 2) := by decide +kernel
theorem dX16_shared_33 : decode cX16_shared 33 = .ok (.iload 4, 2) := by decide +kernel
theorem dX16_shared_35 : decode cX16_shared 35 = .ok (.isub, 1) := by decide +kernel
theorem dX16_shared_36 : decode cX16_shared 36 = .ok (.goto 4, 3) := by decide +kernel
theorem dX16_shared_17 : decode cX16_shared 17 = .ok (.iload_n 1, 1) := by decide +kernel
theorem dX16_shared_18 : decode cX16_shared 18 = .ok (.goto 4, 3) := by decide +kernel
theorem dX16_shared_5 : decode cX16_shared 5 = .ok (.iload_n 0, 1) := by decide +kernel
theorem dX16_shared_6 : decode cX16_shared 6 = .ok (.goto 4, 3) := by decide +kernel
theorem dX16_common_0 : decode cX16_common 0 = .ok (.iconst 0, 1) := by decide +kernel
theorem dX16_common_1 : decode cX16_common 1 = .ok (.istore_n 3, 1) := by decide +kernel
theorem dX16_common_2 : decode cX16_common 2 = .ok (.iconst 1, 1) := by decide +kernel
theorem dX16_common_3 : decode cX16_common 3 = .ok (.istore 4, 2) := by decide +kernel
theorem dX16_common_5 : decode cX16_common 5 = .ok (.iload 4, 2) := by decide +kernel
theorem dX16_common_7 : decode cX16_common 7 = .ok (.aload_n 0, 1) := by decide +kernel
theorem dX16_common_8 : decode cX16_common 8 = .ok (.getfield 115, 3) := by decide +kernel
theorem dX16_common_11 : decode cX16_common 11 = .ok (.if_icmp .ge 184, 3) := by decide +kernel
theorem dX16_common_14 : decode cX16_common 14 = .ok (.iconst 1, 1) := by decide +kernel
theorem dX16_common_15 : decode cX16_common 15 = .ok (.istore 5, 2) := by decide +kernel
theorem dX16_common_17 : decode cX16_common 17 = .ok (.iload 5, 2) := by decide +kernel
theorem dX16_common_19 : decode cX16_common 19 = .ok (.aload_n 0, 1) := by decide +kernel
theorem dX16_common_20 : decode cX16_common 20 = .ok (.getfield 118, 3) := by decide +kernel
theorem dX16_common_23 : decode cX16_common 23 = .ok (.if_icmp .ge 166, 3) := by decide +kernel
theorem dX16_common_26 : decode cX16_common 26 = .ok (.iconst 1, 1) := by decide +kernel
theorem dX16_common_27 : decode cX16_common 27 = .ok (.istore 6, 2) := by decide +kernel
theorem dX16_common_29 : decode cX16_common 29 = .ok (.iload 6, 2) := by decide +kernel
theorem dX16_common_31 : decode cX16_common 31 = .ok (.aload_n 0, 1) := by decide +kernel
theorem dX16_common_32 : decode cX16_common 32 = .ok (.getfield 177, 3) := by decide +kernel
theorem dX16_common_35 : decode cX16_common 35 = .ok (.if_icmp .ge 148, 3) := by decide +kernel
theorem dX16_common_38 : decode cX16_common 38 = .ok (.aload_n 0, 1) := by decide +kernel
theorem dX16_common_39 : decode cX16_common 39 = .ok (.getfield 41, 3) := by decide +kernel
theorem dX16_common_42 : decode cX16_common 42 = .ok (.bipush 42, 2) := by decide +kernel
theorem dX16_common_44 : decode cX16_common 44 = .ok (.iload 4, 2) := by decide +kernel
theorem dX16_common_46 : decode cX16_common 46 = .ok (.imul, 1) := by decide +kernel
theorem dX16_common_47 : decode cX16_common 47 = .ok (.iload 5, 2) := by decide +kernel
theorem dX16_common_49 : decode cX16_common 49 = .ok (.iadd, 1) := by decide +kernel
theorem dX16_common_50 : decode cX16_common 50 = .ok (.iaload, 1) := by decide +kernel
theorem dX16_common_51 : decode cX16_common 51 = .ok (.iload_n 2, 1) := by decide +kernel
theorem dX16_common_52 : decode cX16_common 52 = .ok (.if_icmp .ne 131, 3) := by decide +kernel
theorem dX16_common_55 : decode cX16_common 55 = .ok (.aload_n 0, 1) := by decide +kernel
theorem dX16_common_56 : decode cX16_common 56 = .ok (.getfield 38, 3) := by decide +kernel
theorem dX16_common_59 : decode cX16_common 59 = .ok (.iload 4, 2) := by decide +kernel
theorem dX16_common_61 : decode cX16_common 61 = .ok (.iconst 1, 1) := by decide +kernel
theorem dX16_common_62 : decode cX16_common 62 = .ok (.isub, 1) := by decide +kernel
theorem dX16_common_63 : decode cX16_common 63 = .ok (.iaload, 1) := by decide +kernel
theorem dX16_common_64 : decode cX16_common 64 = .ok (.aload_n 0, 1) := by decide +kernel
theorem dX16_common_65 : decode cX16_common 65 = .ok (.getfield 38, 3) := by decide +kernel
theorem dX16_common_68 : decode cX16_common 68 = .ok (.iload 4, 2) := by decide +kernel
theorem dX16_common_70 : decode cX16_common 70 = .ok (.iaload, 1) := by decide +kernel
theorem dX16_common_71 : decode cX16_common 71 = .ok (.aload_n 0, 1) := by decide +kernel
theorem dX16_common_72 : decode cX16_common 72 = .ok (.getfield 47, 3) := by decide +kernel
theorem dX16_common_75 : decode cX16_common 75 = .ok (.iload 6, 2) := by decide +kernel
theorem dX16_common_77 : decode cX16_common 77 = .ok (.iconst 1, 1) := by decide +kernel
theorem dX16_common_78 : decode cX16_common 78 = .ok (.isub, 1) := by decide +kernel
theorem dX16_common_79 : decode cX16_common 79 = .ok (.iaload, 1) := by decide +kernel
theorem dX16_common_80 : decode cX16_common 80 = .ok (.aload_n 0, 1) := by decide +kernel
theorem dX16_common_81 : decode cX16_common 81 = .ok (.getfield 47, 3) := by decide +kernel
theorem dX16_common_84 : decode cX16_common 84 = .ok (.iload 6, 2) := by decide +kernel
theorem dX16_common_86 : decode cX16_common 86 = .ok (.iaload, 1) := by decide +kernel
theorem dX16_common_87 : decode cX16_common 87 = .ok (.invokestatic 214, 3) := by decide +kernel
theorem dX16_common_90 : decode cX16_common 90 = .ok (.istore 7, 2) := by decide +kernel
theorem dX16_common_92 : decode cX16_common 92 = .ok (.iconst 1, 1) := by decide +kernel
theorem dX16_common_93 : decode cX16_common 93 = .ok (.istore 8, 2) := by decide +kernel
theorem dX16_common_95 : decode cX16_common 95 = .ok (.iload 8, 2) := by decide +kernel
theorem dX16_common_97 : decode cX16_common 97 = .ok (.aload_n 0, 1) := by decide +kernel
theorem dX16_common_98 : decode cX16_common 98 = .ok (.getfield 174, 3) := by decide +kernel
theorem dX16_common_101 : decode cX16_common 101 = .ok (.if_icmp .ge 76, 3) := by decide +kernel
theorem dX16_common_104 : decode cX16_common 104 = .ok (.iload 7, 2) := by decide +kernel
theorem dX16_common_106 : decode cX16_common 106 = .ok (.ifCond .le 71, 3) := by decide +kernel
theorem dX16_common_109 : decode cX16_common 109 = .ok (.iload_n 3, 1) := by decide +kernel
theorem dX16_common_110 : decode cX16_common 110 = .ok (.aload_n 0, 1) := by decide +kernel
theorem dX16_common_111 : decode cX16_common 111 = .ok (.getfield 50, 3) := by decide +kernel
theorem dX16_common_114 : decode cX16_common 114 = .ok (.bipush 42, 2) := by decide +kernel
theorem dX16_common_116 : decode cX16_common 116 = .ok (.iload 6, 2) := by decide +kernel
theorem dX16_common_118 : decode cX16_common 118 = .ok (.imul, 1) := by decide +kernel
theorem dX16_common_119 : decode cX16_common 119 = .ok (.iload 8, 2) := by decide +kernel
theorem dX16_common_121 : decode cX16_common 121 = .ok (.iadd, 1) := by decide +kernel
theorem dX16_common_122 : decode cX16_common 122 = .ok (.iaload, 1) := by decide +kernel
theorem dX16_common_123 : decode cX16_common 123 = .ok (.iload_n 1, 1) := by decide +kernel
theorem dX16_common_124 : decode cX16_common 124 = .ok (.if_icmp .ne 44, 3) := by decide +kernel
theorem dX16_common_168 : decode cX16_common 168 = .ok (.iconst 0, 1) := by decide +kernel
theorem dX16_common_169 : decode cX16_common 169 = .ok (.iadd, 1) := by decide +kernel
theorem dX16_common_170 : decode cX16_common 170 = .ok (.istore_n 3, 1) := by decide +kernel
theorem dX16_common_171 : decode cX16_common 171 = .ok (.iinc 8 1, 3) := by decide +kernel
theorem dX16_common_174 : decode cX16_common 174 = .ok (.goto (-79), 3) := by decide +kernel
theorem dX16_common_127 : decode cX16_common 127 = .ok (.iload 7, 2) := by decide +kernel
theorem dX16_common_129 : decode cX16_common 129 = .ok (.aload_n 0, 1) := by decide +kernel
theorem dX16_common_130 : decode cX16_common 130 = .ok (.getfield 35, 3) := by decide +kernel
theorem dX16_common_133 : decode cX16_common 133 = .ok (.iload 5, 2) := by decide +kernel
theorem dX16_common_135 : decode cX16_common 135 = .ok (.iconst 1, 1) := by decide +kernel
theorem dX16_common_136 : decode cX16_common 136 = .ok (.isub, 1) := by decide +kernel
theorem dX16_common_137 : decode cX16_common 137 = .ok (.iaload, 1) := by decide +kernel
theorem dX16_common_138 : decode cX16_common 138 = .ok (.aload_n 0, 1) := by decide +kernel
theorem dX16_common_139 : decode cX16_common 139 = .ok (.getfield 35, 3) := by decide +kernel
theorem dX16_common_142 : decode cX16_common 142 = .ok (.iload 5, 2) := by decide +kernel
theorem dX16_common_144 : decode cX16_common 144 = .ok (.iaload, 1) := by decide +kernel
theorem dX16_common_145 : decode cX16_common 145 = .ok (.aload_n 0, 1) := by decide +kernel
theorem dX16_common_146 : decode cX16_common 146 = .ok (.getfield 44, 3) := by decide +kernel
theorem dX16_common_149 : decode cX16_common 149 = .ok (.iload 8, 2) := by decide +kernel
theorem dX16_common_151 : decode cX16_common 151 = .ok (.iconst 1, 1) := by decide +kernel
theorem dX16_common_152 : decode cX16_common 152 = .ok (.isub, 1) := by decide +kernel
theorem dX16_common_153 : decode cX16_common 153 = .ok (.iaload, 1) := by decide +kernel
theorem dX16_common_154 : decode cX16_common 154 = .ok (.aload_n 0, 1) := by decide +kernel
theorem dX16_common_155 : decode cX16_common 155 = .ok (.getfield 44, 3) := by decide +kernel
theorem dX16_common_158 : decode cX16_common 158 = .ok (.iload 8, 2) := by decide +kernel
theorem dX16_common_160 : decode cX16_common 160 = .ok (.iaload, 1) := by decide +kernel
theorem dX16_common_161 : decode cX16_common 161 = .ok (.invokestatic 214, 3) := by decide +kernel
theorem dX16_common_164 : decode cX16_common 164 = .ok (.imul, 1) := by decide +kernel
theorem dX16_common_165 : decode cX16_common 165 = .ok (.goto 4, 3) := by decide +kernel
theorem dX16_common_177 : decode cX16_common 177 = .ok (.iinc 6 1, 3) := by decide +kernel
theorem dX16_common_180 : decode cX16_common 180 = .ok (.goto (-151), 3) := by decide +kernel
theorem dX16_common_183 : decode cX16_common 183 = .ok (.iinc 5 1, 3) := by decide +kernel
theorem dX16_common_186 : decode cX16_common 186 = .ok (.goto (-169), 3) := by decide +kernel
theorem dX16_common_189 : decode cX16_common 189 = .ok (.iinc 4 1, 3) := by decide +kernel
theorem dX16_common_192 : decode cX16_common 192 = .ok (.goto (-187), 3) := by decide +kernel
theorem dX16_common_195 : decode cX16_common 195 = .ok (.iload_n 3, 1) := by decide +kernel
theorem dX16_common_196 : decode cX16_common 196 = .ok (.ireturn, 1) := by decide +kernel
theorem dX16_carry_0 : decode cX16_carry 0 = .ok (.iconst 0, 1) := by decide +kernel
theorem dX16_carry_1 : decode cX16_carry 1 = .ok (.istore_n 1, 1) := by decide +kernel
theorem dX16_carry_2 : decode cX16_carry 2 = .ok (.iload_n 1, 1) := by decide +kernel
theorem dX16_carry_3 : decode cX16_carry 3 = .ok (.aload_n 0, 1) := by decide +kernel
theorem dX16_carry_4 : decode cX16_carry 4 = .ok (.getfield 171, 3) := by decide +kernel
theorem dX16_carry_7 : decode cX16_carry 7 = .ok (.if_icmp .ge 16, 3) := by decide +kernel
theorem dX16_carry_10 : decode cX16_carry 10 = .ok (.aload_n 0, 1) := by decide +kernel
theorem dX16_carry_11 : decode cX16_carry 11 = .ok (.getfield 86, 3) := by decide +kernel
theorem dX16_carry_14 : decode cX16_carry 14 = .ok (.iload_n 1, 1) := by decide +kernel
theorem dX16_carry_15 : decode cX16_carry 15 = .ok (.iconst 0, 1) := by decide +kernel
theorem dX16_carry_16 : decode cX16_carry 16 = .ok (.iastore, 1) := by decide +kernel
theorem dX16_carry_17 : decode cX16_carry 17 = .ok (.iinc 1 1, 3) := by decide +kernel
theorem dX16_carry_20 : decode cX16_carry 20 = .ok (.goto (-18), 3) := by decide +kernel
theorem dX16_carry_23 : decode cX16_carry 23 = .ok (.iconst 0, 1) := by decide +kernel
theorem dX16_carry_24 : decode cX16_carry 24 = .ok (.istore_n 1, 1) := by decide +kernel
theorem dX16_carry_25 : decode cX16_carry 25 = .ok (.iload_n 1, 1) := by decide +kernel
theorem dX16_carry_26 : decode cX16_carry 26 = .ok (.aload_n 0, 1) := by decide +kernel
theorem dX16_carry_27 : decode cX16_carry 27 = .ok (.getfield 180, 3) := by decide +kernel
theorem dX16_carry_30 : decode cX16_carry 30 = .ok (.if_icmp .ge 108, 3) := by decide +kernel
theorem dX16_carry_33 : decode cX16_carry 33 = .ok (.iconst (-1), 1) := by decide +kernel
theorem dX16_carry_34 : decode cX16_carry 34 = .ok (.istore_n 2, 1) := by decide +kernel
theorem dX16_carry_35 : decode cX16_carry 35 = .ok (.iconst 0, 1) := by decide +kernel
theorem dX16_carry_36 : decode cX16_carry 36 = .ok (.istore_n 3, 1) := by decide +kernel
theorem dX16_carry_37 : decode cX16_carry 37 = .ok (.iconst 0, 1) := by decide +kernel
theorem dX16_carry_38 : decode cX16_carry 38 = .ok (.istore 4, 2) := by decide +kernel
theorem dX16_carry_40 : decode cX16_carry 40 = .ok (.iload 4, 2) := by decide +kernel
theorem dX16_carry_42 : decode cX16_carry 42 = .ok (.aload_n 0, 1) := by decide +kernel
theorem dX16_carry_43 : decode cX16_carry 43 = .ok (.getfield 171, 3) := by decide +kernel
theorem dX16_carry_46 : decode cX16_carry 46 = .ok (.if_icmp .ge 53, 3) := by decide +kernel
theorem dX16_carry_49 : decode cX16_carry 49 = .ok (.aload_n 0, 1) := by decide +kernel
theorem dX16_carry_50 : decode cX16_carry 50 = .ok (.getfield 56, 3) := by decide +kernel
theorem dX16_carry_53 : decode cX16_carry 53 = .ok (.iload_n 1, 1) := by decide +kernel
theorem dX16_carry_54 : decode cX16_carry 54 = .ok (.iaload, 1) := by decide +kernel
theorem dX16_carry_55 : decode cX16_carry 55 = .ok (.ifCond .le 44, 3) := by decide +kernel
theorem dX16_carry_58 : decode cX16_carry 58 = .ok (.aload_n 0, 1) := by decide +kernel
theorem dX16_carry_59 : decode cX16_carry 59 = .ok (.iload_n 1, 1) := by decide +kernel
theorem dX16_carry_60 : decode cX16_carry 60 = .ok (.iload 4, 2) := by decide +kernel
theorem dX16_carry_62 : decode cX16_carry 62 = .ok (.invokevirtual 218, 3) := by decide +kernel
theorem dX16_carry_65 : decode cX16_carry 65 = .ok (.istore 5, 2) := by decide +kernel
theorem dX16_carry_67 : decode cX16_carry 67 = .ok (.iload 5, 2) := by decide +kernel
theorem dX16_carry_69 : decode cX16_carry 69 = .ok (.iload_n 3, 1) := by decide +kernel
theorem dX16_carry_70 : decode cX16_carry 70 = .ok (.if_icmp .le 8, 3) := by decide +kernel
theorem dX16_carry_78 : decode cX16_carry 78 = .ok (.iload_n 2, 1) := by decide +kernel
theorem dX16_carry_79 : decode cX16_carry 79 = .ok (.istore_n 2, 1) := by decide +kernel
theorem dX16_carry_80 : decode cX16_carry 80 = .ok (.iload 5, 2) := by decide +kernel
theorem dX16_carry_82 : decode cX16_carry 82 = .ok (.iload_n 3, 1) := by decide +kernel
theorem dX16_carry_83 : decode cX16_carry 83 = .ok (.if_icmp .le 8, 3) := by decide +kernel
theorem dX16_carry_91 : decode cX16_carry 91 = .ok (.iload_n 3, 1) := by decide +kernel
theorem dX16_carry_92 : decode cX16_carry 92 = .ok (.istore_n 3, 1) := by decide +kernel
theorem dX16_carry_93 : decode cX16_carry 93 = .ok (.iinc 4 1, 3) := by decide +kernel
theorem dX16_carry_96 : decode cX16_carry 96 = .ok (.goto (-56), 3) := by decide +kernel
theorem dX16_carry_86 : decode cX16_carry 86 = .ok (.iload 5, 2) := by decide +kernel
theorem dX16_carry_88 : decode cX16_carry 88 = .ok (.goto 4, 3) := by decide +kernel
theorem dX16_carry_73 : decode cX16_carry 73 = .ok (.iload 4, 2) := by decide +kernel
theorem dX16_carry_75 : decode cX16_carry 75 = .ok (.goto 4, 3) := by decide +kernel
theorem dX16_carry_99 : decode cX16_carry 99 = .ok (.iload_n 2, 1) := by decide +kernel
theorem dX16_carry_100 : decode cX16_carry 100 = .ok (.ifCond .lt 32, 3) := by decide +kernel
theorem dX16_carry_132 : decode cX16_carry 132 = .ok (.iinc 1 1, 3) := by decide +kernel
theorem dX16_carry_135 : decode cX16_carry 135 = .ok (.goto (-110), 3) := by decide +kernel
theorem dX16_carry_103 : decode cX16_carry 103 = .ok (.iload_n 3, 1) := by decide +kernel
theorem dX16_carry_104 : decode cX16_carry 104 = .ok (.aload_n 0, 1) := by decide +kernel
theorem dX16_carry_105 : decode cX16_carry 105 = .ok (.getfield 86, 3) := by decide +kernel
theorem dX16_carry_108 : decode cX16_carry 108 = .ok (.iload_n 2, 1) := by decide +kernel
theorem dX16_carry_109 : decode cX16_carry 109 = .ok (.iaload, 1) := by decide +kernel
theorem dX16_carry_110 : decode cX16_carry 110 = .ok (.if_icmp .le 22, 3) := by decide +kernel
theorem dX16_carry_113 : decode cX16_carry 113 = .ok (.aload_n 0, 1) := by decide +kernel
theorem dX16_carry_114 : decode cX16_carry 114 = .ok (.getfield 86, 3) := by decide +kernel
theorem dX16_carry_117 : decode cX16_carry 117 = .ok (.iload_n 2, 1) := by decide +kernel
theorem dX16_carry_118 : decode cX16_carry 118 = .ok (.iload_n 3, 1) := by decide +kernel
theorem dX16_carry_119 : decode cX16_carry 119 = .ok (.iastore, 1) := by decide +kernel
theorem dX16_carry_120 : decode cX16_carry 120 = .ok (.aload_n 0, 1) := by decide +kernel
theorem dX16_carry_121 : decode cX16_carry 121 = .ok (.getfield 53, 3) := by decide +kernel
theorem dX16_carry_124 : decode cX16_carry 124 = .ok (.iload_n 2, 1) := by decide +kernel
theorem dX16_carry_125 : decode cX16_carry 125 = .ok (.aload_n 0, 1) := by decide +kernel
theorem dX16_carry_126 : decode cX16_carry 126 = .ok (.getfield 56, 3) := by decide +kernel
theorem dX16_carry_129 : decode cX16_carry 129 = .ok (.iload_n 1, 1) := by decide +kernel
theorem dX16_carry_130 : decode cX16_carry 130 = .ok (.iaload, 1) := by decide +kernel
theorem dX16_carry_131 : decode cX16_carry 131 = .ok (.iastore, 1) := by decide +kernel
theorem dX16_carry_138 : decode cX16_carry 138 = .ok (.return_, 1) := by decide +kernel
theorem dX16_run_0 : decode cX16_run 0 = .ok (.aload_n 0, 1) := by decide +kernel
theorem dX16_run_1 : decode cX16_run 1 = .ok (.dup, 1) := by decide +kernel
theorem dX16_run_2 : decode cX16_run 2 = .ok (.getfield 189, 3) := by decide +kernel
theorem dX16_run_5 : decode cX16_run 5 = .ok (.iconst 1, 1) := by decide +kernel
theorem dX16_run_6 : decode cX16_run 6 = .ok (.iadd, 1) := by decide +kernel
theorem dX16_run_7 : decode cX16_run 7 = .ok (.putfield 189, 3) := by decide +kernel
theorem dX16_run_10 : decode cX16_run 10 = .ok (.aload_n 0, 1) := by decide +kernel
theorem dX16_run_11 : decode cX16_run 11 = .ok (.invokevirtual 192, 3) := by decide +kernel
theorem dX16_run_14 : decode cX16_run 14 = .ok (.aload_n 0, 1) := by decide +kernel
theorem dX16_run_15 : decode cX16_run 15 = .ok (.iconst 0, 1) := by decide +kernel
theorem dX16_run_16 : decode cX16_run 16 = .ok (.putfield 118, 3) := by decide +kernel
theorem dX16_run_19 : decode cX16_run 19 = .ok (.aload_n 0, 1) := by decide +kernel
theorem dX16_run_20 : decode cX16_run 20 = .ok (.iconst 0, 1) := by decide +kernel
theorem dX16_run_21 : decode cX16_run 21 = .ok (.putfield 115, 3) := by decide +kernel
theorem dX16_run_24 : decode cX16_run 24 = .ok (.iconst 0, 1) := by decide +kernel
theorem dX16_run_25 : decode cX16_run 25 = .ok (.istore_n 1, 1) := by decide +kernel
theorem dX16_run_26 : decode cX16_run 26 = .ok (.iload_n 1, 1) := by decide +kernel
theorem dX16_run_27 : decode cX16_run 27 = .ok (.aload_n 0, 1) := by decide +kernel
theorem dX16_run_28 : decode cX16_run 28 = .ok (.getfield 96, 3) := by decide +kernel
theorem dX16_run_31 : decode cX16_run 31 = .ok (.if_icmp .ge 91, 3) := by decide +kernel
theorem dX16_run_34 : decode cX16_run 34 = .ok (.aload_n 0, 1) := by decide +kernel
theorem dX16_run_35 : decode cX16_run 35 = .ok (.aload_n 0, 1) := by decide +kernel
theorem dX16_run_36 : decode cX16_run 36 = .ok (.getfield 35, 3) := by decide +kernel
theorem dX16_run_39 : decode cX16_run 39 = .ok (.aload_n 0, 1) := by decide +kernel
theorem dX16_run_40 : decode cX16_run 40 = .ok (.getfield 118, 3) := by decide +kernel
theorem dX16_run_43 : decode cX16_run 43 = .ok (.aload_n 0, 1) := by decide +kernel
theorem dX16_run_44 : decode cX16_run 44 = .ok (.getfield 7, 3) := by decide +kernel
theorem dX16_run_47 : decode cX16_run 47 = .ok (.iload_n 1, 1) := by decide +kernel
theorem dX16_run_48 : decode cX16_run 48 = .ok (.iaload, 1) := by decide +kernel
theorem dX16_run_49 : decode cX16_run 49 = .ok (.invokestatic 195, 3) := by decide +kernel
theorem dX16_run_52 : decode cX16_run 52 = .ok (.putfield 118, 3) := by decide +kernel
theorem dX16_run_55 : decode cX16_run 55 = .ok (.aload_n 0, 1) := by decide +kernel
theorem dX16_run_56 : decode cX16_run 56 = .ok (.aload_n 0, 1) := by decide +kernel
theorem dX16_run_57 : decode cX16_run 57 = .ok (.getfield 35, 3) := by decide +kernel
theorem dX16_run_60 : decode cX16_run 60 = .ok (.aload_n 0, 1) := by decide +kernel
theorem dX16_run_61 : decode cX16_run 61 = .ok (.getfield 118, 3) := by decide +kernel
theorem dX16_run_64 : decode cX16_run 64 = .ok (.aload_n 0, 1) := by decide +kernel
theorem dX16_run_65 : decode cX16_run 65 = .ok (.iload_n 1, 1) := by decide +kernel
theorem dX16_run_66 : decode cX16_run 66 = .ok (.invokevirtual 89, 3) := by decide +kernel
theorem dX16_run_69 : decode cX16_run 69 = .ok (.invokestatic 195, 3) := by decide +kernel
theorem dX16_run_72 : decode cX16_run 72 = .ok (.putfield 118, 3) := by decide +kernel
theorem dX16_run_75 : decode cX16_run 75 = .ok (.aload_n 0, 1) := by decide +kernel
theorem dX16_run_76 : decode cX16_run 76 = .ok (.aload_n 0, 1) := by decide +kernel
theorem dX16_run_77 : decode cX16_run 77 = .ok (.getfield 38, 3) := by decide +kernel
theorem dX16_run_80 : decode cX16_run 80 = .ok (.aload_n 0, 1) := by decide +kernel
theorem dX16_run_81 : decode cX16_run 81 = .ok (.getfield 115, 3) := by decide +kernel
theorem dX16_run_84 : decode cX16_run 84 = .ok (.aload_n 0, 1) := by decide +kernel
theorem dX16_run_85 : decode cX16_run 85 = .ok (.getfield 13, 3) := by decide +kernel
theorem dX16_run_88 : decode cX16_run 88 = .ok (.iload_n 1, 1) := by decide +kernel
theorem dX16_run_89 : decode cX16_run 89 = .ok (.iaload, 1) := by decide +kernel
theorem dX16_run_90 : decode cX16_run 90 = .ok (.invokestatic 195, 3) := by decide +kernel
theorem dX16_run_93 : decode cX16_run 93 = .ok (.putfield 115, 3) := by decide +kernel
theorem dX16_run_96 : decode cX16_run 96 = .ok (.aload_n 0, 1) := by decide +kernel
theorem dX16_run_97 : decode cX16_run 97 = .ok (.aload_n 0, 1) := by decide +kernel
theorem dX16_run_98 : decode cX16_run 98 = .ok (.getfield 38, 3) := by decide +kernel
theorem dX16_run_101 : decode cX16_run 101 = .ok (.aload_n 0, 1) := by decide +kernel
theorem dX16_run_102 : decode cX16_run 102 = .ok (.getfield 115, 3) := by decide +kernel
theorem dX16_run_105 : decode cX16_run 105 = .ok (.aload_n 0, 1) := by decide +kernel
theorem dX16_run_106 : decode cX16_run 106 = .ok (.iload_n 1, 1) := by decide +kernel
theorem dX16_run_107 : decode cX16_run 107 = .ok (.invokevirtual 93, 3) := by decide +kernel
theorem dX16_run_110 : decode cX16_run 110 = .ok (.invokestatic 195, 3) := by decide +kernel
theorem dX16_run_113 : decode cX16_run 113 = .ok (.putfield 115, 3) := by decide +kernel
theorem dX16_run_116 : decode cX16_run 116 = .ok (.iinc 1 1, 3) := by decide +kernel
theorem dX16_run_119 : decode cX16_run 119 = .ok (.goto (-93), 3) := by decide +kernel
theorem dX16_run_122 : decode cX16_run 122 = .ok (.aload_n 0, 1) := by decide +kernel
theorem dX16_run_123 : decode cX16_run 123 = .ok (.invokevirtual 199, 3) := by decide +kernel
theorem dX16_run_126 : decode cX16_run 126 = .ok (.aload_n 0, 1) := by decide +kernel
theorem dX16_run_127 : decode cX16_run 127 = .ok (.invokevirtual 202, 3) := by decide +kernel
theorem dX16_run_130 : decode cX16_run 130 = .ok (.aload_n 0, 1) := by decide +kernel
theorem dX16_run_131 : decode cX16_run 131 = .ok (.invokevirtual 205, 3) := by decide +kernel
theorem dX16_run_134 : decode cX16_run 134 = .ok (.aload_n 0, 1) := by decide +kernel
theorem dX16_run_135 : decode cX16_run 135 = .ok (.invokevirtual 208, 3) := by decide +kernel
theorem dX16_run_138 : decode cX16_run 138 = .ok (.iconst 0, 1) := by decide +kernel
theorem dX16_run_139 : decode cX16_run 139 = .ok (.istore_n 1, 1) := by decide +kernel
theorem dX16_run_140 : decode cX16_run 140 = .ok (.iload_n 1, 1) := by decide +kernel
theorem dX16_run_141 : decode cX16_run 141 = .ok (.sipush 400, 3) := by decide +kernel
theorem dX16_run_144 : decode cX16_run 144 = .ok (.if_icmp .ge 16, 3) := by decide +kernel
theorem dX16_run_147 : decode cX16_run 147 = .ok (.aload_n 0, 1) := by decide +kernel
theorem dX16_run_148 : decode cX16_run 148 = .ok (.getfield 53, 3) := by decide +kernel
theorem dX16_run_151 : decode cX16_run 151 = .ok (.iload_n 1, 1) := by decide +kernel
theorem dX16_run_152 : decode cX16_run 152 = .ok (.iconst 0, 1) := by decide +kernel
theorem dX16_run_153 : decode cX16_run 153 = .ok (.iastore, 1) := by decide +kernel
theorem dX16_run_154 : decode cX16_run 154 = .ok (.iinc 1 1, 3) := by decide +kernel
theorem dX16_run_157 : decode cX16_run 157 = .ok (.goto (-17), 3) := by decide +kernel
theorem dX16_run_160 : decode cX16_run 160 = .ok (.aload_n 0, 1) := by decide +kernel
theorem dX16_run_161 : decode cX16_run 161 = .ok (.getfield 186, 3) := by decide +kernel
theorem dX16_run_164 : decode cX16_run 164 = .ok (.ifCond .eq 7, 3) := by decide +kernel
theorem dX16_run_171 : decode cX16_run 171 = .ok (.aload_n 0, 1) := by decide +kernel
theorem dX16_run_172 : decode cX16_run 172 = .ok (.iconst 1, 1) := by decide +kernel
theorem dX16_run_173 : decode cX16_run 173 = .ok (.putfield 183, 3) := by decide +kernel
theorem dX16_run_176 : decode cX16_run 176 = .ok (.aload_n 0, 1) := by decide +kernel
theorem dX16_run_177 : decode cX16_run 177 = .ok (.iconst 1, 1) := by decide +kernel
theorem dX16_run_178 : decode cX16_run 178 = .ok (.putfield 108, 3) := by decide +kernel
theorem dX16_run_181 : decode cX16_run 181 = .ok (.aload_n 0, 1) := by decide +kernel
theorem dX16_run_182 : decode cX16_run 182 = .ok (.getfield 171, 3) := by decide +kernel
theorem dX16_run_185 : decode cX16_run 185 = .ok (.ireturn, 1) := by decide +kernel
theorem dX16_run_167 : decode cX16_run 167 = .ok (.aload_n 0, 1) := by decide +kernel
theorem dX16_run_168 : decode cX16_run 168 = .ok (.invokevirtual 211, 3) := by decide +kernel
theorem dX16_isSpace_0 : decode cX16_isSpace 0 = .ok (.aload_n 0, 1) := by decide +kernel
theorem dX16_isSpace_1 : decode cX16_isSpace 1 = .ok (.getfield 183, 3) := by decide +kernel
theorem dX16_isSpace_4 : decode cX16_isSpace 4 = .ok (.ifCond .eq 19, 3) := by decide +kernel
theorem dX16_isSpace_23 : decode cX16_isSpace 23 = .ok (.iconst 0, 1) := by decide +kernel
theorem dX16_isSpace_24 : decode cX16_isSpace 24 = .ok (.ireturn, 1) := by decide +kernel
theorem dX16_isSpace_7 : decode cX16_isSpace 7 = .ok (.iload_n 1, 1) := by decide +kernel
theorem dX16_isSpace_8 : decode cX16_isSpace 8 = .ok (.ifCond .lt 15, 3) := by decide +kernel
theorem dX16_isSpace_11 : decode cX16_isSpace 11 = .ok (.iload_n 1, 1) := by decide +kernel
theorem dX16_isSpace_12 : decode cX16_isSpace 12 = .ok (.aload_n 0, 1) := by decide +kernel
theorem dX16_isSpace_13 : decode cX16_isSpace 13 = .ok (.getfield 171, 3) := by decide +kernel
theorem dX16_isSpace_16 : decode cX16_isSpace 16 = .ok (.if_icmp .ge 7, 3) := by decide +kernel
theorem dX16_isSpace_19 : decode cX16_isSpace 19 = .ok (.iconst 1, 1) := by decide +kernel
theorem dX16_isSpace_20 : decode cX16_isSpace 20 = .ok (.goto 4, 3) := by decide +kernel
theorem dX16_isAny_0 : decode cX16_isAny 0 = .ok (.aload_n 0, 1) := by decide +kernel
theorem dX16_isAny_1 : decode cX16_isAny 1 = .ok (.getfield 183, 3) := by decide +kernel
theorem dX16_isAny_4 : decode cX16_isAny 4 = .ok (.ifCond .eq 20, 3) := by decide +kernel
theorem dX16_isAny_24 : decode cX16_isAny 24 = .ok (.iconst 0, 1) := by decide +kernel
theorem dX16_isAny_25 : decode cX16_isAny 25 = .ok (.ireturn, 1) := by decide +kernel
theorem dX16_isAny_7 : decode cX16_isAny 7 = .ok (.iload_n 1, 1) := by decide +kernel
theorem dX16_isAny_8 : decode cX16_isAny 8 = .ok (.iconst (-1), 1) := by decide +kernel
theorem dX16_isAny_9 : decode cX16_isAny 9 = .ok (.if_icmp .lt 15, 3) := by decide +kernel
theorem dX16_isAny_12 : decode cX16_isAny 12 = .ok (.iload_n 1, 1) := by decide +kernel
theorem dX16_isAny_13 : decode cX16_isAny 13 = .ok (.aload_n 0, 1) := by decide +kernel
theorem dX16_isAny_14 : decode cX16_isAny 14 = .ok (.getfield 171, 3) := by decide +kernel
theorem dX16_isAny_17 : decode cX16_isAny 17 = .ok (.if_icmp .ge 7, 3) := by decide +kernel
theorem dX16_isAny_20 : decode cX16_isAny 20 = .ok (.iconst 1, 1) := by decide +kernel
theorem dX16_isAny_21 : decode cX16_isAny 21 = .ok (.goto 4, 3) := by decide +kernel
theorem dX16_outerSides_0 : decode cX16_outerSides 0 = .ok (.iconst 0, 1) := by decide +kernel
theorem dX16_outerSides_1 : decode cX16_outerSides 1 = .ok (.istore_n 1, 1) := by decide +kernel
theorem dX16_outerSides_2 : decode cX16_outerSides 2 = .ok (.iconst 0, 1) := by decide +kernel
theorem dX16_outerSides_3 : decode cX16_outerSides 3 = .ok (.istore_n 2, 1) := by decide +kernel
theorem dX16_outerSides_4 : decode cX16_outerSides 4 = .ok (.iload_n 2, 1) := by decide +kernel
theorem dX16_outerSides_5 : decode cX16_outerSides 5 = .ok (.iconst 2, 1) := by decide +kernel
theorem dX16_outerSides_6 : decode cX16_outerSides 6 = .ok (.aload_n 0, 1) := by decide +kernel
theorem dX16_outerSides_7 : decode cX16_outerSides 7 = .ok (.getfield 143, 3) := by decide +kernel
theorem dX16_outerSides_10 : decode cX16_outerSides 10 = .ok (.imul, 1) := by decide +kernel
theorem dX16_outerSides_11 : decode cX16_outerSides 11 = .ok (.if_icmp .ge 25, 3) := by decide +kernel
theorem dX16_outerSides_14 : decode cX16_outerSides 14 = .ok (.iload_n 1, 1) := by decide +kernel
theorem dX16_outerSides_15 : decode cX16_outerSides 15 = .ok (.aload_n 0, 1) := by decide +kernel
theorem dX16_outerSides_16 : decode cX16_outerSides 16 = .ok (.iload_n 2, 1) := by decide +kernel
theorem dX16_outerSides_17 : decode cX16_outerSides 17 = .ok (.invokevirtual 153, 3) := by decide +kernel
theorem dX16_outerSides_20 : decode cX16_outerSides 20 = .ok (.ifCond .ge 7, 3) := by decide +kernel
theorem dX16_outerSides_27 : decode cX16_outerSides 27 = .ok (.iconst 0, 1) := by decide +kernel
theorem dX16_outerSides_28 : decode cX16_outerSides 28 = .ok (.iadd, 1) := by decide +kernel
theorem dX16_outerSides_29 : decode cX16_outerSides 29 = .ok (.istore_n 1, 1) := by decide +kernel
theorem dX16_outerSides_30 : decode cX16_outerSides 30 = .ok (.iinc 2 1, 3) := by decide +kernel
theorem dX16_outerSides_33 : decode cX16_outerSides 33 = .ok (.goto (-29), 3) := by decide +kernel
theorem dX16_outerSides_23 : decode cX16_outerSides 23 = .ok (.iconst 1, 1) := by decide +kernel
theorem dX16_outerSides_24 : decode cX16_outerSides 24 = .ok (.goto 4, 3) := by decide +kernel
theorem dX16_outerSides_36 : decode cX16_outerSides 36 = .ok (.iload_n 1, 1) := by decide +kernel
theorem dX16_outerSides_37 : decode cX16_outerSides 37 = .ok (.ireturn, 1) := by decide +kernel
theorem dX16_ringsOf_0 : decode cX16_ringsOf 0 = .ok (.iconst 0, 1) := by decide +kernel
theorem dX16_ringsOf_1 : decode cX16_ringsOf 1 = .ok (.istore_n 2, 1) := by decide +kernel
theorem dX16_ringsOf_2 : decode cX16_ringsOf 2 = .ok (.iconst 0, 1) := by decide +kernel
theorem dX16_ringsOf_3 : decode cX16_ringsOf 3 = .ok (.istore_n 3, 1) := by decide +kernel
theorem dX16_ringsOf_4 : decode cX16_ringsOf 4 = .ok (.iload_n 3, 1) := by decide +kernel
theorem dX16_ringsOf_5 : decode cX16_ringsOf 5 = .ok (.aload_n 0, 1) := by decide +kernel
theorem dX16_ringsOf_6 : decode cX16_ringsOf 6 = .ok (.getfield 165, 3) := by decide +kernel
theorem dX16_ringsOf_9 : decode cX16_ringsOf 9 = .ok (.if_icmp .ge 31, 3) := by decide +kernel
theorem dX16_ringsOf_12 : decode cX16_ringsOf 12 = .ok (.iload_n 2, 1) := by decide +kernel
theorem dX16_ringsOf_13 : decode cX16_ringsOf 13 = .ok (.aload_n 0, 1) := by decide +kernel
theorem dX16_ringsOf_14 : decode cX16_ringsOf 14 = .ok (.aload_n 0, 1) := by decide +kernel
theorem dX16_ringsOf_15 : decode cX16_ringsOf 15 = .ok (.getfield 77, 3) := by decide +kernel
theorem dX16_ringsOf_18 : decode cX16_ringsOf 18 = .ok (.iload_n 3, 1) := by decide +kernel
theorem dX16_ringsOf_19 : decode cX16_ringsOf 19 = .ok (.iaload, 1) := by decide +kernel
theorem dX16_ringsOf_20 : decode cX16_ringsOf 20 = .ok (.invokevirtual 153, 3) := by decide +kernel
theorem dX16_ringsOf_23 : decode cX16_ringsOf 23 = .ok (.iload_n 1, 1) := by decide +kernel
theorem dX16_ringsOf_24 : decode cX16_ringsOf 24 = .ok (.if_icmp .ne 7, 3) := by decide +kernel
theorem dX16_ringsOf_31 : decode cX16_ringsOf 31 = .ok (.iconst 0, 1) := by decide +kernel
theorem dX16_ringsOf_32 : decode cX16_ringsOf 32 = .ok (.iadd, 1) := by decide +kernel
theorem dX16_ringsOf_33 : decode cX16_ringsOf 33 = .ok (.istore_n 2, 1) := by decide +kernel
theorem dX16_ringsOf_34 : decode cX16_ringsOf 34 = .ok (.iinc 3 1, 3) := by decide +kernel
theorem dX16_ringsOf_37 : decode cX16_ringsOf 37 = .ok (.goto (-33), 3) := by decide +kernel
theorem dX16_ringsOf_27 : decode cX16_ringsOf 27 = .ok (.iconst 1, 1) := by decide +kernel
theorem dX16_ringsOf_28 : decode cX16_ringsOf 28 = .ok (.goto 4, 3) := by decide +kernel
theorem dX16_ringsOf_40 : decode cX16_ringsOf 40 = .ok (.iload_n 2, 1) := by decide +kernel
theorem dX16_ringsOf_41 : decode cX16_ringsOf 41 = .ok (.ireturn, 1) := by decide +kernel
theorem dX16_ringOf_0 : decode cX16_ringOf 0 = .ok (.iload_n 2, 1) := by decide +kernel
theorem dX16_ringOf_1 : decode cX16_ringOf 1 = .ok (.istore_n 3, 1) := by decide +kernel
theorem dX16_ringOf_2 : decode cX16_ringOf 2 = .ok (.iconst 0, 1) := by decide +kernel
theorem dX16_ringOf_3 : decode cX16_ringOf 3 = .ok (.istore 4, 2) := by decide +kernel
theorem dX16_ringOf_5 : decode cX16_ringOf 5 = .ok (.iload 4, 2) := by decide +kernel
theorem dX16_ringOf_7 : decode cX16_ringOf 7 = .ok (.aload_n 0, 1) := by decide +kernel
theorem dX16_ringOf_8 : decode cX16_ringOf 8 = .ok (.getfield 165, 3) := by decide +kernel
theorem dX16_ringOf_11 : decode cX16_ringOf 11 = .ok (.if_icmp .ge 46, 3) := by decide +kernel
theorem dX16_ringOf_14 : decode cX16_ringOf 14 = .ok (.aload_n 0, 1) := by decide +kernel
theorem dX16_ringOf_15 : decode cX16_ringOf 15 = .ok (.iload_n 1, 1) := by decide +kernel
theorem dX16_ringOf_16 : decode cX16_ringOf 16 = .ok (.invokevirtual 221, 3) := by decide +kernel
theorem dX16_ringOf_19 : decode cX16_ringOf 19 = .ok (.ifCond .eq 38, 3) := by decide +kernel
theorem dX16_ringOf_22 : decode cX16_ringOf 22 = .ok (.iload_n 2, 1) := by decide +kernel
theorem dX16_ringOf_23 : decode cX16_ringOf 23 = .ok (.ifCond .lt 34, 3) := by decide +kernel
theorem dX16_ringOf_26 : decode cX16_ringOf 26 = .ok (.aload_n 0, 1) := by decide +kernel
theorem dX16_ringOf_27 : decode cX16_ringOf 27 = .ok (.aload_n 0, 1) := by decide +kernel
theorem dX16_ringOf_28 : decode cX16_ringOf 28 = .ok (.getfield 77, 3) := by decide +kernel
theorem dX16_ringOf_31 : decode cX16_ringOf 31 = .ok (.iload 4, 2) := by decide +kernel
theorem dX16_ringOf_33 : decode cX16_ringOf 33 = .ok (.iaload, 1) := by decide +kernel
theorem dX16_ringOf_34 : decode cX16_ringOf 34 = .ok (.invokevirtual 153, 3) := by decide +kernel
theorem dX16_ringOf_37 : decode cX16_ringOf 37 = .ok (.iload_n 1, 1) := by decide +kernel
theorem dX16_ringOf_38 : decode cX16_ringOf 38 = .ok (.if_icmp .ne 13, 3) := by decide +kernel
theorem dX16_ringOf_51 : decode cX16_ringOf 51 = .ok (.iinc 4 1, 3) := by decide +kernel
theorem dX16_ringOf_54 : decode cX16_ringOf 54 = .ok (.goto (-49), 3) := by decide +kernel
theorem dX16_ringOf_41 : decode cX16_ringOf 41 = .ok (.iload_n 3, 1) := by decide +kernel
theorem dX16_ringOf_42 : decode cX16_ringOf 42 = .ok (.ifCond .ne 6, 3) := by decide +kernel
theorem dX16_ringOf_48 : decode cX16_ringOf 48 = .ok (.iinc 3 (-1), 3) := by decide +kernel
theorem dX16_ringOf_45 : decode cX16_ringOf 45 = .ok (.iload 4, 2) := by decide +kernel
theorem dX16_ringOf_47 : decode cX16_ringOf 47 = .ok (.ireturn, 1) := by decide +kernel
theorem dX16_ringOf_57 : decode cX16_ringOf 57 = .ok (.iconst (-1), 1) := by decide +kernel
theorem dX16_ringOf_58 : decode cX16_ringOf 58 = .ok (.ireturn, 1) := by decide +kernel
theorem dX16_sides_0 : decode cX16_sides 0 = .ok (.aload_n 0, 1) := by decide +kernel
theorem dX16_sides_1 : decode cX16_sides 1 = .ok (.iload_n 1, 1) := by decide +kernel
theorem dX16_sides_2 : decode cX16_sides 2 = .ok (.iload_n 2, 1) := by decide +kernel
theorem dX16_sides_3 : decode cX16_sides 3 = .ok (.invokevirtual 224, 3) := by decide +kernel
theorem dX16_sides_6 : decode cX16_sides 6 = .ok (.istore_n 3, 1) := by decide +kernel
theorem dX16_sides_7 : decode cX16_sides 7 = .ok (.iload_n 3, 1) := by decide +kernel
theorem dX16_sides_8 : decode cX16_sides 8 = .ok (.ifCond .ge 7, 3) := by decide +kernel
theorem dX16_sides_15 : decode cX16_sides 15 = .ok (.aload_n 0, 1) := by decide +kernel
theorem dX16_sides_16 : decode cX16_sides 16 = .ok (.getfield 80, 3) := by decide +kernel
theorem dX16_sides_19 : decode cX16_sides 19 = .ok (.iload_n 3, 1) := by decide +kernel
theorem dX16_sides_20 : decode cX16_sides 20 = .ok (.iaload, 1) := by decide +kernel
theorem dX16_sides_21 : decode cX16_sides 21 = .ok (.ireturn, 1) := by decide +kernel
theorem dX16_sides_11 : decode cX16_sides 11 = .ok (.iconst 0, 1) := by decide +kernel
theorem dX16_sides_12 : decode cX16_sides 12 = .ok (.goto 9, 3) := by decide +kernel
theorem dX16_side_0 : decode cX16_side 0 = .ok (.aload_n 0, 1) := by decide +kernel
theorem dX16_side_1 : decode cX16_side 1 = .ok (.getfield 77, 3) := by decide +kernel
theorem dX16_side_4 : decode cX16_side 4 = .ok (.aload_n 0, 1) := by decide +kernel
theorem dX16_side_5 : decode cX16_side 5 = .ok (.iload_n 1, 1) := by decide +kernel
theorem dX16_side_6 : decode cX16_side 6 = .ok (.iload_n 2, 1) := by decide +kernel
theorem dX16_side_7 : decode cX16_side 7 = .ok (.invokevirtual 224, 3) := by decide +kernel
theorem dX16_side_10 : decode cX16_side 10 = .ok (.iaload, 1) := by decide +kernel
theorem dX16_side_11 : decode cX16_side 11 = .ok (.istore 5, 2) := by decide +kernel
theorem dX16_side_13 : decode cX16_side 13 = .ok (.iconst 0, 1) := by decide +kernel
theorem dX16_side_14 : decode cX16_side 14 = .ok (.istore 6, 2) := by decide +kernel
theorem dX16_side_16 : decode cX16_side 16 = .ok (.iload 6, 2) := by decide +kernel
theorem dX16_side_18 : decode cX16_side 18 = .ok (.iload_n 3, 1) := by decide +kernel
theorem dX16_side_19 : decode cX16_side 19 = .ok (.if_icmp .ge 17, 3) := by decide +kernel
theorem dX16_side_22 : decode cX16_side 22 = .ok (.aload_n 0, 1) := by decide +kernel
theorem dX16_side_23 : decode cX16_side 23 = .ok (.iload 5, 2) := by decide +kernel
theorem dX16_side_25 : decode cX16_side 25 = .ok (.invokevirtual 168, 3) := by decide +kernel
theorem dX16_side_28 : decode cX16_side 28 = .ok (.istore 5, 2) := by decide +kernel
theorem dX16_side_30 : decode cX16_side 30 = .ok (.iinc 6 1, 3) := by decide +kernel
theorem dX16_side_33 : decode cX16_side 33 = .ok (.goto (-17), 3) := by decide +kernel
theorem dX16_side_36 : decode cX16_side 36 = .ok (.iload 4, 2) := by decide +kernel
theorem dX16_side_38 : decode cX16_side 38 = .ok (.tableswitch 92 0 4 #[34, 44, 56, 68, 80], 34) := by decide +kernel
theorem dX16_side_130 : decode cX16_side 130 = .ok (.aload_n 0, 1) := by decide +kernel
theorem dX16_side_131 : decode cX16_side 131 = .ok (.iload 5, 2) := by decide +kernel
theorem dX16_side_133 : decode cX16_side 133 = .ok (.invokevirtual 227, 3) := by decide +kernel
theorem dX16_side_136 : decode cX16_side 136 = .ok (.ireturn, 1) := by decide +kernel
theorem dX16_side_72 : decode cX16_side 72 = .ok (.aload_n 0, 1) := by decide +kernel
theorem dX16_side_73 : decode cX16_side 73 = .ok (.getfield 65, 3) := by decide +kernel
theorem dX16_side_76 : decode cX16_side 76 = .ok (.iload 5, 2) := by decide +kernel
theorem dX16_side_78 : decode cX16_side 78 = .ok (.iconst 2, 1) := by decide +kernel
theorem dX16_side_79 : decode cX16_side 79 = .ok (.idiv, 1) := by decide +kernel
theorem dX16_side_80 : decode cX16_side 80 = .ok (.iaload, 1) := by decide +kernel
theorem dX16_side_81 : decode cX16_side 81 = .ok (.ireturn, 1) := by decide +kernel
theorem dX16_side_82 : decode cX16_side 82 = .ok (.aload_n 0, 1) := by decide +kernel
theorem dX16_side_83 : decode cX16_side 83 = .ok (.getfield 59, 3) := by decide +kernel
theorem dX16_side_86 : decode cX16_side 86 = .ok (.aload_n 0, 1) := by decide +kernel
theorem dX16_side_87 : decode cX16_side 87 = .ok (.iload 5, 2) := by decide +kernel
theorem dX16_side_89 : decode cX16_side 89 = .ok (.invokevirtual 156, 3) := by decide +kernel
theorem dX16_side_92 : decode cX16_side 92 = .ok (.iaload, 1) := by decide +kernel
theorem dX16_side_93 : decode cX16_side 93 = .ok (.ireturn, 1) := by decide +kernel
theorem dX16_side_94 : decode cX16_side 94 = .ok (.aload_n 0, 1) := by decide +kernel
theorem dX16_side_95 : decode cX16_side 95 = .ok (.getfield 62, 3) := by decide +kernel
theorem dX16_side_98 : decode cX16_side 98 = .ok (.aload_n 0, 1) := by decide +kernel
theorem dX16_side_99 : decode cX16_side 99 = .ok (.iload 5, 2) := by decide +kernel
theorem dX16_side_101 : decode cX16_side 101 = .ok (.invokevirtual 156, 3) := by decide +kernel
theorem dX16_side_104 : decode cX16_side 104 = .ok (.iaload, 1) := by decide +kernel
theorem dX16_side_105 : decode cX16_side 105 = .ok (.ireturn, 1) := by decide +kernel
theorem dX16_side_106 : decode cX16_side 106 = .ok (.aload_n 0, 1) := by decide +kernel
theorem dX16_side_107 : decode cX16_side 107 = .ok (.getfield 59, 3) := by decide +kernel
theorem dX16_side_110 : decode cX16_side 110 = .ok (.aload_n 0, 1) := by decide +kernel
theorem dX16_side_111 : decode cX16_side 111 = .ok (.iload 5, 2) := by decide +kernel
theorem dX16_side_113 : decode cX16_side 113 = .ok (.invokevirtual 159, 3) := by decide +kernel
theorem dX16_side_116 : decode cX16_side 116 = .ok (.iaload, 1) := by decide +kernel
theorem dX16_side_117 : decode cX16_side 117 = .ok (.ireturn, 1) := by decide +kernel
theorem dX16_side_118 : decode cX16_side 118 = .ok (.aload_n 0, 1) := by decide +kernel
theorem dX16_side_119 : decode cX16_side 119 = .ok (.getfield 62, 3) := by decide +kernel
theorem dX16_side_122 : decode cX16_side 122 = .ok (.aload_n 0, 1) := by decide +kernel
theorem dX16_side_123 : decode cX16_side 123 = .ok (.iload 5, 2) := by decide +kernel
theorem dX16_side_125 : decode cX16_side 125 = .ok (.invokevirtual 159, 3) := by decide +kernel
theorem dX16_side_128 : decode cX16_side 128 = .ok (.iaload, 1) := by decide +kernel
theorem dX16_side_129 : decode cX16_side 129 = .ok (.ireturn, 1) := by decide +kernel
theorem dX16_size_0 : decode cX16_size 0 = .ok (.iconst 0, 1) := by decide +kernel
theorem dX16_size_1 : decode cX16_size 1 = .ok (.istore_n 3, 1) := by decide +kernel
theorem dX16_size_2 : decode cX16_size 2 = .ok (.iconst 1, 1) := by decide +kernel
theorem dX16_size_3 : decode cX16_size 3 = .ok (.istore 4, 2) := by decide +kernel
theorem dX16_size_5 : decode cX16_size 5 = .ok (.iload 4, 2) := by decide +kernel
theorem dX16_size_7 : decode cX16_size 7 = .ok (.aload_n 0, 1) := by decide +kernel
theorem dX16_size_8 : decode cX16_size 8 = .ok (.getfield 115, 3) := by decide +kernel
theorem dX16_size_11 : decode cX16_size 11 = .ok (.if_icmp .ge 86, 3) := by decide +kernel
theorem dX16_size_14 : decode cX16_size 14 = .ok (.iconst 1, 1) := by decide +kernel
theorem dX16_size_15 : decode cX16_size 15 = .ok (.istore 5, 2) := by decide +kernel
theorem dX16_size_17 : decode cX16_size 17 = .ok (.iload 5, 2) := by decide +kernel
theorem dX16_size_19 : decode cX16_size 19 = .ok (.aload_n 0, 1) := by decide +kernel
theorem dX16_size_20 : decode cX16_size 20 = .ok (.getfield 118, 3) := by decide +kernel
theorem dX16_size_23 : decode cX16_size 23 = .ok (.if_icmp .ge 68, 3) := by decide +kernel
theorem dX16_size_26 : decode cX16_size 26 = .ok (.iload_n 3, 1) := by decide +kernel
theorem dX16_size_27 : decode cX16_size 27 = .ok (.aload_n 0, 1) := by decide +kernel
theorem dX16_size_28 : decode cX16_size 28 = .ok (.getfield 41, 3) := by decide +kernel
theorem dX16_size_31 : decode cX16_size 31 = .ok (.bipush 42, 2) := by decide +kernel
theorem dX16_size_33 : decode cX16_size 33 = .ok (.iload 4, 2) := by decide +kernel
theorem dX16_size_35 : decode cX16_size 35 = .ok (.imul, 1) := by decide +kernel
theorem dX16_size_36 : decode cX16_size 36 = .ok (.iload 5, 2) := by decide +kernel
theorem dX16_size_38 : decode cX16_size 38 = .ok (.iadd, 1) := by decide +kernel
theorem dX16_size_39 : decode cX16_size 39 = .ok (.iaload, 1) := by decide +kernel
theorem dX16_size_40 : decode cX16_size 40 = .ok (.iload_n 1, 1) := by decide +kernel
theorem dX16_size_41 : decode cX16_size 41 = .ok (.if_icmp .ne 41, 3) := by decide +kernel
theorem dX16_size_82 : decode cX16_size 82 = .ok (.iconst 0, 1) := by decide +kernel
theorem dX16_size_83 : decode cX16_size 83 = .ok (.iadd, 1) := by decide +kernel
theorem dX16_size_84 : decode cX16_size 84 = .ok (.istore_n 3, 1) := by decide +kernel
theorem dX16_size_85 : decode cX16_size 85 = .ok (.iinc 5 1, 3) := by decide +kernel
theorem dX16_size_88 : decode cX16_size 88 = .ok (.goto (-71), 3) := by decide +kernel
theorem dX16_size_44 : decode cX16_size 44 = .ok (.aload_n 0, 1) := by decide +kernel
theorem dX16_size_45 : decode cX16_size 45 = .ok (.getfield 35, 3) := by decide +kernel
theorem dX16_size_48 : decode cX16_size 48 = .ok (.iload 5, 2) := by decide +kernel
theorem dX16_size_50 : decode cX16_size 50 = .ok (.iaload, 1) := by decide +kernel
theorem dX16_size_51 : decode cX16_size 51 = .ok (.aload_n 0, 1) := by decide +kernel
theorem dX16_size_52 : decode cX16_size 52 = .ok (.getfield 35, 3) := by decide +kernel
theorem dX16_size_55 : decode cX16_size 55 = .ok (.iload 5, 2) := by decide +kernel
theorem dX16_size_57 : decode cX16_size 57 = .ok (.iconst 1, 1) := by decide +kernel
theorem dX16_size_58 : decode cX16_size 58 = .ok (.isub, 1) := by decide +kernel
theorem dX16_size_59 : decode cX16_size 59 = .ok (.iaload, 1) := by decide +kernel
theorem dX16_size_60 : decode cX16_size 60 = .ok (.isub, 1) := by decide +kernel
theorem dX16_size_61 : decode cX16_size 61 = .ok (.aload_n 0, 1) := by decide +kernel
theorem dX16_size_62 : decode cX16_size 62 = .ok (.getfield 38, 3) := by decide +kernel
theorem dX16_size_65 : decode cX16_size 65 = .ok (.iload 4, 2) := by decide +kernel
theorem dX16_size_67 : decode cX16_size 67 = .ok (.iaload, 1) := by decide +kernel
theorem dX16_size_68 : decode cX16_size 68 = .ok (.aload_n 0, 1) := by decide +kernel
theorem dX16_size_69 : decode cX16_size 69 = .ok (.getfield 38, 3) := by decide +kernel
theorem dX16_size_72 : decode cX16_size 72 = .ok (.iload 4, 2) := by decide +kernel
theorem dX16_size_74 : decode cX16_size 74 = .ok (.iconst 1, 1) := by decide +kernel
theorem dX16_size_75 : decode cX16_size 75 = .ok (.isub, 1) := by decide +kernel
theorem dX16_size_76 : decode cX16_size 76 = .ok (.iaload, 1) := by decide +kernel
theorem dX16_size_77 : decode cX16_size 77 = .ok (.isub, 1) := by decide +kernel
theorem dX16_size_78 : decode cX16_size 78 = .ok (.imul, 1) := by decide +kernel
theorem dX16_size_79 : decode cX16_size 79 = .ok (.goto 4, 3) := by decide +kernel
theorem dX16_size_91 : decode cX16_size 91 = .ok (.iinc 4 1, 3) := by decide +kernel
theorem dX16_size_94 : decode cX16_size 94 = .ok (.goto (-89), 3) := by decide +kernel
theorem dX16_size_97 : decode cX16_size 97 = .ok (.iconst 0, 1) := by decide +kernel
theorem dX16_size_98 : decode cX16_size 98 = .ok (.istore 4, 2) := by decide +kernel
theorem dX16_size_100 : decode cX16_size 100 = .ok (.iconst 0, 1) := by decide +kernel
theorem dX16_size_101 : decode cX16_size 101 = .ok (.istore 5, 2) := by decide +kernel
theorem dX16_size_103 : decode cX16_size 103 = .ok (.iload 5, 2) := by decide +kernel
theorem dX16_size_105 : decode cX16_size 105 = .ok (.iconst 2, 1) := by decide +kernel
theorem dX16_size_106 : decode cX16_size 106 = .ok (.aload_n 0, 1) := by decide +kernel
theorem dX16_size_107 : decode cX16_size 107 = .ok (.getfield 143, 3) := by decide +kernel
theorem dX16_size_110 : decode cX16_size 110 = .ok (.imul, 1) := by decide +kernel
theorem dX16_size_111 : decode cX16_size 111 = .ok (.if_icmp .ge 34, 3) := by decide +kernel
theorem dX16_size_114 : decode cX16_size 114 = .ok (.iload 4, 2) := by decide +kernel
theorem dX16_size_116 : decode cX16_size 116 = .ok (.aload_n 0, 1) := by decide +kernel
theorem dX16_size_117 : decode cX16_size 117 = .ok (.iload 5, 2) := by decide +kernel
theorem dX16_size_119 : decode cX16_size 119 = .ok (.invokevirtual 153, 3) := by decide +kernel
theorem dX16_size_122 : decode cX16_size 122 = .ok (.iload_n 1, 1) := by decide +kernel
theorem dX16_size_123 : decode cX16_size 123 = .ok (.if_icmp .ne 12, 3) := by decide +kernel
theorem dX16_size_135 : decode cX16_size 135 = .ok (.iconst 0, 1) := by decide +kernel
theorem dX16_size_136 : decode cX16_size 136 = .ok (.iadd, 1) := by decide +kernel
theorem dX16_size_137 : decode cX16_size 137 = .ok (.istore 4, 2) := by decide +kernel
theorem dX16_size_139 : decode cX16_size 139 = .ok (.iinc 5 1, 3) := by decide +kernel
theorem dX16_size_142 : decode cX16_size 142 = .ok (.goto (-39), 3) := by decide +kernel
theorem dX16_size_126 : decode cX16_size 126 = .ok (.aload_n 0, 1) := by decide +kernel
theorem dX16_size_127 : decode cX16_size 127 = .ok (.iload 5, 2) := by decide +kernel
theorem dX16_size_129 : decode cX16_size 129 = .ok (.invokevirtual 230, 3) := by decide +kernel
theorem dX16_size_132 : decode cX16_size 132 = .ok (.goto 4, 3) := by decide +kernel
theorem dX16_size_145 : decode cX16_size 145 = .ok (.iload_n 2, 1) := by decide +kernel
theorem dX16_size_146 : decode cX16_size 146 = .ok (.ifCond .ne 7, 3) := by decide +kernel
theorem dX16_size_153 : decode cX16_size 153 = .ok (.iload_n 2, 1) := by decide +kernel
theorem dX16_size_154 : decode cX16_size 154 = .ok (.iconst 1, 1) := by decide +kernel
theorem dX16_size_155 : decode cX16_size 155 = .ok (.if_icmp .ne 8, 3) := by decide +kernel
theorem dX16_size_163 : decode cX16_size 163 = .ok (.aload_n 0, 1) := by decide +kernel
theorem dX16_size_164 : decode cX16_size 164 = .ok (.iload_n 1, 1) := by decide +kernel
theorem dX16_size_165 : decode cX16_size 165 = .ok (.invokevirtual 233, 3) := by decide +kernel
theorem dX16_size_168 : decode cX16_size 168 = .ok (.ireturn, 1) := by decide +kernel
theorem dX16_size_158 : decode cX16_size 158 = .ok (.iload 4, 2) := by decide +kernel
theorem dX16_size_160 : decode cX16_size 160 = .ok (.goto 8, 3) := by decide +kernel
theorem dX16_size_149 : decode cX16_size 149 = .ok (.iload_n 3, 1) := by decide +kernel
theorem dX16_size_150 : decode cX16_size 150 = .ok (.goto 18, 3) := by decide +kernel
theorem dX16_at_0 : decode cX16_at 0 = .ok (.iconst 0, 1) := by decide +kernel
theorem dX16_at_1 : decode cX16_at 1 = .ok (.istore_n 3, 1) := by decide +kernel
theorem dX16_at_2 : decode cX16_at 2 = .ok (.iload_n 3, 1) := by decide +kernel
theorem dX16_at_3 : decode cX16_at 3 = .ok (.aload_n 0, 1) := by decide +kernel
theorem dX16_at_4 : decode cX16_at 4 = .ok (.getfield 118, 3) := by decide +kernel
theorem dX16_at_7 : decode cX16_at 7 = .ok (.if_icmp .ge 19, 3) := by decide +kernel
theorem dX16_at_10 : decode cX16_at 10 = .ok (.aload_n 0, 1) := by decide +kernel
theorem dX16_at_11 : decode cX16_at 11 = .ok (.getfield 35, 3) := by decide +kernel
theorem dX16_at_14 : decode cX16_at 14 = .ok (.iload_n 3, 1) := by decide +kernel
theorem dX16_at_15 : decode cX16_at 15 = .ok (.iaload, 1) := by decide +kernel
theorem dX16_at_16 : decode cX16_at 16 = .ok (.iload_n 1, 1) := by decide +kernel
theorem dX16_at_17 : decode cX16_at 17 = .ok (.if_icmp .gt 9, 3) := by decide +kernel
theorem dX16_at_20 : decode cX16_at 20 = .ok (.iinc 3 1, 3) := by decide +kernel
theorem dX16_at_23 : decode cX16_at 23 = .ok (.goto (-21), 3) := by decide +kernel
theorem dX16_at_26 : decode cX16_at 26 = .ok (.iconst 0, 1) := by decide +kernel
theorem dX16_at_27 : decode cX16_at 27 = .ok (.istore 4, 2) := by decide +kernel
theorem dX16_at_29 : decode cX16_at 29 = .ok (.iload 4, 2) := by decide +kernel
theorem dX16_at_31 : decode cX16_at 31 = .ok (.aload_n 0, 1) := by decide +kernel
theorem dX16_at_32 : decode cX16_at 32 = .ok (.getfield 115, 3) := by decide +kernel
theorem dX16_at_35 : decode cX16_at 35 = .ok (.if_icmp .ge 20, 3) := by decide +kernel
theorem dX16_at_38 : decode cX16_at 38 = .ok (.aload_n 0, 1) := by decide +kernel
theorem dX16_at_39 : decode cX16_at 39 = .ok (.getfield 38, 3) := by decide +kernel
theorem dX16_at_42 : decode cX16_at 42 = .ok (.iload 4, 2) := by decide +kernel
theorem dX16_at_44 : decode cX16_at 44 = .ok (.iaload, 1) := by decide +kernel
theorem dX16_at_45 : decode cX16_at 45 = .ok (.iload_n 2, 1) := by decide +kernel
theorem dX16_at_46 : decode cX16_at 46 = .ok (.if_icmp .gt 9, 3) := by decide +kernel
theorem dX16_at_49 : decode cX16_at 49 = .ok (.iinc 4 1, 3) := by decide +kernel
theorem dX16_at_52 : decode cX16_at 52 = .ok (.goto (-23), 3) := by decide +kernel
theorem dX16_at_55 : decode cX16_at 55 = .ok (.aload_n 0, 1) := by decide +kernel
theorem dX16_at_56 : decode cX16_at 56 = .ok (.getfield 41, 3) := by decide +kernel
theorem dX16_at_59 : decode cX16_at 59 = .ok (.bipush 42, 2) := by decide +kernel
theorem dX16_at_61 : decode cX16_at 61 = .ok (.iload 4, 2) := by decide +kernel
theorem dX16_at_63 : decode cX16_at 63 = .ok (.imul, 1) := by decide +kernel
theorem dX16_at_64 : decode cX16_at 64 = .ok (.iload_n 3, 1) := by decide +kernel
theorem dX16_at_65 : decode cX16_at 65 = .ok (.iadd, 1) := by decide +kernel
theorem dX16_at_66 : decode cX16_at 66 = .ok (.iaload, 1) := by decide +kernel
theorem dX16_at_67 : decode cX16_at 67 = .ok (.ireturn, 1) := by decide +kernel
theorem dX16_beside_0 : decode cX16_beside 0 = .ok (.iconst 0, 1) := by decide +kernel
theorem dX16_beside_1 : decode cX16_beside 1 = .ok (.istore_n 3, 1) := by decide +kernel
theorem dX16_beside_2 : decode cX16_beside 2 = .ok (.iconst 0, 1) := by decide +kernel
theorem dX16_beside_3 : decode cX16_beside 3 = .ok (.istore 4, 2) := by decide +kernel
theorem dX16_beside_5 : decode cX16_beside 5 = .ok (.iload 4, 2) := by decide +kernel
theorem dX16_beside_7 : decode cX16_beside 7 = .ok (.iconst 2, 1) := by decide +kernel
theorem dX16_beside_8 : decode cX16_beside 8 = .ok (.aload_n 0, 1) := by decide +kernel
theorem dX16_beside_9 : decode cX16_beside 9 = .ok (.getfield 143, 3) := by decide +kernel
theorem dX16_beside_12 : decode cX16_beside 12 = .ok (.imul, 1) := by decide +kernel
theorem dX16_beside_13 : decode cX16_beside 13 = .ok (.if_icmp .ge 42, 3) := by decide +kernel
theorem dX16_beside_16 : decode cX16_beside 16 = .ok (.iload_n 3, 1) := by decide +kernel
theorem dX16_beside_17 : decode cX16_beside 17 = .ok (.aload_n 0, 1) := by decide +kernel
theorem dX16_beside_18 : decode cX16_beside 18 = .ok (.iload 4, 2) := by decide +kernel
theorem dX16_beside_20 : decode cX16_beside 20 = .ok (.invokevirtual 153, 3) := by decide +kernel
theorem dX16_beside_23 : decode cX16_beside 23 = .ok (.iload_n 1, 1) := by decide +kernel
theorem dX16_beside_24 : decode cX16_beside 24 = .ok (.if_icmp .ne 22, 3) := by decide +kernel
theorem dX16_beside_46 : decode cX16_beside 46 = .ok (.iconst 0, 1) := by decide +kernel
theorem dX16_beside_47 : decode cX16_beside 47 = .ok (.iadd, 1) := by decide +kernel
theorem dX16_beside_48 : decode cX16_beside 48 = .ok (.istore_n 3, 1) := by decide +kernel
theorem dX16_beside_49 : decode cX16_beside 49 = .ok (.iinc 4 1, 3) := by decide +kernel
theorem dX16_beside_52 : decode cX16_beside 52 = .ok (.goto (-47), 3) := by decide +kernel
theorem dX16_beside_27 : decode cX16_beside 27 = .ok (.aload_n 0, 1) := by decide +kernel
theorem dX16_beside_28 : decode cX16_beside 28 = .ok (.iload 4, 2) := by decide +kernel
theorem dX16_beside_30 : decode cX16_beside 30 = .ok (.invokevirtual 227, 3) := by decide +kernel
theorem dX16_beside_33 : decode cX16_beside 33 = .ok (.iload_n 2, 1) := by decide +kernel
theorem dX16_beside_34 : decode cX16_beside 34 = .ok (.if_icmp .ne 12, 3) := by decide +kernel
theorem dX16_beside_37 : decode cX16_beside 37 = .ok (.aload_n 0, 1) := by decide +kernel
theorem dX16_beside_38 : decode cX16_beside 38 = .ok (.iload 4, 2) := by decide +kernel
theorem dX16_beside_40 : decode cX16_beside 40 = .ok (.invokevirtual 230, 3) := by decide +kernel
theorem dX16_beside_43 : decode cX16_beside 43 = .ok (.goto 4, 3) := by decide +kernel
theorem dX16_beside_55 : decode cX16_beside 55 = .ok (.iload_n 3, 1) := by decide +kernel
theorem dX16_beside_56 : decode cX16_beside 56 = .ok (.ireturn, 1) := by decide +kernel
theorem dX16_hasDoor_0 : decode cX16_hasDoor 0 = .ok (.aload_n 0, 1) := by decide +kernel
theorem dX16_hasDoor_1 : decode cX16_hasDoor 1 = .ok (.getfield 65, 3) := by decide +kernel
theorem dX16_hasDoor_4 : decode cX16_hasDoor 4 = .ok (.iload_n 1, 1) := by decide +kernel
theorem dX16_hasDoor_5 : decode cX16_hasDoor 5 = .ok (.iconst 2, 1) := by decide +kernel
theorem dX16_hasDoor_6 : decode cX16_hasDoor 6 = .ok (.idiv, 1) := by decide +kernel
theorem dX16_hasDoor_7 : decode cX16_hasDoor 7 = .ok (.iaload, 1) := by decide +kernel
theorem dX16_hasDoor_8 : decode cX16_hasDoor 8 = .ok (.istore_n 2, 1) := by decide +kernel
theorem dX16_hasDoor_9 : decode cX16_hasDoor 9 = .ok (.aload_n 0, 1) := by decide +kernel
theorem dX16_hasDoor_10 : decode cX16_hasDoor 10 = .ok (.getfield 68, 3) := by decide +kernel
theorem dX16_hasDoor_13 : decode cX16_hasDoor 13 = .ok (.iload_n 1, 1) := by decide +kernel
theorem dX16_hasDoor_14 : decode cX16_hasDoor 14 = .ok (.iconst 2, 1) := by decide +kernel
theorem dX16_hasDoor_15 : decode cX16_hasDoor 15 = .ok (.idiv, 1) := by decide +kernel
theorem dX16_hasDoor_16 : decode cX16_hasDoor 16 = .ok (.iaload, 1) := by decide +kernel
theorem dX16_hasDoor_17 : decode cX16_hasDoor 17 = .ok (.istore_n 3, 1) := by decide +kernel
theorem dX16_hasDoor_18 : decode cX16_hasDoor 18 = .ok (.aload_n 0, 1) := by decide +kernel
theorem dX16_hasDoor_19 : decode cX16_hasDoor 19 = .ok (.getfield 59, 3) := by decide +kernel
theorem dX16_hasDoor_22 : decode cX16_hasDoor 22 = .ok (.iload_n 3, 1) := by decide +kernel
theorem dX16_hasDoor_23 : decode cX16_hasDoor 23 = .ok (.iaload, 1) := by decide +kernel
theorem dX16_hasDoor_24 : decode cX16_hasDoor 24 = .ok (.aload_n 0, 1) := by decide +kernel
theorem dX16_hasDoor_25 : decode cX16_hasDoor 25 = .ok (.getfield 7, 3) := by decide +kernel
theorem dX16_hasDoor_28 : decode cX16_hasDoor 28 = .ok (.iload_n 2, 1) := by decide +kernel
theorem dX16_hasDoor_29 : decode cX16_hasDoor 29 = .ok (.iaload, 1) := by decide +kernel
theorem dX16_hasDoor_30 : decode cX16_hasDoor 30 = .ok (.isub, 1) := by decide +kernel
theorem dX16_hasDoor_31 : decode cX16_hasDoor 31 = .ok (.aload_n 0, 1) := by decide +kernel
theorem dX16_hasDoor_32 : decode cX16_hasDoor 32 = .ok (.getfield 62, 3) := by decide +kernel
theorem dX16_hasDoor_35 : decode cX16_hasDoor 35 = .ok (.iload_n 3, 1) := by decide +kernel
theorem dX16_hasDoor_36 : decode cX16_hasDoor 36 = .ok (.iaload, 1) := by decide +kernel
theorem dX16_hasDoor_37 : decode cX16_hasDoor 37 = .ok (.iadd, 1) := by decide +kernel
theorem dX16_hasDoor_38 : decode cX16_hasDoor 38 = .ok (.aload_n 0, 1) := by decide +kernel
theorem dX16_hasDoor_39 : decode cX16_hasDoor 39 = .ok (.getfield 13, 3) := by decide +kernel
theorem dX16_hasDoor_42 : decode cX16_hasDoor 42 = .ok (.iload_n 2, 1) := by decide +kernel
theorem dX16_hasDoor_43 : decode cX16_hasDoor 43 = .ok (.iaload, 1) := by decide +kernel
theorem dX16_hasDoor_44 : decode cX16_hasDoor 44 = .ok (.isub, 1) := by decide +kernel
theorem dX16_hasDoor_45 : decode cX16_hasDoor 45 = .ok (.istore 4, 2) := by decide +kernel
theorem dX16_hasDoor_47 : decode cX16_hasDoor 47 = .ok (.iconst 0, 1) := by decide +kernel
theorem dX16_hasDoor_48 : decode cX16_hasDoor 48 = .ok (.istore 5, 2) := by decide +kernel
theorem dX16_hasDoor_50 : decode cX16_hasDoor 50 = .ok (.bipush 6, 2) := by decide +kernel
theorem dX16_hasDoor_52 : decode cX16_hasDoor 52 = .ok (.iload_n 2, 1) := by decide +kernel
theorem dX16_hasDoor_53 : decode cX16_hasDoor 53 = .ok (.imul, 1) := by decide +kernel
theorem dX16_hasDoor_54 : decode cX16_hasDoor 54 = .ok (.istore 6, 2) := by decide +kernel
theorem dX16_hasDoor_56 : decode cX16_hasDoor 56 = .ok (.iload 6, 2) := by decide +kernel
theorem dX16_hasDoor_58 : decode cX16_hasDoor 58 = .ok (.bipush 6, 2) := by decide +kernel
theorem dX16_hasDoor_60 : decode cX16_hasDoor 60 = .ok (.iload_n 2, 1) := by decide +kernel
theorem dX16_hasDoor_61 : decode cX16_hasDoor 61 = .ok (.imul, 1) := by decide +kernel
theorem dX16_hasDoor_62 : decode cX16_hasDoor 62 = .ok (.aload_n 0, 1) := by decide +kernel
theorem dX16_hasDoor_63 : decode cX16_hasDoor 63 = .ok (.getfield 23, 3) := by decide +kernel
theorem dX16_hasDoor_66 : decode cX16_hasDoor 66 = .ok (.iload_n 2, 1) := by decide +kernel
theorem dX16_hasDoor_67 : decode cX16_hasDoor 67 = .ok (.iaload, 1) := by decide +kernel
theorem dX16_hasDoor_68 : decode cX16_hasDoor 68 = .ok (.iadd, 1) := by decide +kernel
theorem dX16_hasDoor_69 : decode cX16_hasDoor 69 = .ok (.if_icmp .ge 51, 3) := by decide +kernel
theorem dX16_hasDoor_72 : decode cX16_hasDoor 72 = .ok (.iload 5, 2) := by decide +kernel
theorem dX16_hasDoor_74 : decode cX16_hasDoor 74 = .ok (.ifCond .ne 33, 3) := by decide +kernel
theorem dX16_hasDoor_107 : decode cX16_hasDoor 107 = .ok (.iconst 1, 1) := by decide +kernel
theorem dX16_hasDoor_108 : decode cX16_hasDoor 108 = .ok (.goto 4, 3) := by decide +kernel
theorem dX16_hasDoor_112 : decode cX16_hasDoor 112 = .ok (.istore 5, 2) := by decide +kernel
theorem dX16_hasDoor_114 : decode cX16_hasDoor 114 = .ok (.iinc 6 1, 3) := by decide +kernel
theorem dX16_hasDoor_117 : decode cX16_hasDoor 117 = .ok (.goto (-61), 3) := by decide +kernel
theorem dX16_hasDoor_77 : decode cX16_hasDoor 77 = .ok (.iload 4, 2) := by decide +kernel
theorem dX16_hasDoor_79 : decode cX16_hasDoor 79 = .ok (.iload 4, 2) := by decide +kernel
theorem dX16_hasDoor_81 : decode cX16_hasDoor 81 = .ok (.aload_n 0, 1) := by decide +kernel
theorem dX16_hasDoor_82 : decode cX16_hasDoor 82 = .ok (.iload_n 1, 1) := by decide +kernel
theorem dX16_hasDoor_83 : decode cX16_hasDoor 83 = .ok (.invokevirtual 230, 3) := by decide +kernel
theorem dX16_hasDoor_86 : decode cX16_hasDoor 86 = .ok (.iadd, 1) := by decide +kernel
theorem dX16_hasDoor_87 : decode cX16_hasDoor 87 = .ok (.aload_n 0, 1) := by decide +kernel
theorem dX16_hasDoor_88 : decode cX16_hasDoor 88 = .ok (.getfield 26, 3) := by decide +kernel
theorem dX16_hasDoor_91 : decode cX16_hasDoor 91 = .ok (.iload 6, 2) := by decide +kernel
theorem dX16_hasDoor_93 : decode cX16_hasDoor 93 = .ok (.iaload, 1) := by decide +kernel
theorem dX16_hasDoor_94 : decode cX16_hasDoor 94 = .ok (.aload_n 0, 1) := by decide +kernel
theorem dX16_hasDoor_95 : decode cX16_hasDoor 95 = .ok (.getfield 29, 3) := by decide +kernel
theorem dX16_hasDoor_98 : decode cX16_hasDoor 98 = .ok (.iload 6, 2) := by decide +kernel
theorem dX16_hasDoor_100 : decode cX16_hasDoor 100 = .ok (.iaload, 1) := by decide +kernel
theorem dX16_hasDoor_101 : decode cX16_hasDoor 101 = .ok (.invokestatic 214, 3) := by decide +kernel
theorem dX16_hasDoor_104 : decode cX16_hasDoor 104 = .ok (.ifCond .le 7, 3) := by decide +kernel
theorem dX16_hasDoor_111 : decode cX16_hasDoor 111 = .ok (.iconst 0, 1) := by decide +kernel
theorem dX16_hasDoor_120 : decode cX16_hasDoor 120 = .ok (.iload 5, 2) := by decide +kernel
theorem dX16_hasDoor_122 : decode cX16_hasDoor 122 = .ok (.ireturn, 1) := by decide +kernel
theorem zl_X16_146 : zm_L zk_E RX16 146 yX16_indexOf (.code yX16_indexOf cX16_indexOf 3 (some .int)) 2 ∧ Cond.static yX16_indexOf ∈ zk_E.2.2.1 := ⟨⟨zk_b17 112 (by decide +kernel) rfl, zk_b1 14 (by decide +kernel) rfl, zk_b17 110 (by decide +kernel) rfl, by decide +kernel, by decide +kernel, by decide +kernel⟩, zk_b17 111 (by decide +kernel) rfl⟩
theorem zl_X16_150 : zm_L zk_E RX16 150 yX16_sideWay (.code yX16_sideWay cX16_sideWay 2 (some .int)) 1 ∧ Cond.instanceMethod yX16_sideWay ∈ zk_E.2.2.1 ∧ Cond.selects yX16_sideWay.cls yX16_sideWay yX16_sideWay ∈ zk_E.2.2.1 := ⟨⟨zk_b17 93 (by decide +kernel) rfl, zk_b1 14 (by decide +kernel) rfl, zk_b17 90 (by decide +kernel) rfl, by decide +kernel, by decide +kernel, by decide +kernel⟩, zk_b17 92 (by decide +kernel) rfl, zk_s12 (q := (yX16_sideWay, 40)) 8 (by decide +kernel)⟩
theorem zl_X16_153 : zm_L zk_E RX16 153 yX16_left (.code yX16_left cX16_left 5 (some .int)) 1 ∧ Cond.instanceMethod yX16_left ∈ zk_E.2.2.1 ∧ Cond.selects yX16_left.cls yX16_left yX16_left ∈ zk_E.2.2.1 := ⟨⟨zk_b17 109 (by decide +kernel) rfl, zk_b1 14 (by decide +kernel) rfl, zk_b17 106 (by decide +kernel) rfl, by decide +kernel, by decide +kernel, by decide +kernel⟩, zk_b17 108 (by decide +kernel) rfl, zk_s12 (q := (yX16_left, 40)) 12 (by decide +kernel)⟩
theorem zl_X16_156 : zm_L zk_E RX16 156 yX16_sideFrom (.code yX16_sideFrom cX16_sideFrom 2 (some .int)) 1 ∧ Cond.instanceMethod yX16_sideFrom ∈ zk_E.2.2.1 ∧ Cond.selects yX16_sideFrom.cls yX16_sideFrom yX16_sideFrom ∈ zk_E.2.2.1 := ⟨⟨zk_b17 89 (by decide +kernel) rfl, zk_b1 14 (by decide +kernel) rfl, zk_b17 86 (by decide +kernel) rfl, by decide +kernel, by decide +kernel, by decide +kernel⟩, zk_b17 88 (by decide +kernel) rfl, zk_s12 (q := (yX16_sideFrom, 40)) 7 (by decide +kernel)⟩
theorem zl_X16_159 : zm_L zk_E RX16 159 yX16_sideTo (.code yX16_sideTo cX16_sideTo 2 (some .int)) 1 ∧ Cond.instanceMethod yX16_sideTo ∈ zk_E.2.2.1 ∧ Cond.selects yX16_sideTo.cls yX16_sideTo yX16_sideTo ∈ zk_E.2.2.1 := ⟨⟨zk_b17 101 (by decide +kernel) rfl, zk_b1 14 (by decide +kernel) rfl, zk_b17 98 (by decide +kernel) rfl, by decide +kernel, by decide +kernel, by decide +kernel⟩, zk_b17 100 (by decide +kernel) rfl, zk_s12 (q := (yX16_sideTo, 40)) 10 (by decide +kernel)⟩
theorem zl_X16_162 : zm_L zk_E RX16 162 yX16_leaving (.code yX16_leaving cX16_leaving 5 (some .int)) 2 ∧ Cond.instanceMethod yX16_leaving ∈ zk_E.2.2.1 ∧ Cond.selects yX16_leaving.cls yX16_leaving yX16_leaving ∈ zk_E.2.2.1 := ⟨⟨zk_b17 85 (by decide +kernel) rfl, zk_b1 14 (by decide +kernel) rfl, zk_b17 82 (by decide +kernel) rfl, by decide +kernel, by decide +kernel, by decide +kernel⟩, zk_b17 84 (by decide +kernel) rfl, zk_s12 (q := (yX16_leaving, 40)) 6 (by decide +kernel)⟩
theorem zl_X16_165 : zm_F zk_E RX16 165 16 35 := ⟨RX16, TX16, 40, rfl, zk_i16, by decide, zk_b13 118 (by decide +kernel) rfl⟩
theorem zt_16_35 : zm_T zk_E RX16 16 35 .int false := ⟨RX16, TX16, 40, tyX16, rfl, tyX16_ok, nmX16, rfl, rfl, rfl⟩
theorem zl_X16_168 : zm_L zk_E RX16 168 yX16_next (.code yX16_next cX16_next 4 (some .int)) 1 ∧ Cond.instanceMethod yX16_next ∈ zk_E.2.2.1 ∧ Cond.selects yX16_next.cls yX16_next yX16_next ∈ zk_E.2.2.1 := ⟨⟨zk_b17 97 (by decide +kernel) rfl, zk_b1 14 (by decide +kernel) rfl, zk_b17 94 (by decide +kernel) rfl, by decide +kernel, by decide +kernel, by decide +kernel⟩, zk_b17 96 (by decide +kernel) rfl, zk_s12 (q := (yX16_next, 40)) 9 (by decide +kernel)⟩
theorem zl_X16_171 : zm_F zk_E RX16 171 16 17 := ⟨RX16, TX16, 40, rfl, zk_i16, by decide, zk_b13 97 (by decide +kernel) rfl⟩
theorem zt_16_17 : zm_T zk_E RX16 16 17 .int false := ⟨RX16, TX16, 40, tyX16, rfl, tyX16_ok, nmX16, rfl, rfl, rfl⟩
theorem zl_X16_174 : zm_F zk_E RX16 174 16 19 := ⟨RX16, TX16, 40, rfl, zk_i16, by decide, zk_b13 99 (by decide +kernel) rfl⟩
theorem zt_16_19 : zm_T zk_E RX16 16 19 .int false := ⟨RX16, TX16, 40, tyX16, rfl, tyX16_ok, nmX16, rfl, rfl, rfl⟩
theorem zl_X16_177 : zm_F zk_E RX16 177 16 20 := ⟨RX16, TX16, 40, rfl, zk_i16, by decide, zk_b13 100 (by decide +kernel) rfl⟩
theorem zt_16_20 : zm_T zk_E RX16 16 20 .int false := ⟨RX16, TX16, 40, tyX16, rfl, tyX16_ok, nmX16, rfl, rfl, rfl⟩
theorem zl_X16_180 : zm_F zk_E RX16 180 16 24 := ⟨RX16, TX16, 40, rfl, zk_i16, by decide, zk_b13 104 (by decide +kernel) rfl⟩
theorem zt_16_24 : zm_T zk_E RX16 16 24 .int false := ⟨RX16, TX16, 40, tyX16, rfl, tyX16_ok, nmX16, rfl, rfl, rfl⟩
theorem zl_X16_183 : zm_F zk_E RX16 183 16 9 := ⟨RX16, TX16, 40, rfl, zk_i16, by decide, zk_b13 86 (by decide +kernel) rfl⟩
theorem zl_X16_186 : zm_F zk_E RX16 186 16 18 := ⟨RX16, TX16, 40, rfl, zk_i16, by decide, zk_b13 98 (by decide +kernel) rfl⟩
theorem zt_16_18 : zm_T zk_E RX16 16 18 .boolean false := ⟨RX16, TX16, 40, tyX16, rfl, tyX16_ok, nmX16, rfl, rfl, rfl⟩
theorem zl_X16_214 : zm_L zk_E RX16 214 yX16_shared (.code yX16_shared cX16_shared 6 (some .int)) 4 ∧ Cond.static yX16_shared ∈ zk_E.2.2.1 := ⟨⟨zk_b17 123 (by decide +kernel) rfl, zk_b1 14 (by decide +kernel) rfl, zk_b17 121 (by decide +kernel) rfl, by decide +kernel, by decide +kernel, by decide +kernel⟩, zk_b17 122 (by decide +kernel) rfl⟩
theorem zl_X16_218 : zm_L zk_E RX16 218 yX16_common (.code yX16_common cX16_common 9 (some .int)) 2 ∧ Cond.instanceMethod yX16_common ∈ zk_E.2.2.1 ∧ Cond.selects yX16_common.cls yX16_common yX16_common ∈ zk_E.2.2.1 := ⟨⟨zk_b17 120 (by decide +kernel) rfl, zk_b1 14 (by decide +kernel) rfl, zk_b17 117 (by decide +kernel) rfl, by decide +kernel, by decide +kernel, by decide +kernel⟩, zk_b17 119 (by decide +kernel) rfl, zk_s12 (q := (yX16_common, 40)) 14 (by decide +kernel)⟩
theorem zl_X16_189 : zm_F zk_E RX16 189 16 11 := ⟨RX16, TX16, 40, rfl, zk_i16, by decide, zk_b13 90 (by decide +kernel) rfl⟩
theorem zt_16_11 : zm_T zk_E RX16 16 11 .int false := ⟨RX16, TX16, 40, tyX16, rfl, tyX16_ok, nmX16, rfl, rfl, rfl⟩
theorem zl_X16_192 : zm_L zk_E RX16 192 yX16_turn (.code yX16_turn cX16_turn 2 none) 0 ∧ Cond.instanceMethod yX16_turn ∈ zk_E.2.2.1 ∧ Cond.selects yX16_turn.cls yX16_turn yX16_turn ∈ zk_E.2.2.1 := ⟨⟨zk_b17 46 (by decide +kernel) rfl, zk_b1 14 (by decide +kernel) rfl, zk_b17 43 (by decide +kernel) rfl, by decide +kernel, by decide +kernel, by decide +kernel⟩, zk_b17 45 (by decide +kernel) rfl, zk_s11 (q := (yX16_turn, 40)) 13 (by decide +kernel)⟩
theorem zt_16_12 : zm_T zk_E RX16 16 12 .int false := ⟨RX16, TX16, 40, tyX16, rfl, tyX16_ok, nmX16, rfl, rfl, rfl⟩
theorem zt_16_13 : zm_T zk_E RX16 16 13 .int false := ⟨RX16, TX16, 40, tyX16, rfl, tyX16_ok, nmX16, rfl, rfl, rfl⟩
theorem zl_X16_195 : zm_L zk_E RX16 195 yX16_insert (.code yX16_insert cX16_insert 5 (some .int)) 3 ∧ Cond.static yX16_insert ∈ zk_E.2.2.1 := ⟨⟨zk_b17 49 (by decide +kernel) rfl, zk_b1 14 (by decide +kernel) rfl, zk_b17 47 (by decide +kernel) rfl, by decide +kernel, by decide +kernel, by decide +kernel⟩, zk_b17 48 (by decide +kernel) rfl⟩
theorem zl_X16_199 : zm_L zk_E RX16 199 yX16_fill (.code yX16_fill cX16_fill 5 none) 0 ∧ Cond.instanceMethod yX16_fill ∈ zk_E.2.2.1 ∧ Cond.selects yX16_fill.cls yX16_fill yX16_fill ∈ zk_E.2.2.1 := ⟨⟨zk_b17 53 (by decide +kernel) rfl, zk_b1 14 (by decide +kernel) rfl, zk_b17 50 (by decide +kernel) rfl, by decide +kernel, by decide +kernel, by decide +kernel⟩, zk_b17 52 (by decide +kernel) rfl, zk_s11 (q := (yX16_fill, 40)) 14 (by decide +kernel)⟩
theorem zl_X16_202 : zm_L zk_E RX16 202 yX16_findPoints (.code yX16_findPoints cX16_findPoints 4 none) 0 ∧ Cond.instanceMethod yX16_findPoints ∈ zk_E.2.2.1 ∧ Cond.selects yX16_findPoints.cls yX16_findPoints yX16_findPoints ∈ zk_E.2.2.1 := ⟨⟨zk_b17 65 (by decide +kernel) rfl, zk_b1 14 (by decide +kernel) rfl, zk_b17 62 (by decide +kernel) rfl, by decide +kernel, by decide +kernel, by decide +kernel⟩, zk_b17 64 (by decide +kernel) rfl, zk_s12 (q := (yX16_findPoints, 40)) 1 (by decide +kernel)⟩
theorem zl_X16_205 : zm_L zk_E RX16 205 yX16_findRings (.code yX16_findRings cX16_findRings 4 none) 0 ∧ Cond.instanceMethod yX16_findRings ∈ zk_E.2.2.1 ∧ Cond.selects yX16_findRings.cls yX16_findRings yX16_findRings ∈ zk_E.2.2.1 := ⟨⟨zk_b17 81 (by decide +kernel) rfl, zk_b1 14 (by decide +kernel) rfl, zk_b17 78 (by decide +kernel) rfl, by decide +kernel, by decide +kernel, by decide +kernel⟩, zk_b17 80 (by decide +kernel) rfl, zk_s12 (q := (yX16_findRings, 40)) 5 (by decide +kernel)⟩
theorem zl_X16_208 : zm_L zk_E RX16 208 yX16_number (.code yX16_number cX16_number 4 none) 0 ∧ Cond.instanceMethod yX16_number ∈ zk_E.2.2.1 ∧ Cond.selects yX16_number.cls yX16_number yX16_number ∈ zk_E.2.2.1 := ⟨⟨zk_b17 105 (by decide +kernel) rfl, zk_b1 14 (by decide +kernel) rfl, zk_b17 102 (by decide +kernel) rfl, by decide +kernel, by decide +kernel, by decide +kernel⟩, zk_b17 104 (by decide +kernel) rfl, zk_s12 (q := (yX16_number, 40)) 11 (by decide +kernel)⟩
theorem zt_16_9 : zm_T zk_E RX16 16 9 .boolean false := ⟨RX16, TX16, 40, tyX16, rfl, tyX16_ok, nmX16, rfl, rfl, rfl⟩
theorem zl_X16_211 : zm_L zk_E RX16 211 yX16_carry (.code yX16_carry cX16_carry 6 none) 0 ∧ Cond.instanceMethod yX16_carry ∈ zk_E.2.2.1 ∧ Cond.selects yX16_carry.cls yX16_carry yX16_carry ∈ zk_E.2.2.1 := ⟨⟨zk_b17 116 (by decide +kernel) rfl, zk_b1 14 (by decide +kernel) rfl, zk_b17 113 (by decide +kernel) rfl, by decide +kernel, by decide +kernel, by decide +kernel⟩, zk_b17 115 (by decide +kernel) rfl, zk_s12 (q := (yX16_carry, 40)) 13 (by decide +kernel)⟩
theorem zl_X16_221 : zm_L zk_E RX16 221 yX16_isSpace (.code yX16_isSpace cX16_isSpace 2 (some .boolean)) 1 ∧ Cond.instanceMethod yX16_isSpace ∈ zk_E.2.2.1 ∧ Cond.selects yX16_isSpace.cls yX16_isSpace yX16_isSpace ∈ zk_E.2.2.1 := ⟨⟨zk_b17 139 (by decide +kernel) rfl, zk_b1 14 (by decide +kernel) rfl, zk_b17 148 (by decide +kernel) rfl, by decide +kernel, by decide +kernel, by decide +kernel⟩, zk_b17 137 (by decide +kernel) rfl, zk_b17 138 (by decide +kernel) rfl⟩
theorem zl_X16_224 : zm_L zk_E RX16 224 yX16_ringOf (.code yX16_ringOf cX16_ringOf 5 (some .int)) 2 ∧ Cond.instanceMethod yX16_ringOf ∈ zk_E.2.2.1 ∧ Cond.selects yX16_ringOf.cls yX16_ringOf yX16_ringOf ∈ zk_E.2.2.1 := ⟨⟨zk_b17 147 (by decide +kernel) rfl, zk_b1 14 (by decide +kernel) rfl, zk_b17 144 (by decide +kernel) rfl, by decide +kernel, by decide +kernel, by decide +kernel⟩, zk_b17 146 (by decide +kernel) rfl, zk_s12 (q := (yX16_ringOf, 40)) 15 (by decide +kernel)⟩
theorem zl_X16_227 : zm_L zk_E RX16 227 yX16_right (.code yX16_right cX16_right 2 (some .int)) 1 ∧ Cond.instanceMethod yX16_right ∈ zk_E.2.2.1 ∧ Cond.selects yX16_right.cls yX16_right yX16_right ∈ zk_E.2.2.1 := ⟨⟨zk_b17 160 (by decide +kernel) rfl, zk_b1 14 (by decide +kernel) rfl, zk_b17 157 (by decide +kernel) rfl, by decide +kernel, by decide +kernel, by decide +kernel⟩, zk_b17 159 (by decide +kernel) rfl, zk_s13 (q := (yX16_right, 40)) 0 (by decide +kernel)⟩
theorem zl_X16_230 : zm_L zk_E RX16 230 yX16_sideLength (.code yX16_sideLength cX16_sideLength 4 (some .int)) 1 ∧ Cond.instanceMethod yX16_sideLength ∈ zk_E.2.2.1 ∧ Cond.selects yX16_sideLength.cls yX16_sideLength yX16_sideLength ∈ zk_E.2.2.1 := ⟨⟨zk_b17 172 (by decide +kernel) rfl, zk_b1 14 (by decide +kernel) rfl, zk_b17 169 (by decide +kernel) rfl, by decide +kernel, by decide +kernel, by decide +kernel⟩, zk_b17 171 (by decide +kernel) rfl, zk_s13 (q := (yX16_sideLength, 40)) 1 (by decide +kernel)⟩
theorem zl_X16_233 : zm_L zk_E RX16 233 yX16_ringsOf (.code yX16_ringsOf cX16_ringsOf 4 (some .int)) 1 ∧ Cond.instanceMethod yX16_ringsOf ∈ zk_E.2.2.1 ∧ Cond.selects yX16_ringsOf.cls yX16_ringsOf yX16_ringsOf ∈ zk_E.2.2.1 := ⟨⟨zk_b17 176 (by decide +kernel) rfl, zk_b1 14 (by decide +kernel) rfl, zk_b17 173 (by decide +kernel) rfl, by decide +kernel, by decide +kernel, by decide +kernel⟩, zk_b17 175 (by decide +kernel) rfl, zk_s13 (q := (yX16_ringsOf, 40)) 2 (by decide +kernel)⟩
set_option maxHeartbeats 4000000 in
set_option maxRecDepth 100000 in
theorem zt_X16_sideFrom {l : Launch} {V : zm_V} {N : Nat} {S : zm_S} {out : (Int32 × zm_S)} {d : Nat} {a0 : Nat} {i1 : Int32} (hd : 1 ≤ d) (h : zf_X16_sideFrom N a0 i1 S = some out) : zm_Met l zk_E V yX16_sideFrom (.code yX16_sideFrom cX16_sideFrom 2 (some .int)) d [.ref a0, .int i1] S 0 0 (zo_i out) zo_x := by
  refine zm_of (by decide +kernel) (Nat.le_of_ble_eq_true rfl) ?_
  intro p e R s m args below meth c hRR hX hr hxt
  have hR : R.frames = d ∧ R.locals = 64 * d := by rw [hRR]; exact ⟨rfl, rfl⟩
  have hX : zm_X p R s m args meth c RX16 "sideFrom" cX16_sideFrom 2 zk_E V 0 0 := hX
  unfold zf_X16_sideFrom at h
  refine zw_sub (lv' := [(0, .ref a0), (1, .int i1)]) (List.forall_mem_cons.mpr ⟨rfl, (List.forall_mem_cons.mpr ⟨rfl, zs_nil⟩)⟩) ?_
  refine zw_iload_n hX dX16_sideFrom_0 rfl ?_
  refine zw_iconst (v := (2 : Int32)) hX dX16_sideFrom_1 (by decide) ?_
  refine zw_irem hX dX16_sideFrom_2 (by decide) ?_
  refine zw_if_ne (tgt := 17) hX dX16_sideFrom_3 (by decide) (fun c3 => ?_) (fun c3 => ?_)
  · rw [if_neg c3] at h
    refine zw_aload_n hX dX16_sideFrom_17 rfl ?_
    obtain ⟨b1, g, h⟩ := zb_some h
    refine zw_getr hX zl_X16_71 dX16_sideFrom_18 g ?_
    refine zw_iload_n hX dX16_sideFrom_21 rfl ?_
    refine zw_iconst (v := (2 : Int32)) hX dX16_sideFrom_22 (by decide) ?_
    refine zw_idiv hX dX16_sideFrom_23 (by decide) ?_
    obtain ⟨v2, g, h⟩ := zb_some h
    refine zw_xi hX dX16_sideFrom_24 g ?_
    obtain rfl := Option.some.inj h
    exact zw_iret hX hr dX16_sideFrom_25 rfl ⟨rfl, rfl⟩
  · rw [if_pos c3] at h
    refine zw_aload_n hX dX16_sideFrom_6 rfl ?_
    obtain ⟨b3, g, h⟩ := zb_some h
    refine zw_getr hX zl_X16_68 dX16_sideFrom_7 g ?_
    refine zw_iload_n hX dX16_sideFrom_10 rfl ?_
    refine zw_iconst (v := (2 : Int32)) hX dX16_sideFrom_11 (by decide) ?_
    refine zw_idiv hX dX16_sideFrom_12 (by decide) ?_
    obtain ⟨v4, g, h⟩ := zb_some h
    refine zw_xi hX dX16_sideFrom_13 g ?_
    refine zw_goto (tgt := 25) hX dX16_sideFrom_14 (by decide) ?_
    obtain rfl := Option.some.inj h
    exact zw_iret hX hr dX16_sideFrom_25 rfl ⟨rfl, rfl⟩
set_option maxHeartbeats 4000000 in
set_option maxRecDepth 100000 in
theorem zt_X16_sideTo {l : Launch} {V : zm_V} {N : Nat} {S : zm_S} {out : (Int32 × zm_S)} {d : Nat} {a0 : Nat} {i1 : Int32} (hd : 1 ≤ d) (h : zf_X16_sideTo N a0 i1 S = some out) : zm_Met l zk_E V yX16_sideTo (.code yX16_sideTo cX16_sideTo 2 (some .int)) d [.ref a0, .int i1] S 0 0 (zo_i out) zo_x := by
  refine zm_of (by decide +kernel) (Nat.le_of_ble_eq_true rfl) ?_
  intro p e R s m args below meth c hRR hX hr hxt
  have hR : R.frames = d ∧ R.locals = 64 * d := by rw [hRR]; exact ⟨rfl, rfl⟩
  have hX : zm_X p R s m args meth c RX16 "sideTo" cX16_sideTo 2 zk_E V 0 0 := hX
  unfold zf_X16_sideTo at h
  refine zw_sub (lv' := [(0, .ref a0), (1, .int i1)]) (List.forall_mem_cons.mpr ⟨rfl, (List.forall_mem_cons.mpr ⟨rfl, zs_nil⟩)⟩) ?_
  refine zw_iload_n hX dX16_sideTo_0 rfl ?_
  refine zw_iconst (v := (2 : Int32)) hX dX16_sideTo_1 (by decide) ?_
  refine zw_irem hX dX16_sideTo_2 (by decide) ?_
  refine zw_if_ne (tgt := 17) hX dX16_sideTo_3 (by decide) (fun c3 => ?_) (fun c3 => ?_)
  · rw [if_neg c3] at h
    refine zw_aload_n hX dX16_sideTo_17 rfl ?_
    obtain ⟨b1, g, h⟩ := zb_some h
    refine zw_getr hX zl_X16_68 dX16_sideTo_18 g ?_
    refine zw_iload_n hX dX16_sideTo_21 rfl ?_
    refine zw_iconst (v := (2 : Int32)) hX dX16_sideTo_22 (by decide) ?_
    refine zw_idiv hX dX16_sideTo_23 (by decide) ?_
    obtain ⟨v2, g, h⟩ := zb_some h
    refine zw_xi hX dX16_sideTo_24 g ?_
    obtain rfl := Option.some.inj h
    exact zw_iret hX hr dX16_sideTo_25 rfl ⟨rfl, rfl⟩
  · rw [if_pos c3] at h
    refine zw_aload_n hX dX16_sideTo_6 rfl ?_
    obtain ⟨b3, g, h⟩ := zb_some h
    refine zw_getr hX zl_X16_71 dX16_sideTo_7 g ?_
    refine zw_iload_n hX dX16_sideTo_10 rfl ?_
    refine zw_iconst (v := (2 : Int32)) hX dX16_sideTo_11 (by decide) ?_
    refine zw_idiv hX dX16_sideTo_12 (by decide) ?_
    obtain ⟨v4, g, h⟩ := zb_some h
    refine zw_xi hX dX16_sideTo_13 g ?_
    refine zw_goto (tgt := 25) hX dX16_sideTo_14 (by decide) ?_
    obtain rfl := Option.some.inj h
    exact zw_iret hX hr dX16_sideTo_25 rfl ⟨rfl, rfl⟩
set_option maxHeartbeats 4000000 in
set_option maxRecDepth 100000 in
theorem zt_X16_sideWay_J21 {p : Program} {l : Launch} {e : Env} {R : Room} {s : State} {m : MethodId} {args : Array Value} {below : List Frame} {meth : Method} {c : Code} {V : zm_V} {mc ms d rc rs : Nat} (hX : zm_X p R s m args meth c RX16 "sideWay" cX16_sideWay 2 zk_E V mc ms) (hr : meth.sig.returnType = (some .int)) (hR : R.frames = d ∧ R.locals = 64 * d) (hd : 1 ≤ d) {N : Nat} {i1 : Int32} {t0 : Int32} {out : (Int32 × zm_S)} {S : zm_S} (h : zf_X16_sideWay_J21 N i1 t0 S = some out) : zw p l e R s m args below meth c (vx_MQ below (zm_Qc zk_E V (zo_i out)) (zm_XC zk_E V zo_x) args s mc ms (fun q => V.2.2.2.1 ≤ q)) 2 zk_E V mc ms 21 [(1, .int i1)] [.int t0] S rc rs := by
  unfold zf_X16_sideWay_J21 at h
  refine zw_iconst (v := (2 : Int32)) hX dX16_sideWay_21 (by decide) ?_
  refine zw_iload_n hX dX16_sideWay_22 rfl ?_
  refine zw_iconst (v := (2 : Int32)) hX dX16_sideWay_23 (by decide) ?_
  refine zw_irem hX dX16_sideWay_24 (by decide) ?_
  refine zw_imul hX dX16_sideWay_25 ?_
  refine zw_iadd hX dX16_sideWay_26 ?_
  obtain rfl := Option.some.inj h
  exact zw_iret hX hr dX16_sideWay_27 rfl ⟨rfl, rfl⟩
set_option maxHeartbeats 4000000 in
set_option maxRecDepth 100000 in
theorem zt_X16_sideWay {l : Launch} {V : zm_V} {N : Nat} {S : zm_S} {out : (Int32 × zm_S)} {d : Nat} {a0 : Nat} {i1 : Int32} (hd : 1 ≤ d) (h : zf_X16_sideWay N a0 i1 S = some out) : zm_Met l zk_E V yX16_sideWay (.code yX16_sideWay cX16_sideWay 2 (some .int)) d [.ref a0, .int i1] S 0 0 (zo_i out) zo_x := by
  refine zm_of (by decide +kernel) (Nat.le_of_ble_eq_true rfl) ?_
  intro p e R s m args below meth c hRR hX hr hxt
  have hR : R.frames = d ∧ R.locals = 64 * d := by rw [hRR]; exact ⟨rfl, rfl⟩
  have hX : zm_X p R s m args meth c RX16 "sideWay" cX16_sideWay 2 zk_E V 0 0 := hX
  unfold zf_X16_sideWay at h
  refine zw_sub (lv' := [(0, .ref a0), (1, .int i1)]) (List.forall_mem_cons.mpr ⟨rfl, (List.forall_mem_cons.mpr ⟨rfl, zs_nil⟩)⟩) ?_
  refine zw_aload_n hX dX16_sideWay_0 rfl ?_
  obtain ⟨b1, g, h⟩ := zb_some h
  refine zw_getr hX zl_X16_16 dX16_sideWay_1 g ?_
  refine zw_aload_n hX dX16_sideWay_4 rfl ?_
  obtain ⟨b2, g, h⟩ := zb_some h
  refine zw_getr hX zl_X16_65 dX16_sideWay_5 g ?_
  refine zw_iload_n hX dX16_sideWay_8 rfl ?_
  refine zw_iconst (v := (2 : Int32)) hX dX16_sideWay_9 (by decide) ?_
  refine zw_idiv hX dX16_sideWay_10 (by decide) ?_
  obtain ⟨v3, g, h⟩ := zb_some h
  refine zw_xi hX dX16_sideWay_11 g ?_
  obtain ⟨v4, g, h⟩ := zb_some h
  refine zw_xz hX dX16_sideWay_12 g ?_
  refine zw_if_eq (tgt := 20) hX dX16_sideWay_13 (by decide) (fun c13 => ?_) (fun c13 => ?_)
  · rw [if_pos c13] at h
    refine zw_iconst (v := (1 : Int32)) hX dX16_sideWay_20 (by decide) ?_
    refine zw_sub (lv' := [(1, .int i1)]) (List.forall_mem_cons.mpr ⟨rfl, zs_nil⟩) ?_
    exact zt_X16_sideWay_J21 hX hr hR hd h
  · rw [if_neg c13] at h
    refine zw_iconst (v := (0 : Int32)) hX dX16_sideWay_16 (by decide) ?_
    refine zw_goto (tgt := 21) hX dX16_sideWay_17 (by decide) ?_
    refine zw_sub (lv' := [(1, .int i1)]) (List.forall_mem_cons.mpr ⟨rfl, zs_nil⟩) ?_
    exact zt_X16_sideWay_J21 hX hr hR hd h
set_option maxHeartbeats 4000000 in
set_option maxRecDepth 100000 in
theorem zt_X16_sideLength {l : Launch} {V : zm_V} {N : Nat} {S : zm_S} {out : (Int32 × zm_S)} {d : Nat} {a0 : Nat} {i1 : Int32} (hd : 1 ≤ d) (h : zf_X16_sideLength N a0 i1 S = some out) : zm_Met l zk_E V yX16_sideLength (.code yX16_sideLength cX16_sideLength 4 (some .int)) d [.ref a0, .int i1] S 0 0 (zo_i out) zo_x := by
  refine zm_of (by decide +kernel) (Nat.le_of_ble_eq_true rfl) ?_
  intro p e R s m args below meth c hRR hX hr hxt
  have hR : R.frames = d ∧ R.locals = 64 * d := by rw [hRR]; exact ⟨rfl, rfl⟩
  have hX : zm_X p R s m args meth c RX16 "sideLength" cX16_sideLength 4 zk_E V 0 0 := hX
  unfold zf_X16_sideLength at h
  refine zw_sub (lv' := [(0, .ref a0), (1, .int i1)]) (List.forall_mem_cons.mpr ⟨rfl, (List.forall_mem_cons.mpr ⟨rfl, zs_nil⟩)⟩) ?_
  refine zw_aload_n hX dX16_sideLength_0 rfl ?_
  obtain ⟨b1, g, h⟩ := zb_some h
  refine zw_getr hX zl_X16_68 dX16_sideLength_1 g ?_
  refine zw_iload_n hX dX16_sideLength_4 rfl ?_
  refine zw_iconst (v := (2 : Int32)) hX dX16_sideLength_5 (by decide) ?_
  refine zw_idiv hX dX16_sideLength_6 (by decide) ?_
  obtain ⟨v2, g, h⟩ := zb_some h
  refine zw_xi hX dX16_sideLength_7 g ?_
  refine zw_istore_n hX dX16_sideLength_8 (by decide) ?_
  refine zw_aload_n hX dX16_sideLength_9 rfl ?_
  obtain ⟨b3, g, h⟩ := zb_some h
  refine zw_getr hX zl_X16_71 dX16_sideLength_10 g ?_
  refine zw_iload_n hX dX16_sideLength_13 rfl ?_
  refine zw_iconst (v := (2 : Int32)) hX dX16_sideLength_14 (by decide) ?_
  refine zw_idiv hX dX16_sideLength_15 (by decide) ?_
  obtain ⟨v4, g, h⟩ := zb_some h
  refine zw_xi hX dX16_sideLength_16 g ?_
  refine zw_istore_n hX dX16_sideLength_17 (by decide) ?_
  refine zw_aload_n hX dX16_sideLength_18 rfl ?_
  obtain ⟨b5, g, h⟩ := zb_some h
  refine zw_getr hX zl_X16_59 dX16_sideLength_19 g ?_
  refine zw_iload_n hX dX16_sideLength_22 rfl ?_
  obtain ⟨v6, g, h⟩ := zb_some h
  refine zw_xi hX dX16_sideLength_23 g ?_
  refine zw_aload_n hX dX16_sideLength_24 rfl ?_
  obtain ⟨b7, g, h⟩ := zb_some h
  refine zw_getr hX zl_X16_59 dX16_sideLength_25 g ?_
  refine zw_iload_n hX dX16_sideLength_28 rfl ?_
  obtain ⟨v8, g, h⟩ := zb_some h
  refine zw_xi hX dX16_sideLength_29 g ?_
  refine zw_isub hX dX16_sideLength_30 ?_
  refine zw_aload_n hX dX16_sideLength_31 rfl ?_
  obtain ⟨b9, g, h⟩ := zb_some h
  refine zw_getr hX zl_X16_62 dX16_sideLength_32 g ?_
  refine zw_iload_n hX dX16_sideLength_35 rfl ?_
  obtain ⟨v10, g, h⟩ := zb_some h
  refine zw_xi hX dX16_sideLength_36 g ?_
  refine zw_iadd hX dX16_sideLength_37 ?_
  refine zw_aload_n hX dX16_sideLength_38 rfl ?_
  obtain ⟨b11, g, h⟩ := zb_some h
  refine zw_getr hX zl_X16_62 dX16_sideLength_39 g ?_
  refine zw_iload_n hX dX16_sideLength_42 rfl ?_
  obtain ⟨v12, g, h⟩ := zb_some h
  refine zw_xi hX dX16_sideLength_43 g ?_
  refine zw_isub hX dX16_sideLength_44 ?_
  obtain rfl := Option.some.inj h
  exact zw_iret hX hr dX16_sideLength_45 rfl ⟨rfl, rfl⟩
set_option maxHeartbeats 4000000 in
set_option maxRecDepth 100000 in
theorem zt_X16_left {l : Launch} {V : zm_V} {N : Nat} {S : zm_S} {out : (Int32 × zm_S)} {d : Nat} {a0 : Nat} {i1 : Int32} (hd : 2 ≤ d) (h : zf_X16_left N a0 i1 S = some out) : zm_Met l zk_E V yX16_left (.code yX16_left cX16_left 5 (some .int)) d [.ref a0, .int i1] S 0 0 (zo_i out) zo_x := by
  refine zm_of (by decide +kernel) (Nat.le_of_ble_eq_true rfl) ?_
  intro p e R s m args below meth c hRR hX hr hxt
  have hR : R.frames = d ∧ R.locals = 64 * d := by rw [hRR]; exact ⟨rfl, rfl⟩
  have hX : zm_X p R s m args meth c RX16 "left" cX16_left 5 zk_E V 0 0 := hX
  unfold zf_X16_left at h
  refine zw_sub (lv' := [(0, .ref a0), (1, .int i1)]) (List.forall_mem_cons.mpr ⟨rfl, (List.forall_mem_cons.mpr ⟨rfl, zs_nil⟩)⟩) ?_
  refine zw_aload_n hX dX16_left_0 rfl ?_
  obtain ⟨b1, g, h⟩ := zb_some h
  refine zw_getr hX zl_X16_68 dX16_left_1 g ?_
  refine zw_iload_n hX dX16_left_4 rfl ?_
  refine zw_iconst (v := (2 : Int32)) hX dX16_left_5 (by decide) ?_
  refine zw_idiv hX dX16_left_6 (by decide) ?_
  obtain ⟨v2, g, h⟩ := zb_some h
  refine zw_xi hX dX16_left_7 g ?_
  refine zw_istore_n hX dX16_left_8 (by decide) ?_
  refine zw_aload_n hX dX16_left_9 rfl ?_
  obtain ⟨b3, g, h⟩ := zb_some h
  refine zw_getr hX zl_X16_35 dX16_left_10 g ?_
  refine zw_aload_n hX dX16_left_13 rfl ?_
  obtain ⟨b4, g, h⟩ := zb_some h
  refine zw_getr hX zl_X16_59 dX16_left_14 g ?_
  refine zw_iload_n hX dX16_left_17 rfl ?_
  obtain ⟨v5, g, h⟩ := zb_some h
  refine zw_xi hX dX16_left_18 g ?_
  obtain ⟨r7, g, h⟩ := zb_some h
  refine zc_Si (as := [.ref b3, .int v5]) hX (zt_X16_indexOf (d := d - 1) (by omega) g) zl_X16_146 dX16_left_19 ⟨rfl, rfl, Nat.le_of_ble_eq_true rfl⟩ ⟨by omega, by omega⟩ ?_
  refine zw_istore_n hX dX16_left_22 (by decide) ?_
  refine zw_aload_n hX dX16_left_23 rfl ?_
  obtain ⟨b8, g, h⟩ := zb_some h
  refine zw_getr hX zl_X16_38 dX16_left_24 g ?_
  refine zw_aload_n hX dX16_left_27 rfl ?_
  obtain ⟨b9, g, h⟩ := zb_some h
  refine zw_getr hX zl_X16_62 dX16_left_28 g ?_
  refine zw_iload_n hX dX16_left_31 rfl ?_
  obtain ⟨v10, g, h⟩ := zb_some h
  refine zw_xi hX dX16_left_32 g ?_
  obtain ⟨r12, g, h⟩ := zb_some h
  refine zc_Si (as := [.ref b8, .int v10]) hX (zt_X16_indexOf (d := d - 1) (by omega) g) zl_X16_146 dX16_left_33 ⟨rfl, rfl, Nat.le_of_ble_eq_true rfl⟩ ⟨by omega, by omega⟩ ?_
  refine zw_istore hX dX16_left_36 (by decide) ?_
  refine zw_aload_n hX dX16_left_38 rfl ?_
  refine zw_iload_n hX dX16_left_39 rfl ?_
  obtain ⟨_, gi, h⟩ := zb_some h
  obtain ⟨r14, g, h⟩ := zb_some h
  refine zc_Vi (as := [.int i1]) hX gi (zt_X16_sideWay (d := d - 1) (by omega) g) zl_X16_150 rfl dX16_left_40 ⟨rfl, rfl, Nat.le_of_ble_eq_true rfl⟩ ⟨by omega, by omega⟩ ?_
  by_cases c43_0 : (r14.1).toInt = 0
  · rw [if_pos c43_0] at h
    refine zw_tableIn (off := 25) (tgt := 68) hX dX16_left_43 (by rw [c43_0]; decide) (by rw [c43_0]; decide) (by rw [c43_0]; decide) (by decide) ?_
    refine zw_aload_n hX dX16_left_68 rfl ?_
    obtain ⟨b17, g, h⟩ := zb_some h
    refine zw_getr hX zl_X16_41 dX16_left_69 g ?_
    refine zw_bipush (v := (42 : Int32)) hX dX16_left_72 (by decide) ?_
    refine zw_iload hX dX16_left_74 rfl ?_
    refine zw_iconst (v := (1 : Int32)) hX dX16_left_76 (by decide) ?_
    refine zw_iadd hX dX16_left_77 ?_
    refine zw_imul hX dX16_left_78 ?_
    refine zw_iload_n hX dX16_left_79 rfl ?_
    refine zw_iadd hX dX16_left_80 ?_
    refine zw_iconst (v := (1 : Int32)) hX dX16_left_81 (by decide) ?_
    refine zw_iadd hX dX16_left_82 ?_
    obtain ⟨v18, g, h⟩ := zb_some h
    refine zw_xi hX dX16_left_83 g ?_
    obtain rfl := Option.some.inj h
    exact zw_iret hX hr dX16_left_84 rfl ⟨rfl, rfl⟩
  rw [if_neg c43_0] at h
  by_cases c43_1 : (r14.1).toInt = 1
  · rw [if_pos c43_1] at h
    refine zw_tableIn (off := 57) (tgt := 100) hX dX16_left_43 (by rw [c43_1]; decide) (by rw [c43_1]; decide) (by rw [c43_1]; decide) (by decide) ?_
    refine zw_aload_n hX dX16_left_100 rfl ?_
    obtain ⟨b19, g, h⟩ := zb_some h
    refine zw_getr hX zl_X16_41 dX16_left_101 g ?_
    refine zw_bipush (v := (42 : Int32)) hX dX16_left_104 (by decide) ?_
    refine zw_iload hX dX16_left_106 rfl ?_
    refine zw_iconst (v := (1 : Int32)) hX dX16_left_108 (by decide) ?_
    refine zw_iadd hX dX16_left_109 ?_
    refine zw_imul hX dX16_left_110 ?_
    refine zw_iload_n hX dX16_left_111 rfl ?_
    refine zw_iadd hX dX16_left_112 ?_
    obtain ⟨v20, g, h⟩ := zb_some h
    refine zw_xi hX dX16_left_113 g ?_
    obtain rfl := Option.some.inj h
    exact zw_iret hX hr dX16_left_114 rfl ⟨rfl, rfl⟩
  rw [if_neg c43_1] at h
  by_cases c43_2 : (r14.1).toInt = 2
  · rw [if_pos c43_2] at h
    refine zw_tableIn (off := 42) (tgt := 85) hX dX16_left_43 (by rw [c43_2]; decide) (by rw [c43_2]; decide) (by rw [c43_2]; decide) (by decide) ?_
    refine zw_aload_n hX dX16_left_85 rfl ?_
    obtain ⟨b21, g, h⟩ := zb_some h
    refine zw_getr hX zl_X16_41 dX16_left_86 g ?_
    refine zw_bipush (v := (42 : Int32)) hX dX16_left_89 (by decide) ?_
    refine zw_iload hX dX16_left_91 rfl ?_
    refine zw_imul hX dX16_left_93 ?_
    refine zw_iload_n hX dX16_left_94 rfl ?_
    refine zw_iadd hX dX16_left_95 ?_
    refine zw_iconst (v := (1 : Int32)) hX dX16_left_96 (by decide) ?_
    refine zw_iadd hX dX16_left_97 ?_
    obtain ⟨v22, g, h⟩ := zb_some h
    refine zw_xi hX dX16_left_98 g ?_
    obtain rfl := Option.some.inj h
    exact zw_iret hX hr dX16_left_99 rfl ⟨rfl, rfl⟩
  rw [if_neg c43_2] at h
  refine zw_tableOut (tgt := 115) hX dX16_left_43 (by omega) (by decide) ?_
  refine zw_aload_n hX dX16_left_115 rfl ?_
  obtain ⟨b15, g, h⟩ := zb_some h
  refine zw_getr hX zl_X16_41 dX16_left_116 g ?_
  refine zw_bipush (v := (42 : Int32)) hX dX16_left_119 (by decide) ?_
  refine zw_iload hX dX16_left_121 rfl ?_
  refine zw_iconst (v := (1 : Int32)) hX dX16_left_123 (by decide) ?_
  refine zw_iadd hX dX16_left_124 ?_
  refine zw_imul hX dX16_left_125 ?_
  refine zw_iload_n hX dX16_left_126 rfl ?_
  refine zw_iadd hX dX16_left_127 ?_
  refine zw_iconst (v := (1 : Int32)) hX dX16_left_128 (by decide) ?_
  refine zw_iadd hX dX16_left_129 ?_
  obtain ⟨v16, g, h⟩ := zb_some h
  refine zw_xi hX dX16_left_130 g ?_
  obtain rfl := Option.some.inj h
  exact zw_iret hX hr dX16_left_131 rfl ⟨rfl, rfl⟩
set_option maxHeartbeats 4000000 in
set_option maxRecDepth 100000 in
theorem zt_X16_right {l : Launch} {V : zm_V} {N : Nat} {S : zm_S} {out : (Int32 × zm_S)} {d : Nat} {a0 : Nat} {i1 : Int32} (hd : 3 ≤ d) (h : zf_X16_right N a0 i1 S = some out) : zm_Met l zk_E V yX16_right (.code yX16_right cX16_right 2 (some .int)) d [.ref a0, .int i1] S 0 0 (zo_i out) zo_x := by
  refine zm_of (by decide +kernel) (Nat.le_of_ble_eq_true rfl) ?_
  intro p e R s m args below meth c hRR hX hr hxt
  have hR : R.frames = d ∧ R.locals = 64 * d := by rw [hRR]; exact ⟨rfl, rfl⟩
  have hX : zm_X p R s m args meth c RX16 "right" cX16_right 2 zk_E V 0 0 := hX
  unfold zf_X16_right at h
  refine zw_sub (lv' := [(0, .ref a0), (1, .int i1)]) (List.forall_mem_cons.mpr ⟨rfl, (List.forall_mem_cons.mpr ⟨rfl, zs_nil⟩)⟩) ?_
  refine zw_aload_n hX dX16_right_0 rfl ?_
  refine zw_iload_n hX dX16_right_1 rfl ?_
  refine zw_iconst (v := (2 : Int32)) hX dX16_right_2 (by decide) ?_
  refine zw_irem hX dX16_right_3 (by decide) ?_
  refine zw_if_ne (tgt := 13) hX dX16_right_4 (by decide) (fun c4 => ?_) (fun c4 => ?_)
  · rw [if_neg c4] at h
    refine zw_iload_n hX dX16_right_13 rfl ?_
    refine zw_iconst (v := (1 : Int32)) hX dX16_right_14 (by decide) ?_
    refine zw_isub hX dX16_right_15 ?_
    obtain ⟨_, gi, h⟩ := zb_some h
    obtain ⟨r2, g, h⟩ := zb_some h
    refine zc_Vi (as := [.int (i1 - (1 : Int32))]) hX gi (zt_X16_left (d := d - 1) (by omega) g) zl_X16_153 rfl dX16_right_16 ⟨rfl, rfl, Nat.le_of_ble_eq_true rfl⟩ ⟨by omega, by omega⟩ ?_
    obtain rfl := Option.some.inj h
    exact zw_iret hX hr dX16_right_19 rfl ⟨rfl, rfl⟩
  · rw [if_pos c4] at h
    refine zw_iload_n hX dX16_right_7 rfl ?_
    refine zw_iconst (v := (1 : Int32)) hX dX16_right_8 (by decide) ?_
    refine zw_iadd hX dX16_right_9 ?_
    refine zw_goto (tgt := 16) hX dX16_right_10 (by decide) ?_
    obtain ⟨_, gi, h⟩ := zb_some h
    obtain ⟨r4, g, h⟩ := zb_some h
    refine zc_Vi (as := [.int (i1 + (1 : Int32))]) hX gi (zt_X16_left (d := d - 1) (by omega) g) zl_X16_153 rfl dX16_right_16 ⟨rfl, rfl, Nat.le_of_ble_eq_true rfl⟩ ⟨by omega, by omega⟩ ?_
    obtain rfl := Option.some.inj h
    exact zw_iret hX hr dX16_right_19 rfl ⟨rfl, rfl⟩
set_option maxHeartbeats 4000000 in
set_option maxRecDepth 100000 in
theorem zt_X16_leaving_J41 {p : Program} {l : Launch} {e : Env} {R : Room} {s : State} {m : MethodId} {args : Array Value} {below : List Frame} {meth : Method} {c : Code} {V : zm_V} {mc ms d rc rs : Nat} (hX : zm_X p R s m args meth c RX16 "leaving" cX16_leaving 5 zk_E V mc ms) (hr : meth.sig.returnType = (some .int)) (hR : R.frames = d ∧ R.locals = 64 * d) (hd : 2 ≤ d) {N : Nat} {k : Nat → Int32 → Int32 → Int32 → Int32 → zm_S → Option ((Int32 × zm_S) ⊕ ((Int32) × zm_S))} {a0 : Nat} {i1 : Int32} {i2 : Int32} {i3 : Int32} {i4 : Int32} {res : (Int32 × zm_S) ⊕ ((Int32) × zm_S)} {out : (Int32 × zm_S)}   (hf : ∀ o, res = .inl o → o = out) (hk : ∀ (x3 : Int32) (S' : zm_S), res = .inr (x3, S') → zw p l e R s m args below meth c (vx_MQ below (zm_Qc zk_E V (zo_i out)) (zm_XC zk_E V zo_x) args s mc ms (fun q => V.2.2.2.1 ≤ q)) 5 zk_E V mc ms 49 [(3, .int x3)] [] S' rc rs) (hrec : ∀ (i3' : Int32) (i4' : Int32) (S : zm_S), k a0 i1 i2 i3' i4' S = some res → zw p l e R s m args below meth c (vx_MQ below (zm_Qc zk_E V (zo_i out)) (zm_XC zk_E V zo_x) args s mc ms (fun q => V.2.2.2.1 ≤ q)) 5 zk_E V mc ms 5 [(0, .ref a0), (1, .int i1), (2, .int i2), (3, .int i3'), (4, .int i4')] [] S rc rs) {S : zm_S} (h : zf_X16_leaving_J41 N k a0 i1 i2 i3 i4 S = some res) : zw p l e R s m args below meth c (vx_MQ below (zm_Qc zk_E V (zo_i out)) (zm_XC zk_E V zo_x) args s mc ms (fun q => V.2.2.2.1 ≤ q)) 5 zk_E V mc ms 41 [(0, .ref a0), (1, .int i1), (2, .int i2), (3, .int i3), (4, .int i4)] [] S rc rs := by
  unfold zf_X16_leaving_J41 at h
  refine zw_iload_n hX dX16_leaving_41 rfl ?_
  refine zw_istore_n hX dX16_leaving_42 (by decide) ?_
  refine zw_iinc (v := (i4 + (1 : Int32))) hX dX16_leaving_43 rfl rfl (by decide) ?_
  refine zw_goto (tgt := 5) hX dX16_leaving_46 (by decide) ?_
  refine zw_sub (lv' := [(0, .ref a0), (1, .int i1), (2, .int i2), (3, .int i3), (4, .int (i4 + (1 : Int32)))]) (List.forall_mem_cons.mpr ⟨rfl, (List.forall_mem_cons.mpr ⟨rfl, (List.forall_mem_cons.mpr ⟨rfl, (List.forall_mem_cons.mpr ⟨rfl, (List.forall_mem_cons.mpr ⟨rfl, zs_nil⟩)⟩)⟩)⟩)⟩) ?_
  exact hrec _ _ _ h
set_option maxHeartbeats 4000000 in
set_option maxRecDepth 100000 in
theorem zt_X16_leaving_L5 {p : Program} {l : Launch} {e : Env} {R : Room} {s : State} {m : MethodId} {args : Array Value} {below : List Frame} {meth : Method} {c : Code} {V : zm_V} {mc ms d rc rs : Nat} (hX : zm_X p R s m args meth c RX16 "leaving" cX16_leaving 5 zk_E V mc ms) (hr : meth.sig.returnType = (some .int)) (hR : R.frames = d ∧ R.locals = 64 * d) (hd : 2 ≤ d) {N : Nat} {res : (Int32 × zm_S) ⊕ ((Int32) × zm_S)} {out : (Int32 × zm_S)} (a0 : Nat) (i1 : Int32) (i2 : Int32) (hf : ∀ o, res = .inl o → o = out) (hk : ∀ (x3 : Int32) (S' : zm_S), res = .inr (x3, S') → zw p l e R s m args below meth c (vx_MQ below (zm_Qc zk_E V (zo_i out)) (zm_XC zk_E V zo_x) args s mc ms (fun q => V.2.2.2.1 ≤ q)) 5 zk_E V mc ms 49 [(3, .int x3)] [] S' rc rs) : ∀ (n : Nat) (i3 : Int32) (i4 : Int32) (S : zm_S), zf_X16_leaving_L5 N n a0 i1 i2 i3 i4 S = some res → zw p l e R s m args below meth c (vx_MQ below (zm_Qc zk_E V (zo_i out)) (zm_XC zk_E V zo_x) args s mc ms (fun q => V.2.2.2.1 ≤ q)) 5 zk_E V mc ms 5 [(0, .ref a0), (1, .int i1), (2, .int i2), (3, .int i3), (4, .int i4)] [] S rc rs := by
  intro n
  induction n with
  | zero => intro i3 i4 S h; cases h
  | succ n ih =>
    intro i3 i4 S h
    rw [zf_X16_leaving_L5] at h
    refine zw_iload hX dX16_leaving_5 rfl ?_
    refine zw_iconst (v := (2 : Int32)) hX dX16_leaving_7 (by decide) ?_
    refine zw_aload_n hX dX16_leaving_8 rfl ?_
    obtain ⟨v1, g, h⟩ := zb_some h
    refine zw_geti hX zl_X16_143 dX16_leaving_9 g ?_
    refine zw_imul hX dX16_leaving_12 ?_
    refine zw_icmp_ge (tgt := 49) hX dX16_leaving_13 (by decide) (fun c13 => ?_) (fun c13 => ?_)
    · rw [if_pos c13] at h
      refine zw_sub (lv' := [(3, .int i3)]) (List.forall_mem_cons.mpr ⟨rfl, zs_nil⟩) ?_
      exact hk _ _ (Option.some.inj h).symm
    · rw [if_neg c13] at h
      refine zw_aload_n hX dX16_leaving_16 rfl ?_
      refine zw_iload hX dX16_leaving_17 rfl ?_
      obtain ⟨_, gi, h⟩ := zb_some h
      obtain ⟨r3, g, h⟩ := zb_some h
      refine zc_Vi (as := [.int i4]) hX gi (zt_X16_sideFrom (d := d - 1) (by omega) g) zl_X16_156 rfl dX16_leaving_19 ⟨rfl, rfl, Nat.le_of_ble_eq_true rfl⟩ ⟨by omega, by omega⟩ ?_
      refine zw_iload_n hX dX16_leaving_22 rfl ?_
      refine zw_icmp_ne (tgt := 41) hX dX16_leaving_23 (by decide) (fun c23 => ?_) (fun c23 => ?_)
      · rw [if_neg c23] at h
        refine zw_sub (lv' := [(0, .ref a0), (1, .int i1), (2, .int i2), (3, .int i3), (4, .int i4)]) (List.forall_mem_cons.mpr ⟨rfl, (List.forall_mem_cons.mpr ⟨rfl, (List.forall_mem_cons.mpr ⟨rfl, (List.forall_mem_cons.mpr ⟨rfl, (List.forall_mem_cons.mpr ⟨rfl, zs_nil⟩)⟩)⟩)⟩)⟩) ?_
        exact zt_X16_leaving_J41 hX hr hR hd hf hk ih h
      · rw [if_pos c23] at h
        refine zw_aload_n hX dX16_leaving_26 rfl ?_
        refine zw_iload hX dX16_leaving_27 rfl ?_
        obtain ⟨_, gi, h⟩ := zb_some h
        obtain ⟨r5, g, h⟩ := zb_some h
        refine zc_Vi (as := [.int i4]) hX gi (zt_X16_sideWay (d := d - 1) (by omega) g) zl_X16_150 rfl dX16_leaving_29 ⟨rfl, rfl, Nat.le_of_ble_eq_true rfl⟩ ⟨by omega, by omega⟩ ?_
        refine zw_iload_n hX dX16_leaving_32 rfl ?_
        refine zw_icmp_ne (tgt := 41) hX dX16_leaving_33 (by decide) (fun c33 => ?_) (fun c33 => ?_)
        · rw [if_neg c33] at h
          refine zw_sub (lv' := [(0, .ref a0), (1, .int i1), (2, .int i2), (3, .int i3), (4, .int i4)]) (List.forall_mem_cons.mpr ⟨rfl, (List.forall_mem_cons.mpr ⟨rfl, (List.forall_mem_cons.mpr ⟨rfl, (List.forall_mem_cons.mpr ⟨rfl, (List.forall_mem_cons.mpr ⟨rfl, zs_nil⟩)⟩)⟩)⟩)⟩) ?_
          exact zt_X16_leaving_J41 hX hr hR hd hf hk ih h
        · rw [if_pos c33] at h
          refine zw_iload hX dX16_leaving_36 rfl ?_
          refine zw_goto (tgt := 42) hX dX16_leaving_38 (by decide) ?_
          refine zw_istore_n hX dX16_leaving_42 (by decide) ?_
          refine zw_iinc (v := (i4 + (1 : Int32))) hX dX16_leaving_43 rfl rfl (by decide) ?_
          refine zw_goto (tgt := 5) hX dX16_leaving_46 (by decide) ?_
          refine zw_sub (lv' := [(0, .ref a0), (1, .int i1), (2, .int i2), (3, .int i4), (4, .int (i4 + (1 : Int32)))]) (List.forall_mem_cons.mpr ⟨rfl, (List.forall_mem_cons.mpr ⟨rfl, (List.forall_mem_cons.mpr ⟨rfl, (List.forall_mem_cons.mpr ⟨rfl, (List.forall_mem_cons.mpr ⟨rfl, zs_nil⟩)⟩)⟩)⟩)⟩) ?_
          exact ih _ _ _ h
set_option maxHeartbeats 4000000 in
set_option maxRecDepth 100000 in
theorem zt_X16_leaving {l : Launch} {V : zm_V} {N : Nat} {S : zm_S} {out : (Int32 × zm_S)} {d : Nat} {a0 : Nat} {i1 : Int32} {i2 : Int32} (hd : 2 ≤ d) (h : zf_X16_leaving N a0 i1 i2 S = some out) : zm_Met l zk_E V yX16_leaving (.code yX16_leaving cX16_leaving 5 (some .int)) d [.ref a0, .int i1, .int i2] S 0 0 (zo_i out) zo_x := by
  refine zm_of (by decide +kernel) (Nat.le_of_ble_eq_true rfl) ?_
  intro p e R s m args below meth c hRR hX hr hxt
  have hR : R.frames = d ∧ R.locals = 64 * d := by rw [hRR]; exact ⟨rfl, rfl⟩
  have hX : zm_X p R s m args meth c RX16 "leaving" cX16_leaving 5 zk_E V 0 0 := hX
  unfold zf_X16_leaving at h
  refine zw_sub (lv' := [(0, .ref a0), (1, .int i1), (2, .int i2)]) (List.forall_mem_cons.mpr ⟨rfl, (List.forall_mem_cons.mpr ⟨rfl, (List.forall_mem_cons.mpr ⟨rfl, zs_nil⟩)⟩)⟩) ?_
  refine zw_iconst (v := (-1 : Int32)) hX dX16_leaving_0 (by decide) ?_
  refine zw_istore_n hX dX16_leaving_1 (by decide) ?_
  refine zw_iconst (v := (0 : Int32)) hX dX16_leaving_2 (by decide) ?_
  refine zw_istore hX dX16_leaving_3 (by decide) ?_
  obtain ⟨r, g, h⟩ := zb_some h
  refine zw_sub (lv' := [(0, .ref a0), (1, .int i1), (2, .int i2), (3, .int (-1 : Int32)), (4, .int (0 : Int32))]) (List.forall_mem_cons.mpr ⟨rfl, (List.forall_mem_cons.mpr ⟨rfl, (List.forall_mem_cons.mpr ⟨rfl, (List.forall_mem_cons.mpr ⟨rfl, (List.forall_mem_cons.mpr ⟨rfl, zs_nil⟩)⟩)⟩)⟩)⟩) ?_
  refine zt_X16_leaving_L5 hX hr hR hd (res := r) (out := out) a0 i1 i2 ?_ ?_ N _ _ _ g
  · intro o ho
    subst ho
    exact Option.some.inj h
  · intro v7 S6 hx
    subst hx
    try dsimp only at h
    refine zw_iload_n hX dX16_leaving_49 rfl ?_
    obtain rfl := Option.some.inj h
    exact zw_iret hX hr dX16_leaving_50 rfl ⟨rfl, rfl⟩
set_option maxHeartbeats 4000000 in
set_option maxRecDepth 100000 in
theorem zt_X16_next_L4 {p : Program} {l : Launch} {e : Env} {R : Room} {s : State} {m : MethodId} {args : Array Value} {below : List Frame} {meth : Method} {c : Code} {V : zm_V} {mc ms d rc rs : Nat} (hX : zm_X p R s m args meth c RX16 "next" cX16_next 4 zk_E V mc ms) (hr : meth.sig.returnType = (some .int)) (hR : R.frames = d ∧ R.locals = 64 * d) (hd : 3 ≤ d) {N : Nat} {res : (Int32 × zm_S) ⊕ ((Int32) × zm_S)} {out : (Int32 × zm_S)} (a0 : Nat) (i1 : Int32) (hf : ∀ o, res = .inl o → o = out) (hk : ∀ (x2 : Int32) (S' : zm_S), res = .inr (x2, S') → zw p l e R s m args below meth c (vx_MQ below (zm_Qc zk_E V (zo_i out)) (zm_XC zk_E V zo_x) args s mc ms (fun q => V.2.2.2.1 ≤ q)) 4 zk_E V mc ms 41 [(2, .int x2)] [] S' rc rs) : ∀ (n : Nat) (i2 : Int32) (i3 : Int32) (S : zm_S), zf_X16_next_L4 N n a0 i1 i2 i3 S = some res → zw p l e R s m args below meth c (vx_MQ below (zm_Qc zk_E V (zo_i out)) (zm_XC zk_E V zo_x) args s mc ms (fun q => V.2.2.2.1 ≤ q)) 4 zk_E V mc ms 4 [(0, .ref a0), (1, .int i1), (2, .int i2), (3, .int i3)] [] S rc rs := by
  intro n
  induction n with
  | zero => intro i2 i3 S h; cases h
  | succ n ih =>
    intro i2 i3 S h
    rw [zf_X16_next_L4] at h
    refine zw_iload_n hX dX16_next_4 rfl ?_
    refine zw_bipush (v := (-3 : Int32)) hX dX16_next_5 (by decide) ?_
    refine zw_icmp_le (tgt := 41) hX dX16_next_7 (by decide) (fun c7 => ?_) (fun c7 => ?_)
    · rw [if_pos c7] at h
      refine zw_sub (lv' := [(2, .int i2)]) (List.forall_mem_cons.mpr ⟨rfl, zs_nil⟩) ?_
      exact hk _ _ (Option.some.inj h).symm
    · rw [if_neg c7] at h
      refine zw_iload_n hX dX16_next_10 rfl ?_
      refine zw_if_ge (tgt := 41) hX dX16_next_11 (by decide) (fun c11 => ?_) (fun c11 => ?_)
      · rw [if_pos c11] at h
        refine zw_sub (lv' := [(2, .int i2)]) (List.forall_mem_cons.mpr ⟨rfl, zs_nil⟩) ?_
        exact hk _ _ (Option.some.inj h).symm
      · rw [if_neg c11] at h
        refine zw_aload_n hX dX16_next_14 rfl ?_
        refine zw_aload_n hX dX16_next_15 rfl ?_
        refine zw_iload_n hX dX16_next_16 rfl ?_
        obtain ⟨_, gi, h⟩ := zb_some h
        obtain ⟨r2, g, h⟩ := zb_some h
        refine zc_Vi (as := [.int i1]) hX gi (zt_X16_sideTo (d := d - 1) (by omega) g) zl_X16_159 rfl dX16_next_17 ⟨rfl, rfl, Nat.le_of_ble_eq_true rfl⟩ ⟨by omega, by omega⟩ ?_
        refine zw_aload_n hX dX16_next_20 rfl ?_
        refine zw_iload_n hX dX16_next_21 rfl ?_
        obtain ⟨_, gi, h⟩ := zb_some h
        obtain ⟨r4, g, h⟩ := zb_some h
        refine zc_Vi (as := [.int i1]) hX gi (zt_X16_sideWay (d := d - 1) (by omega) g) zl_X16_150 rfl dX16_next_22 ⟨rfl, rfl, Nat.le_of_ble_eq_true rfl⟩ ⟨by omega, by omega⟩ ?_
        refine zw_iload_n hX dX16_next_25 rfl ?_
        refine zw_iadd hX dX16_next_26 ?_
        refine zw_iconst (v := (4 : Int32)) hX dX16_next_27 (by decide) ?_
        refine zw_iadd hX dX16_next_28 ?_
        refine zw_iconst (v := (4 : Int32)) hX dX16_next_29 (by decide) ?_
        refine zw_irem hX dX16_next_30 (by decide) ?_
        obtain ⟨_, gi, h⟩ := zb_some h
        obtain ⟨r6, g, h⟩ := zb_some h
        refine zc_Vi (as := [.int r2.1, .int (((r4.1 + i3) + (4 : Int32)) - ((r4.1 + i3) + (4 : Int32)) / (4 : Int32) * (4 : Int32))]) hX gi (zt_X16_leaving (d := d - 1) (by omega) g) zl_X16_162 rfl dX16_next_31 ⟨rfl, rfl, Nat.le_of_ble_eq_true rfl⟩ ⟨by omega, by omega⟩ ?_
        refine zw_istore_n hX dX16_next_34 (by decide) ?_
        refine zw_iinc (v := (i3 + (-1 : Int32))) hX dX16_next_35 rfl rfl (by decide) ?_
        refine zw_goto (tgt := 4) hX dX16_next_38 (by decide) ?_
        refine zw_sub (lv' := [(0, .ref a0), (1, .int i1), (2, .int r6.1), (3, .int (i3 + (-1 : Int32)))]) (List.forall_mem_cons.mpr ⟨rfl, (List.forall_mem_cons.mpr ⟨rfl, (List.forall_mem_cons.mpr ⟨rfl, (List.forall_mem_cons.mpr ⟨rfl, zs_nil⟩)⟩)⟩)⟩) ?_
        exact ih _ _ _ h
set_option maxHeartbeats 4000000 in
set_option maxRecDepth 100000 in
theorem zt_X16_next {l : Launch} {V : zm_V} {N : Nat} {S : zm_S} {out : (Int32 × zm_S)} {d : Nat} {a0 : Nat} {i1 : Int32} (hd : 3 ≤ d) (h : zf_X16_next N a0 i1 S = some out) : zm_Met l zk_E V yX16_next (.code yX16_next cX16_next 4 (some .int)) d [.ref a0, .int i1] S 0 0 (zo_i out) zo_x := by
  refine zm_of (by decide +kernel) (Nat.le_of_ble_eq_true rfl) ?_
  intro p e R s m args below meth c hRR hX hr hxt
  have hR : R.frames = d ∧ R.locals = 64 * d := by rw [hRR]; exact ⟨rfl, rfl⟩
  have hX : zm_X p R s m args meth c RX16 "next" cX16_next 4 zk_E V 0 0 := hX
  unfold zf_X16_next at h
  refine zw_sub (lv' := [(0, .ref a0), (1, .int i1)]) (List.forall_mem_cons.mpr ⟨rfl, (List.forall_mem_cons.mpr ⟨rfl, zs_nil⟩)⟩) ?_
  refine zw_iconst (v := (-1 : Int32)) hX dX16_next_0 (by decide) ?_
  refine zw_istore_n hX dX16_next_1 (by decide) ?_
  refine zw_iconst (v := (1 : Int32)) hX dX16_next_2 (by decide) ?_
  refine zw_istore_n hX dX16_next_3 (by decide) ?_
  obtain ⟨r, g, h⟩ := zb_some h
  refine zw_sub (lv' := [(0, .ref a0), (1, .int i1), (2, .int (-1 : Int32)), (3, .int (1 : Int32))]) (List.forall_mem_cons.mpr ⟨rfl, (List.forall_mem_cons.mpr ⟨rfl, (List.forall_mem_cons.mpr ⟨rfl, (List.forall_mem_cons.mpr ⟨rfl, zs_nil⟩)⟩)⟩)⟩) ?_
  refine zt_X16_next_L4 hX hr hR hd (res := r) (out := out) a0 i1 ?_ ?_ N _ _ _ g
  · intro o ho
    subst ho
    exact Option.some.inj h
  · intro v8 S7 hx
    subst hx
    try dsimp only at h
    refine zw_iload_n hX dX16_next_41 rfl ?_
    obtain rfl := Option.some.inj h
    exact zw_iret hX hr dX16_next_42 rfl ⟨rfl, rfl⟩
set_option maxHeartbeats 4000000 in
set_option maxRecDepth 100000 in
theorem zt_X16_findRings_L7 {p : Program} {l : Launch} {e : Env} {R : Room} {s : State} {m : MethodId} {args : Array Value} {below : List Frame} {meth : Method} {c : Code} {V : zm_V} {mc ms d rc rs : Nat} (hX : zm_X p R s m args meth c RX16 "findRings" cX16_findRings 4 zk_E V mc ms) (hr : meth.sig.returnType = none) (hR : R.frames = d ∧ R.locals = 64 * d) (hd : 4 ≤ d) {N : Nat} {res : (Unit × zm_S) ⊕ ((Unit) × zm_S)} {out : (Unit × zm_S)} (a0 : Nat) (hf : ∀ o, res = .inl o → o = out) (hk : ∀ (S' : zm_S), res = .inr ((), S') → zw p l e R s m args below meth c (vx_MQ below (zm_Qc zk_E V (zo_v out)) (zm_XC zk_E V zo_x) args s mc ms (fun q => V.2.2.2.1 ≤ q)) 4 zk_E V mc ms 30 [(0, .ref a0)] [] S' rc rs) : ∀ (n : Nat) (i1 : Int32) (S : zm_S), zf_X16_findRings_L7 N n a0 i1 S = some res → zw p l e R s m args below meth c (vx_MQ below (zm_Qc zk_E V (zo_v out)) (zm_XC zk_E V zo_x) args s mc ms (fun q => V.2.2.2.1 ≤ q)) 4 zk_E V mc ms 7 [(0, .ref a0), (1, .int i1)] [] S rc rs := by
  intro n
  induction n with
  | zero => intro i1 S h; cases h
  | succ n ih =>
    intro i1 S h
    rw [zf_X16_findRings_L7] at h
    refine zw_iload_n hX dX16_findRings_7 rfl ?_
    refine zw_iconst (v := (2 : Int32)) hX dX16_findRings_8 (by decide) ?_
    refine zw_aload_n hX dX16_findRings_9 rfl ?_
    obtain ⟨v2, g, h⟩ := zb_some h
    refine zw_geti hX zl_X16_143 dX16_findRings_10 g ?_
    refine zw_imul hX dX16_findRings_13 ?_
    refine zw_icmp_ge (tgt := 30) hX dX16_findRings_14 (by decide) (fun c14 => ?_) (fun c14 => ?_)
    · rw [if_pos c14] at h
      refine zw_sub (lv' := [(0, .ref a0)]) (List.forall_mem_cons.mpr ⟨rfl, zs_nil⟩) ?_
      exact hk  _ (Option.some.inj h).symm
    · rw [if_neg c14] at h
      refine zw_aload_n hX dX16_findRings_17 rfl ?_
      obtain ⟨b3, g, h⟩ := zb_some h
      refine zw_getr hX zl_X16_74 dX16_findRings_18 g ?_
      refine zw_iload_n hX dX16_findRings_21 rfl ?_
      refine zw_iconst (v := (0 : Int32)) hX dX16_findRings_22 (by decide) ?_
      obtain ⟨S4, g, h⟩ := zb_some h
      refine zw_sz hX dX16_findRings_23 g ?_
      refine zw_iinc (v := (i1 + (1 : Int32))) hX dX16_findRings_24 rfl rfl (by decide) ?_
      refine zw_goto (tgt := 7) hX dX16_findRings_27 (by decide) ?_
      refine zw_sub (lv' := [(0, .ref a0), (1, .int (i1 + (1 : Int32)))]) (List.forall_mem_cons.mpr ⟨rfl, (List.forall_mem_cons.mpr ⟨rfl, zs_nil⟩)⟩) ?_
      exact ih _ _ h
set_option maxHeartbeats 4000000 in
set_option maxRecDepth 100000 in
theorem zt_X16_findRings_L87 {p : Program} {l : Launch} {e : Env} {R : Room} {s : State} {m : MethodId} {args : Array Value} {below : List Frame} {meth : Method} {c : Code} {V : zm_V} {mc ms d rc rs : Nat} (hX : zm_X p R s m args meth c RX16 "findRings" cX16_findRings 4 zk_E V mc ms) (hr : meth.sig.returnType = none) (hR : R.frames = d ∧ R.locals = 64 * d) (hd : 4 ≤ d) {N : Nat} {res : (Unit × zm_S) ⊕ ((Unit) × zm_S)} {out : (Unit × zm_S)} (a0 : Nat) (i1 : Int32) (i2 : Int32) (hf : ∀ o, res = .inl o → o = out) (hk : ∀ (S' : zm_S), res = .inr ((), S') → zw p l e R s m args below meth c (vx_MQ below (zm_Qc zk_E V (zo_v out)) (zm_XC zk_E V zo_x) args s mc ms (fun q => V.2.2.2.1 ≤ q)) 4 zk_E V mc ms 125 [(0, .ref a0), (1, .int i1), (2, .int i2)] [] S' rc rs) : ∀ (n : Nat) (i3 : Int32) (S : zm_S), zf_X16_findRings_L87 N n a0 i1 i2 i3 S = some res → zw p l e R s m args below meth c (vx_MQ below (zm_Qc zk_E V (zo_v out)) (zm_XC zk_E V zo_x) args s mc ms (fun q => V.2.2.2.1 ≤ q)) 4 zk_E V mc ms 87 [(0, .ref a0), (1, .int i1), (2, .int i2), (3, .int i3)] [] S rc rs := by
  intro n
  induction n with
  | zero => intro i3 S h; cases h
  | succ n ih =>
    intro i3 S h
    rw [zf_X16_findRings_L87] at h
    refine zw_aload_n hX dX16_findRings_87 rfl ?_
    obtain ⟨b17, g, h⟩ := zb_some h
    refine zw_getr hX zl_X16_74 dX16_findRings_88 g ?_
    refine zw_iload_n hX dX16_findRings_91 rfl ?_
    obtain ⟨v18, g, h⟩ := zb_some h
    refine zw_xz hX dX16_findRings_92 g ?_
    refine zw_if_ne (tgt := 125) hX dX16_findRings_93 (by decide) (fun c93 => ?_) (fun c93 => ?_)
    · rw [if_neg c93] at h
      refine zw_sub (lv' := [(0, .ref a0), (1, .int i1), (2, .int i2)]) (List.forall_mem_cons.mpr ⟨rfl, (List.forall_mem_cons.mpr ⟨rfl, (List.forall_mem_cons.mpr ⟨rfl, zs_nil⟩)⟩)⟩) ?_
      exact hk  _ (Option.some.inj h).symm
    · rw [if_pos c93] at h
      refine zw_aload_n hX dX16_findRings_96 rfl ?_
      obtain ⟨b19, g, h⟩ := zb_some h
      refine zw_getr hX zl_X16_74 dX16_findRings_97 g ?_
      refine zw_iload_n hX dX16_findRings_100 rfl ?_
      refine zw_iconst (v := (1 : Int32)) hX dX16_findRings_101 (by decide) ?_
      obtain ⟨S20, g, h⟩ := zb_some h
      refine zw_sz hX dX16_findRings_102 g ?_
      refine zw_aload_n hX dX16_findRings_103 rfl ?_
      obtain ⟨b21, g, h⟩ := zb_some h
      refine zw_getr hX zl_X16_80 dX16_findRings_104 g ?_
      refine zw_aload_n hX dX16_findRings_107 rfl ?_
      obtain ⟨v22, g, h⟩ := zb_some h
      refine zw_geti hX zl_X16_165 dX16_findRings_108 g ?_
      refine zw_dup2 hX dX16_findRings_111 rfl rfl ?_
      obtain ⟨v23, g, h⟩ := zb_some h
      refine zw_xi hX dX16_findRings_112 g ?_
      refine zw_iconst (v := (1 : Int32)) hX dX16_findRings_113 (by decide) ?_
      refine zw_iadd hX dX16_findRings_114 ?_
      obtain ⟨S24, g, h⟩ := zb_some h
      refine zw_si hX dX16_findRings_115 g ?_
      refine zw_aload_n hX dX16_findRings_116 rfl ?_
      refine zw_iload_n hX dX16_findRings_117 rfl ?_
      obtain ⟨_, gi, h⟩ := zb_some h
      obtain ⟨r26, g, h⟩ := zb_some h
      refine zc_Vi (as := [.int i3]) hX gi (zt_X16_next (d := d - 1) (by omega) g) zl_X16_168 rfl dX16_findRings_118 ⟨rfl, rfl, Nat.le_of_ble_eq_true rfl⟩ ⟨by omega, by omega⟩ ?_
      refine zw_istore_n hX dX16_findRings_121 (by decide) ?_
      refine zw_goto (tgt := 87) hX dX16_findRings_122 (by decide) ?_
      refine zw_sub (lv' := [(0, .ref a0), (1, .int i1), (2, .int i2), (3, .int r26.1)]) (List.forall_mem_cons.mpr ⟨rfl, (List.forall_mem_cons.mpr ⟨rfl, (List.forall_mem_cons.mpr ⟨rfl, (List.forall_mem_cons.mpr ⟨rfl, zs_nil⟩)⟩)⟩)⟩) ?_
      exact ih _ _ h
set_option maxHeartbeats 4000000 in
set_option maxRecDepth 100000 in
theorem zt_X16_findRings_L42 {p : Program} {l : Launch} {e : Env} {R : Room} {s : State} {m : MethodId} {args : Array Value} {below : List Frame} {meth : Method} {c : Code} {V : zm_V} {mc ms d rc rs : Nat} (hX : zm_X p R s m args meth c RX16 "findRings" cX16_findRings 4 zk_E V mc ms) (hr : meth.sig.returnType = none) (hR : R.frames = d ∧ R.locals = 64 * d) (hd : 4 ≤ d) {N : Nat} {res : (Unit × zm_S) ⊕ ((Unit) × zm_S)} {out : (Unit × zm_S)} (a0 : Nat) (i1 : Int32) (hf : ∀ o, res = .inl o → o = out) (hk : ∀ (S' : zm_S), res = .inr ((), S') → zw p l e R s m args below meth c (vx_MQ below (zm_Qc zk_E V (zo_v out)) (zm_XC zk_E V zo_x) args s mc ms (fun q => V.2.2.2.1 ≤ q)) 4 zk_E V mc ms 141 [(0, .ref a0), (1, .int i1)] [] S' rc rs) : ∀ (n : Nat) (i2 : Int32) (S : zm_S), zf_X16_findRings_L42 N n a0 i1 i2 S = some res → zw p l e R s m args below meth c (vx_MQ below (zm_Qc zk_E V (zo_v out)) (zm_XC zk_E V zo_x) args s mc ms (fun q => V.2.2.2.1 ≤ q)) 4 zk_E V mc ms 42 [(0, .ref a0), (1, .int i1), (2, .int i2)] [] S rc rs := by
  intro n
  induction n with
  | zero => intro i2 S h; cases h
  | succ n ih =>
    intro i2 S h
    rw [zf_X16_findRings_L42] at h
    refine zw_iload_n hX dX16_findRings_42 rfl ?_
    refine zw_iconst (v := (4 : Int32)) hX dX16_findRings_43 (by decide) ?_
    refine zw_icmp_ge (tgt := 141) hX dX16_findRings_44 (by decide) (fun c44 => ?_) (fun c44 => ?_)
    · rw [if_pos c44] at h
      refine zw_sub (lv' := [(0, .ref a0), (1, .int i1)]) (List.forall_mem_cons.mpr ⟨rfl, (List.forall_mem_cons.mpr ⟨rfl, zs_nil⟩)⟩) ?_
      exact hk  _ (Option.some.inj h).symm
    · rw [if_neg c44] at h
      refine zw_aload_n hX dX16_findRings_47 rfl ?_
      refine zw_iload_n hX dX16_findRings_48 rfl ?_
      refine zw_iload_n hX dX16_findRings_49 rfl ?_
      obtain ⟨_, gi, h⟩ := zb_some h
      obtain ⟨r8, g, h⟩ := zb_some h
      refine zc_Vi (as := [.int i1, .int i2]) hX gi (zt_X16_leaving (d := d - 1) (by omega) g) zl_X16_162 rfl dX16_findRings_50 ⟨rfl, rfl, Nat.le_of_ble_eq_true rfl⟩ ⟨by omega, by omega⟩ ?_
      refine zw_istore_n hX dX16_findRings_53 (by decide) ?_
      refine zw_iload_n hX dX16_findRings_54 rfl ?_
      refine zw_if_lt (tgt := 135) hX dX16_findRings_55 (by decide) (fun c55 => ?_) (fun c55 => ?_)
      · rw [if_pos c55] at h
        refine zw_iinc (v := (i2 + (1 : Int32))) hX dX16_findRings_135 rfl rfl (by decide) ?_
        refine zw_goto (tgt := 42) hX dX16_findRings_138 (by decide) ?_
        refine zw_sub (lv' := [(0, .ref a0), (1, .int i1), (2, .int (i2 + (1 : Int32)))]) (List.forall_mem_cons.mpr ⟨rfl, (List.forall_mem_cons.mpr ⟨rfl, (List.forall_mem_cons.mpr ⟨rfl, zs_nil⟩)⟩)⟩) ?_
        exact ih _ _ h
      · rw [if_neg c55] at h
        refine zw_aload_n hX dX16_findRings_58 rfl ?_
        obtain ⟨b9, g, h⟩ := zb_some h
        refine zw_getr hX zl_X16_74 dX16_findRings_59 g ?_
        refine zw_iload_n hX dX16_findRings_62 rfl ?_
        obtain ⟨v10, g, h⟩ := zb_some h
        refine zw_xz hX dX16_findRings_63 g ?_
        refine zw_if_ne (tgt := 135) hX dX16_findRings_64 (by decide) (fun c64 => ?_) (fun c64 => ?_)
        · rw [if_neg c64] at h
          refine zw_iinc (v := (i2 + (1 : Int32))) hX dX16_findRings_135 rfl rfl (by decide) ?_
          refine zw_goto (tgt := 42) hX dX16_findRings_138 (by decide) ?_
          refine zw_sub (lv' := [(0, .ref a0), (1, .int i1), (2, .int (i2 + (1 : Int32)))]) (List.forall_mem_cons.mpr ⟨rfl, (List.forall_mem_cons.mpr ⟨rfl, (List.forall_mem_cons.mpr ⟨rfl, zs_nil⟩)⟩)⟩) ?_
          exact ih _ _ h
        · rw [if_pos c64] at h
          refine zw_aload_n hX dX16_findRings_67 rfl ?_
          obtain ⟨b11, g, h⟩ := zb_some h
          refine zw_getr hX zl_X16_77 dX16_findRings_68 g ?_
          refine zw_aload_n hX dX16_findRings_71 rfl ?_
          obtain ⟨v12, g, h⟩ := zb_some h
          refine zw_geti hX zl_X16_165 dX16_findRings_72 g ?_
          refine zw_iload_n hX dX16_findRings_75 rfl ?_
          obtain ⟨S13, g, h⟩ := zb_some h
          refine zw_si hX dX16_findRings_76 g ?_
          refine zw_aload_n hX dX16_findRings_77 rfl ?_
          obtain ⟨b14, g, h⟩ := zb_some h
          refine zw_getr hX zl_X16_80 dX16_findRings_78 g ?_
          refine zw_aload_n hX dX16_findRings_81 rfl ?_
          obtain ⟨v15, g, h⟩ := zb_some h
          refine zw_geti hX zl_X16_165 dX16_findRings_82 g ?_
          refine zw_iconst (v := (0 : Int32)) hX dX16_findRings_85 (by decide) ?_
          obtain ⟨S16, g, h⟩ := zb_some h
          refine zw_si hX dX16_findRings_86 g ?_
          obtain ⟨r, g, h⟩ := zb_some h
          refine zw_sub (lv' := [(0, .ref a0), (1, .int i1), (2, .int i2), (3, .int r8.1)]) (List.forall_mem_cons.mpr ⟨rfl, (List.forall_mem_cons.mpr ⟨rfl, (List.forall_mem_cons.mpr ⟨rfl, (List.forall_mem_cons.mpr ⟨rfl, zs_nil⟩)⟩)⟩)⟩) ?_
          refine zt_X16_findRings_L87 hX hr hR hd (res := r) (out := out) a0 i1 i2 ?_ ?_ N _ _ g
          · intro o ho
            subst ho
            exact hf _ (Option.some.inj h).symm
          · intro  S27 hx
            subst hx
            try dsimp only at h
            refine zw_aload_n hX dX16_findRings_125 rfl ?_
            refine zw_dup hX dX16_findRings_126 rfl ?_
            obtain ⟨v28, g, h⟩ := zb_some h
            refine zw_geti hX zl_X16_165 dX16_findRings_127 g ?_
            refine zw_iconst (v := (1 : Int32)) hX dX16_findRings_130 (by decide) ?_
            refine zw_iadd hX dX16_findRings_131 ?_
            obtain ⟨S29, g, h⟩ := zb_some h
            refine zw_putv hX zl_X16_165 zt_16_35 dX16_findRings_132 rfl rfl g ?_
            refine zw_iinc (v := (i2 + (1 : Int32))) hX dX16_findRings_135 rfl rfl (by decide) ?_
            refine zw_goto (tgt := 42) hX dX16_findRings_138 (by decide) ?_
            refine zw_sub (lv' := [(0, .ref a0), (1, .int i1), (2, .int (i2 + (1 : Int32)))]) (List.forall_mem_cons.mpr ⟨rfl, (List.forall_mem_cons.mpr ⟨rfl, (List.forall_mem_cons.mpr ⟨rfl, zs_nil⟩)⟩)⟩) ?_
            exact ih _ _ h
set_option maxHeartbeats 4000000 in
set_option maxRecDepth 100000 in
theorem zt_X16_findRings_L32 {p : Program} {l : Launch} {e : Env} {R : Room} {s : State} {m : MethodId} {args : Array Value} {below : List Frame} {meth : Method} {c : Code} {V : zm_V} {mc ms d rc rs : Nat} (hX : zm_X p R s m args meth c RX16 "findRings" cX16_findRings 4 zk_E V mc ms) (hr : meth.sig.returnType = none) (hR : R.frames = d ∧ R.locals = 64 * d) (hd : 4 ≤ d) {N : Nat} {res : (Unit × zm_S) ⊕ ((Unit) × zm_S)} {out : (Unit × zm_S)} (a0 : Nat) (hf : ∀ o, res = .inl o → o = out) (hk : ∀ (S' : zm_S), res = .inr ((), S') → zw p l e R s m args below meth c (vx_MQ below (zm_Qc zk_E V (zo_v out)) (zm_XC zk_E V zo_x) args s mc ms (fun q => V.2.2.2.1 ≤ q)) 4 zk_E V mc ms 147 [] [] S' rc rs) : ∀ (n : Nat) (i1 : Int32) (S : zm_S), zf_X16_findRings_L32 N n a0 i1 S = some res → zw p l e R s m args below meth c (vx_MQ below (zm_Qc zk_E V (zo_v out)) (zm_XC zk_E V zo_x) args s mc ms (fun q => V.2.2.2.1 ≤ q)) 4 zk_E V mc ms 32 [(0, .ref a0), (1, .int i1)] [] S rc rs := by
  intro n
  induction n with
  | zero => intro i1 S h; cases h
  | succ n ih =>
    intro i1 S h
    rw [zf_X16_findRings_L32] at h
    refine zw_iload_n hX dX16_findRings_32 rfl ?_
    refine zw_aload_n hX dX16_findRings_33 rfl ?_
    obtain ⟨v6, g, h⟩ := zb_some h
    refine zw_geti hX zl_X16_129 dX16_findRings_34 g ?_
    refine zw_icmp_ge (tgt := 147) hX dX16_findRings_37 (by decide) (fun c37 => ?_) (fun c37 => ?_)
    · rw [if_pos c37] at h
      refine zw_sub (lv' := []) zs_nil ?_
      exact hk  _ (Option.some.inj h).symm
    · rw [if_neg c37] at h
      refine zw_iconst (v := (0 : Int32)) hX dX16_findRings_40 (by decide) ?_
      refine zw_istore_n hX dX16_findRings_41 (by decide) ?_
      obtain ⟨r, g, h⟩ := zb_some h
      refine zw_sub (lv' := [(0, .ref a0), (1, .int i1), (2, .int (0 : Int32))]) (List.forall_mem_cons.mpr ⟨rfl, (List.forall_mem_cons.mpr ⟨rfl, (List.forall_mem_cons.mpr ⟨rfl, zs_nil⟩)⟩)⟩) ?_
      refine zt_X16_findRings_L42 hX hr hR hd (res := r) (out := out) a0 i1 ?_ ?_ N _ _ g
      · intro o ho
        subst ho
        exact hf _ (Option.some.inj h).symm
      · intro  S30 hx
        subst hx
        try dsimp only at h
        refine zw_iinc (v := (i1 + (1 : Int32))) hX dX16_findRings_141 rfl rfl (by decide) ?_
        refine zw_goto (tgt := 32) hX dX16_findRings_144 (by decide) ?_
        refine zw_sub (lv' := [(0, .ref a0), (1, .int (i1 + (1 : Int32)))]) (List.forall_mem_cons.mpr ⟨rfl, (List.forall_mem_cons.mpr ⟨rfl, zs_nil⟩)⟩) ?_
        exact ih _ _ h
set_option maxHeartbeats 4000000 in
set_option maxRecDepth 100000 in
theorem zt_X16_findRings {l : Launch} {V : zm_V} {N : Nat} {S : zm_S} {out : (Unit × zm_S)} {d : Nat} {a0 : Nat} (hd : 4 ≤ d) (h : zf_X16_findRings N a0 S = some out) : zm_Met l zk_E V yX16_findRings (.code yX16_findRings cX16_findRings 4 none) d [.ref a0] S 0 0 (zo_v out) zo_x := by
  refine zm_of (by decide +kernel) (Nat.le_of_ble_eq_true rfl) ?_
  intro p e R s m args below meth c hRR hX hr hxt
  have hR : R.frames = d ∧ R.locals = 64 * d := by rw [hRR]; exact ⟨rfl, rfl⟩
  have hX : zm_X p R s m args meth c RX16 "findRings" cX16_findRings 4 zk_E V 0 0 := hX
  unfold zf_X16_findRings at h
  refine zw_sub (lv' := [(0, .ref a0)]) (List.forall_mem_cons.mpr ⟨rfl, zs_nil⟩) ?_
  refine zw_aload_n hX dX16_findRings_0 rfl ?_
  refine zw_iconst (v := (0 : Int32)) hX dX16_findRings_1 (by decide) ?_
  obtain ⟨S1, g, h⟩ := zb_some h
  refine zw_putv hX zl_X16_165 zt_16_35 dX16_findRings_2 rfl rfl g ?_
  refine zw_iconst (v := (0 : Int32)) hX dX16_findRings_5 (by decide) ?_
  refine zw_istore_n hX dX16_findRings_6 (by decide) ?_
  obtain ⟨r, g, h⟩ := zb_some h
  refine zw_sub (lv' := [(0, .ref a0), (1, .int (0 : Int32))]) (List.forall_mem_cons.mpr ⟨rfl, (List.forall_mem_cons.mpr ⟨rfl, zs_nil⟩)⟩) ?_
  refine zt_X16_findRings_L7 hX hr hR hd (res := r) (out := out) a0 ?_ ?_ N _ _ g
  · intro o ho
    subst ho
    exact Option.some.inj h
  · intro  S5 hx
    subst hx
    try dsimp only at h
    refine zw_iconst (v := (0 : Int32)) hX dX16_findRings_30 (by decide) ?_
    refine zw_istore_n hX dX16_findRings_31 (by decide) ?_
    obtain ⟨r, g, h⟩ := zb_some h
    refine zw_sub (lv' := [(0, .ref a0), (1, .int (0 : Int32))]) (List.forall_mem_cons.mpr ⟨rfl, (List.forall_mem_cons.mpr ⟨rfl, zs_nil⟩)⟩) ?_
    refine zt_X16_findRings_L32 hX hr hR hd (res := r) (out := out) a0 ?_ ?_ N _ _ g
    · intro o ho
      subst ho
      exact Option.some.inj h
    · intro  S31 hx
      subst hx
      try dsimp only at h
      obtain rfl := Option.some.inj h
      exact zw_vret hX hr dX16_findRings_147 ⟨rfl, rfl⟩
set_option maxHeartbeats 4000000 in
set_option maxRecDepth 100000 in
theorem zt_X16_number_L14 {p : Program} {l : Launch} {e : Env} {R : Room} {s : State} {m : MethodId} {args : Array Value} {below : List Frame} {meth : Method} {c : Code} {V : zm_V} {mc ms d rc rs : Nat} (hX : zm_X p R s m args meth c RX16 "number" cX16_number 4 zk_E V mc ms) (hr : meth.sig.returnType = none) (hR : R.frames = d ∧ R.locals = 64 * d) (hd : 3 ≤ d) {N : Nat} {res : (Unit × zm_S) ⊕ ((Unit) × zm_S)} {out : (Unit × zm_S)} (a0 : Nat) (i1 : Int32) (hf : ∀ o, res = .inl o → o = out) (hk : ∀ (S' : zm_S), res = .inr ((), S') → zw p l e R s m args below meth c (vx_MQ below (zm_Qc zk_E V (zo_v out)) (zm_XC zk_E V zo_x) args s mc ms (fun q => V.2.2.2.1 ≤ q)) 4 zk_E V mc ms 35 [(0, .ref a0), (1, .int i1)] [] S' rc rs) : ∀ (n : Nat) (i2 : Int32) (S : zm_S), zf_X16_number_L14 N n a0 i1 i2 S = some res → zw p l e R s m args below meth c (vx_MQ below (zm_Qc zk_E V (zo_v out)) (zm_XC zk_E V zo_x) args s mc ms (fun q => V.2.2.2.1 ≤ q)) 4 zk_E V mc ms 14 [(0, .ref a0), (1, .int i1), (2, .int i2)] [] S rc rs := by
  intro n
  induction n with
  | zero => intro i2 S h; cases h
  | succ n ih =>
    intro i2 S h
    rw [zf_X16_number_L14] at h
    refine zw_iload_n hX dX16_number_14 rfl ?_
    refine zw_sipush (v := (1764 : Int32)) hX dX16_number_15 (by decide) ?_
    refine zw_icmp_ge (tgt := 35) hX dX16_number_18 (by decide) (fun c18 => ?_) (fun c18 => ?_)
    · rw [if_pos c18] at h
      refine zw_sub (lv' := [(0, .ref a0), (1, .int i1)]) (List.forall_mem_cons.mpr ⟨rfl, (List.forall_mem_cons.mpr ⟨rfl, zs_nil⟩)⟩) ?_
      exact hk  _ (Option.some.inj h).symm
    · rw [if_neg c18] at h
      refine zw_aload_n hX dX16_number_21 rfl ?_
      obtain ⟨b4, g, h⟩ := zb_some h
      refine zw_getr hX zl_X16_83 dX16_number_22 g ?_
      refine zw_iload_n hX dX16_number_25 rfl ?_
      refine zw_bipush (v := (-2 : Int32)) hX dX16_number_26 (by decide) ?_
      obtain ⟨S5, g, h⟩ := zb_some h
      refine zw_si hX dX16_number_28 g ?_
      refine zw_iinc (v := (i2 + (1 : Int32))) hX dX16_number_29 rfl rfl (by decide) ?_
      refine zw_goto (tgt := 14) hX dX16_number_32 (by decide) ?_
      refine zw_sub (lv' := [(0, .ref a0), (1, .int i1), (2, .int (i2 + (1 : Int32)))]) (List.forall_mem_cons.mpr ⟨rfl, (List.forall_mem_cons.mpr ⟨rfl, (List.forall_mem_cons.mpr ⟨rfl, zs_nil⟩)⟩)⟩) ?_
      exact ih _ _ h
set_option maxHeartbeats 4000000 in
set_option maxRecDepth 100000 in
theorem zt_X16_number_L44 {p : Program} {l : Launch} {e : Env} {R : Room} {s : State} {m : MethodId} {args : Array Value} {below : List Frame} {meth : Method} {c : Code} {V : zm_V} {mc ms d rc rs : Nat} (hX : zm_X p R s m args meth c RX16 "number" cX16_number 4 zk_E V mc ms) (hr : meth.sig.returnType = none) (hR : R.frames = d ∧ R.locals = 64 * d) (hd : 3 ≤ d) {N : Nat} {res : (Unit × zm_S) ⊕ ((Unit) × zm_S)} {out : (Unit × zm_S)} (a0 : Nat) (hf : ∀ o, res = .inl o → o = out) (hk : ∀ (S' : zm_S), res = .inr ((), S') → zw p l e R s m args below meth c (vx_MQ below (zm_Qc zk_E V (zo_v out)) (zm_XC zk_E V zo_x) args s mc ms (fun q => V.2.2.2.1 ≤ q)) 4 zk_E V mc ms 100 [(0, .ref a0)] [] S' rc rs) : ∀ (n : Nat) (i2 : Int32) (S : zm_S), zf_X16_number_L44 N n a0 i2 S = some res → zw p l e R s m args below meth c (vx_MQ below (zm_Qc zk_E V (zo_v out)) (zm_XC zk_E V zo_x) args s mc ms (fun q => V.2.2.2.1 ≤ q)) 4 zk_E V mc ms 44 [(0, .ref a0), (2, .int i2)] [] S rc rs := by
  intro n
  induction n with
  | zero => intro i2 S h; cases h
  | succ n ih =>
    intro i2 S h
    rw [zf_X16_number_L44] at h
    refine zw_iload_n hX dX16_number_44 rfl ?_
    refine zw_aload_n hX dX16_number_45 rfl ?_
    obtain ⟨v9, g, h⟩ := zb_some h
    refine zw_geti hX zl_X16_165 dX16_number_46 g ?_
    refine zw_icmp_ge (tgt := 100) hX dX16_number_49 (by decide) (fun c49 => ?_) (fun c49 => ?_)
    · rw [if_pos c49] at h
      refine zw_sub (lv' := [(0, .ref a0)]) (List.forall_mem_cons.mpr ⟨rfl, zs_nil⟩) ?_
      exact hk  _ (Option.some.inj h).symm
    · rw [if_neg c49] at h
      refine zw_aload_n hX dX16_number_52 rfl ?_
      refine zw_aload_n hX dX16_number_53 rfl ?_
      obtain ⟨b10, g, h⟩ := zb_some h
      refine zw_getr hX zl_X16_77 dX16_number_54 g ?_
      refine zw_iload_n hX dX16_number_57 rfl ?_
      obtain ⟨v11, g, h⟩ := zb_some h
      refine zw_xi hX dX16_number_58 g ?_
      obtain ⟨_, gi, h⟩ := zb_some h
      obtain ⟨r13, g, h⟩ := zb_some h
      refine zc_Vi (as := [.int v11]) hX gi (zt_X16_left (d := d - 1) (by omega) g) zl_X16_153 rfl dX16_number_59 ⟨rfl, rfl, Nat.le_of_ble_eq_true rfl⟩ ⟨by omega, by omega⟩ ?_
      refine zw_istore_n hX dX16_number_62 (by decide) ?_
      refine zw_aload_n hX dX16_number_63 rfl ?_
      obtain ⟨b14, g, h⟩ := zb_some h
      refine zw_getr hX zl_X16_83 dX16_number_64 g ?_
      refine zw_iload_n hX dX16_number_67 rfl ?_
      obtain ⟨v15, g, h⟩ := zb_some h
      refine zw_xi hX dX16_number_68 g ?_
      refine zw_bipush (v := (-2 : Int32)) hX dX16_number_69 (by decide) ?_
      refine zw_icmp_ne (tgt := 94) hX dX16_number_71 (by decide) (fun c71 => ?_) (fun c71 => ?_)
      · rw [if_neg c71] at h
        refine zw_iinc (v := (i2 + (1 : Int32))) hX dX16_number_94 rfl rfl (by decide) ?_
        refine zw_goto (tgt := 44) hX dX16_number_97 (by decide) ?_
        refine zw_sub (lv' := [(0, .ref a0), (2, .int (i2 + (1 : Int32)))]) (List.forall_mem_cons.mpr ⟨rfl, (List.forall_mem_cons.mpr ⟨rfl, zs_nil⟩)⟩) ?_
        exact ih _ _ h
      · rw [if_pos c71] at h
        refine zw_aload_n hX dX16_number_74 rfl ?_
        obtain ⟨b16, g, h⟩ := zb_some h
        refine zw_getr hX zl_X16_83 dX16_number_75 g ?_
        refine zw_iload_n hX dX16_number_78 rfl ?_
        refine zw_aload_n hX dX16_number_79 rfl ?_
        obtain ⟨v17, g, h⟩ := zb_some h
        refine zw_geti hX zl_X16_171 dX16_number_80 g ?_
        obtain ⟨S18, g, h⟩ := zb_some h
        refine zw_si hX dX16_number_83 g ?_
        refine zw_aload_n hX dX16_number_84 rfl ?_
        refine zw_dup hX dX16_number_85 rfl ?_
        obtain ⟨v19, g, h⟩ := zb_some h
        refine zw_geti hX zl_X16_171 dX16_number_86 g ?_
        refine zw_iconst (v := (1 : Int32)) hX dX16_number_89 (by decide) ?_
        refine zw_iadd hX dX16_number_90 ?_
        obtain ⟨S20, g, h⟩ := zb_some h
        refine zw_putv hX zl_X16_171 zt_16_17 dX16_number_91 rfl rfl g ?_
        refine zw_iinc (v := (i2 + (1 : Int32))) hX dX16_number_94 rfl rfl (by decide) ?_
        refine zw_goto (tgt := 44) hX dX16_number_97 (by decide) ?_
        refine zw_sub (lv' := [(0, .ref a0), (2, .int (i2 + (1 : Int32)))]) (List.forall_mem_cons.mpr ⟨rfl, (List.forall_mem_cons.mpr ⟨rfl, zs_nil⟩)⟩) ?_
        exact ih _ _ h
set_option maxHeartbeats 4000000 in
set_option maxRecDepth 100000 in
theorem zt_X16_number_L112 {p : Program} {l : Launch} {e : Env} {R : Room} {s : State} {m : MethodId} {args : Array Value} {below : List Frame} {meth : Method} {c : Code} {V : zm_V} {mc ms d rc rs : Nat} (hX : zm_X p R s m args meth c RX16 "number" cX16_number 4 zk_E V mc ms) (hr : meth.sig.returnType = none) (hR : R.frames = d ∧ R.locals = 64 * d) (hd : 3 ≤ d) {N : Nat} {res : (Unit × zm_S) ⊕ ((Unit) × zm_S)} {out : (Unit × zm_S)} (a0 : Nat) (i2 : Int32) (hf : ∀ o, res = .inl o → o = out) (hk : ∀ (S' : zm_S), res = .inr ((), S') → zw p l e R s m args below meth c (vx_MQ below (zm_Qc zk_E V (zo_v out)) (zm_XC zk_E V zo_x) args s mc ms (fun q => V.2.2.2.1 ≤ q)) 4 zk_E V mc ms 153 [(0, .ref a0), (2, .int i2)] [] S' rc rs) : ∀ (n : Nat) (i3 : Int32) (S : zm_S), zf_X16_number_L112 N n a0 i2 i3 S = some res → zw p l e R s m args below meth c (vx_MQ below (zm_Qc zk_E V (zo_v out)) (zm_XC zk_E V zo_x) args s mc ms (fun q => V.2.2.2.1 ≤ q)) 4 zk_E V mc ms 112 [(0, .ref a0), (2, .int i2), (3, .int i3)] [] S rc rs := by
  intro n
  induction n with
  | zero => intro i3 S h; cases h
  | succ n ih =>
    intro i3 S h
    rw [zf_X16_number_L112] at h
    refine zw_iload_n hX dX16_number_112 rfl ?_
    refine zw_aload_n hX dX16_number_113 rfl ?_
    obtain ⟨v23, g, h⟩ := zb_some h
    refine zw_geti hX zl_X16_118 dX16_number_114 g ?_
    refine zw_icmp_gt (tgt := 153) hX dX16_number_117 (by decide) (fun c117 => ?_) (fun c117 => ?_)
    · rw [if_pos c117] at h
      refine zw_sub (lv' := [(0, .ref a0), (2, .int i2)]) (List.forall_mem_cons.mpr ⟨rfl, (List.forall_mem_cons.mpr ⟨rfl, zs_nil⟩)⟩) ?_
      exact hk  _ (Option.some.inj h).symm
    · rw [if_neg c117] at h
      refine zw_aload_n hX dX16_number_120 rfl ?_
      obtain ⟨b24, g, h⟩ := zb_some h
      refine zw_getr hX zl_X16_41 dX16_number_121 g ?_
      refine zw_bipush (v := (42 : Int32)) hX dX16_number_124 (by decide) ?_
      refine zw_iload_n hX dX16_number_126 rfl ?_
      refine zw_imul hX dX16_number_127 ?_
      refine zw_iload_n hX dX16_number_128 rfl ?_
      refine zw_iadd hX dX16_number_129 ?_
      refine zw_aload_n hX dX16_number_130 rfl ?_
      obtain ⟨b25, g, h⟩ := zb_some h
      refine zw_getr hX zl_X16_83 dX16_number_131 g ?_
      refine zw_aload_n hX dX16_number_134 rfl ?_
      obtain ⟨b26, g, h⟩ := zb_some h
      refine zw_getr hX zl_X16_41 dX16_number_135 g ?_
      refine zw_bipush (v := (42 : Int32)) hX dX16_number_138 (by decide) ?_
      refine zw_iload_n hX dX16_number_140 rfl ?_
      refine zw_imul hX dX16_number_141 ?_
      refine zw_iload_n hX dX16_number_142 rfl ?_
      refine zw_iadd hX dX16_number_143 ?_
      obtain ⟨v27, g, h⟩ := zb_some h
      refine zw_xi hX dX16_number_144 g ?_
      obtain ⟨v28, g, h⟩ := zb_some h
      refine zw_xi hX dX16_number_145 g ?_
      obtain ⟨S29, g, h⟩ := zb_some h
      refine zw_si hX dX16_number_146 g ?_
      refine zw_iinc (v := (i3 + (1 : Int32))) hX dX16_number_147 rfl rfl (by decide) ?_
      refine zw_goto (tgt := 112) hX dX16_number_150 (by decide) ?_
      refine zw_sub (lv' := [(0, .ref a0), (2, .int i2), (3, .int (i3 + (1 : Int32)))]) (List.forall_mem_cons.mpr ⟨rfl, (List.forall_mem_cons.mpr ⟨rfl, (List.forall_mem_cons.mpr ⟨rfl, zs_nil⟩)⟩)⟩) ?_
      exact ih _ _ h
set_option maxHeartbeats 4000000 in
set_option maxRecDepth 100000 in
theorem zt_X16_number_L102 {p : Program} {l : Launch} {e : Env} {R : Room} {s : State} {m : MethodId} {args : Array Value} {below : List Frame} {meth : Method} {c : Code} {V : zm_V} {mc ms d rc rs : Nat} (hX : zm_X p R s m args meth c RX16 "number" cX16_number 4 zk_E V mc ms) (hr : meth.sig.returnType = none) (hR : R.frames = d ∧ R.locals = 64 * d) (hd : 3 ≤ d) {N : Nat} {res : (Unit × zm_S) ⊕ ((Unit) × zm_S)} {out : (Unit × zm_S)} (a0 : Nat) (hf : ∀ o, res = .inl o → o = out) (hk : ∀ (S' : zm_S), res = .inr ((), S') → zw p l e R s m args below meth c (vx_MQ below (zm_Qc zk_E V (zo_v out)) (zm_XC zk_E V zo_x) args s mc ms (fun q => V.2.2.2.1 ≤ q)) 4 zk_E V mc ms 159 [] [] S' rc rs) : ∀ (n : Nat) (i2 : Int32) (S : zm_S), zf_X16_number_L102 N n a0 i2 S = some res → zw p l e R s m args below meth c (vx_MQ below (zm_Qc zk_E V (zo_v out)) (zm_XC zk_E V zo_x) args s mc ms (fun q => V.2.2.2.1 ≤ q)) 4 zk_E V mc ms 102 [(0, .ref a0), (2, .int i2)] [] S rc rs := by
  intro n
  induction n with
  | zero => intro i2 S h; cases h
  | succ n ih =>
    intro i2 S h
    rw [zf_X16_number_L102] at h
    refine zw_iload_n hX dX16_number_102 rfl ?_
    refine zw_aload_n hX dX16_number_103 rfl ?_
    obtain ⟨v22, g, h⟩ := zb_some h
    refine zw_geti hX zl_X16_115 dX16_number_104 g ?_
    refine zw_icmp_gt (tgt := 159) hX dX16_number_107 (by decide) (fun c107 => ?_) (fun c107 => ?_)
    · rw [if_pos c107] at h
      refine zw_sub (lv' := []) zs_nil ?_
      exact hk  _ (Option.some.inj h).symm
    · rw [if_neg c107] at h
      refine zw_iconst (v := (0 : Int32)) hX dX16_number_110 (by decide) ?_
      refine zw_istore_n hX dX16_number_111 (by decide) ?_
      obtain ⟨r, g, h⟩ := zb_some h
      refine zw_sub (lv' := [(0, .ref a0), (2, .int i2), (3, .int (0 : Int32))]) (List.forall_mem_cons.mpr ⟨rfl, (List.forall_mem_cons.mpr ⟨rfl, (List.forall_mem_cons.mpr ⟨rfl, zs_nil⟩)⟩)⟩) ?_
      refine zt_X16_number_L112 hX hr hR hd (res := r) (out := out) a0 i2 ?_ ?_ N _ _ g
      · intro o ho
        subst ho
        exact hf _ (Option.some.inj h).symm
      · intro  S30 hx
        subst hx
        try dsimp only at h
        refine zw_iinc (v := (i2 + (1 : Int32))) hX dX16_number_153 rfl rfl (by decide) ?_
        refine zw_goto (tgt := 102) hX dX16_number_156 (by decide) ?_
        refine zw_sub (lv' := [(0, .ref a0), (2, .int (i2 + (1 : Int32)))]) (List.forall_mem_cons.mpr ⟨rfl, (List.forall_mem_cons.mpr ⟨rfl, zs_nil⟩)⟩) ?_
        exact ih _ _ h
set_option maxHeartbeats 4000000 in
set_option maxRecDepth 100000 in
theorem zt_X16_number {l : Launch} {V : zm_V} {N : Nat} {S : zm_S} {out : (Unit × zm_S)} {d : Nat} {a0 : Nat} (hd : 3 ≤ d) (h : zf_X16_number N a0 S = some out) : zm_Met l zk_E V yX16_number (.code yX16_number cX16_number 4 none) d [.ref a0] S 0 0 (zo_v out) zo_x := by
  refine zm_of (by decide +kernel) (Nat.le_of_ble_eq_true rfl) ?_
  intro p e R s m args below meth c hRR hX hr hxt
  have hR : R.frames = d ∧ R.locals = 64 * d := by rw [hRR]; exact ⟨rfl, rfl⟩
  have hX : zm_X p R s m args meth c RX16 "number" cX16_number 4 zk_E V 0 0 := hX
  unfold zf_X16_number at h
  refine zw_sub (lv' := [(0, .ref a0)]) (List.forall_mem_cons.mpr ⟨rfl, zs_nil⟩) ?_
  refine zw_aload_n hX dX16_number_0 rfl ?_
  refine zw_iconst (v := (0 : Int32)) hX dX16_number_1 (by decide) ?_
  obtain ⟨S1, g, h⟩ := zb_some h
  refine zw_putv hX zl_X16_171 zt_16_17 dX16_number_2 rfl rfl g ?_
  refine zw_aload_n hX dX16_number_5 rfl ?_
  obtain ⟨b2, g, h⟩ := zb_some h
  refine zw_getr hX zl_X16_41 dX16_number_6 g ?_
  refine zw_iconst (v := (0 : Int32)) hX dX16_number_9 (by decide) ?_
  obtain ⟨v3, g, h⟩ := zb_some h
  refine zw_xi hX dX16_number_10 g ?_
  refine zw_istore_n hX dX16_number_11 (by decide) ?_
  refine zw_iconst (v := (0 : Int32)) hX dX16_number_12 (by decide) ?_
  refine zw_istore_n hX dX16_number_13 (by decide) ?_
  obtain ⟨r, g, h⟩ := zb_some h
  refine zw_sub (lv' := [(0, .ref a0), (1, .int v3), (2, .int (0 : Int32))]) (List.forall_mem_cons.mpr ⟨rfl, (List.forall_mem_cons.mpr ⟨rfl, (List.forall_mem_cons.mpr ⟨rfl, zs_nil⟩)⟩)⟩) ?_
  refine zt_X16_number_L14 hX hr hR hd (res := r) (out := out) a0 v3 ?_ ?_ N _ _ g
  · intro o ho
    subst ho
    exact Option.some.inj h
  · intro  S6 hx
    subst hx
    try dsimp only at h
    refine zw_aload_n hX dX16_number_35 rfl ?_
    obtain ⟨b7, g, h⟩ := zb_some h
    refine zw_getr hX zl_X16_83 dX16_number_36 g ?_
    refine zw_iload_n hX dX16_number_39 rfl ?_
    refine zw_iconst (v := (-1 : Int32)) hX dX16_number_40 (by decide) ?_
    obtain ⟨S8, g, h⟩ := zb_some h
    refine zw_si hX dX16_number_41 g ?_
    refine zw_iconst (v := (0 : Int32)) hX dX16_number_42 (by decide) ?_
    refine zw_istore_n hX dX16_number_43 (by decide) ?_
    obtain ⟨r, g, h⟩ := zb_some h
    refine zw_sub (lv' := [(0, .ref a0), (2, .int (0 : Int32))]) (List.forall_mem_cons.mpr ⟨rfl, (List.forall_mem_cons.mpr ⟨rfl, zs_nil⟩)⟩) ?_
    refine zt_X16_number_L44 hX hr hR hd (res := r) (out := out) a0 ?_ ?_ N _ _ g
    · intro o ho
      subst ho
      exact Option.some.inj h
    · intro  S21 hx
      subst hx
      try dsimp only at h
      refine zw_iconst (v := (0 : Int32)) hX dX16_number_100 (by decide) ?_
      refine zw_istore_n hX dX16_number_101 (by decide) ?_
      obtain ⟨r, g, h⟩ := zb_some h
      refine zw_sub (lv' := [(0, .ref a0), (2, .int (0 : Int32))]) (List.forall_mem_cons.mpr ⟨rfl, (List.forall_mem_cons.mpr ⟨rfl, zs_nil⟩)⟩) ?_
      refine zt_X16_number_L102 hX hr hR hd (res := r) (out := out) a0 ?_ ?_ N _ _ g
      · intro o ho
        subst ho
        exact Option.some.inj h
      · intro  S31 hx
        subst hx
        try dsimp only at h
        obtain rfl := Option.some.inj h
        exact zw_vret hX hr dX16_number_159 ⟨rfl, rfl⟩
set_option maxHeartbeats 4000000 in
set_option maxRecDepth 100000 in
theorem zt_X16_turn {l : Launch} {V : zm_V} {N : Nat} {S : zm_S} {out : (Unit × zm_S)} {d : Nat} {a0 : Nat} (hd : 1 ≤ d) (h : zf_X16_turn N a0 S = some out) : zm_Met l zk_E V yX16_turn (.code yX16_turn cX16_turn 2 none) d [.ref a0] S 0 0 (zo_v out) zo_x := by
  refine zm_of (by decide +kernel) (Nat.le_of_ble_eq_true rfl) ?_
  intro p e R s m args below meth c hRR hX hr hxt
  have hR : R.frames = d ∧ R.locals = 64 * d := by rw [hRR]; exact ⟨rfl, rfl⟩
  have hX : zm_X p R s m args meth c RX16 "turn" cX16_turn 2 zk_E V 0 0 := hX
  unfold zf_X16_turn at h
  refine zw_sub (lv' := [(0, .ref a0)]) (List.forall_mem_cons.mpr ⟨rfl, zs_nil⟩) ?_
  refine zw_aload_n hX dX16_turn_0 rfl ?_
  obtain ⟨b1, g, h⟩ := zb_some h
  refine zw_getr hX zl_X16_44 dX16_turn_1 g ?_
  refine zw_astore_n hX dX16_turn_4 (by decide) ?_
  refine zw_aload_n hX dX16_turn_5 rfl ?_
  refine zw_aload_n hX dX16_turn_6 rfl ?_
  obtain ⟨b2, g, h⟩ := zb_some h
  refine zw_getr hX zl_X16_35 dX16_turn_7 g ?_
  obtain ⟨S3, g, h⟩ := zb_some h
  refine zw_putv hX zl_X16_44 zt_16_21 dX16_turn_10 rfl rfl g ?_
  refine zw_aload_n hX dX16_turn_13 rfl ?_
  refine zw_aload_n hX dX16_turn_14 rfl ?_
  obtain ⟨S4, g, h⟩ := zb_some h
  refine zw_putv hX zl_X16_35 zt_16_14 dX16_turn_15 rfl rfl g ?_
  refine zw_aload_n hX dX16_turn_18 rfl ?_
  obtain ⟨b5, g, h⟩ := zb_some h
  refine zw_getr hX zl_X16_47 dX16_turn_19 g ?_
  refine zw_astore_n hX dX16_turn_22 (by decide) ?_
  refine zw_aload_n hX dX16_turn_23 rfl ?_
  refine zw_aload_n hX dX16_turn_24 rfl ?_
  obtain ⟨b6, g, h⟩ := zb_some h
  refine zw_getr hX zl_X16_38 dX16_turn_25 g ?_
  obtain ⟨S7, g, h⟩ := zb_some h
  refine zw_putv hX zl_X16_47 zt_16_22 dX16_turn_28 rfl rfl g ?_
  refine zw_aload_n hX dX16_turn_31 rfl ?_
  refine zw_aload_n hX dX16_turn_32 rfl ?_
  obtain ⟨S8, g, h⟩ := zb_some h
  refine zw_putv hX zl_X16_38 zt_16_15 dX16_turn_33 rfl rfl g ?_
  refine zw_aload_n hX dX16_turn_36 rfl ?_
  obtain ⟨b9, g, h⟩ := zb_some h
  refine zw_getr hX zl_X16_50 dX16_turn_37 g ?_
  refine zw_astore_n hX dX16_turn_40 (by decide) ?_
  refine zw_aload_n hX dX16_turn_41 rfl ?_
  refine zw_aload_n hX dX16_turn_42 rfl ?_
  obtain ⟨b10, g, h⟩ := zb_some h
  refine zw_getr hX zl_X16_41 dX16_turn_43 g ?_
  obtain ⟨S11, g, h⟩ := zb_some h
  refine zw_putv hX zl_X16_50 zt_16_23 dX16_turn_46 rfl rfl g ?_
  refine zw_aload_n hX dX16_turn_49 rfl ?_
  refine zw_aload_n hX dX16_turn_50 rfl ?_
  obtain ⟨S12, g, h⟩ := zb_some h
  refine zw_putv hX zl_X16_41 zt_16_16 dX16_turn_51 rfl rfl g ?_
  refine zw_aload_n hX dX16_turn_54 rfl ?_
  obtain ⟨b13, g, h⟩ := zb_some h
  refine zw_getr hX zl_X16_56 dX16_turn_55 g ?_
  refine zw_astore_n hX dX16_turn_58 (by decide) ?_
  refine zw_aload_n hX dX16_turn_59 rfl ?_
  refine zw_aload_n hX dX16_turn_60 rfl ?_
  obtain ⟨b14, g, h⟩ := zb_some h
  refine zw_getr hX zl_X16_53 dX16_turn_61 g ?_
  obtain ⟨S15, g, h⟩ := zb_some h
  refine zw_putv hX zl_X16_56 zt_16_26 dX16_turn_64 rfl rfl g ?_
  refine zw_aload_n hX dX16_turn_67 rfl ?_
  refine zw_aload_n hX dX16_turn_68 rfl ?_
  obtain ⟨S16, g, h⟩ := zb_some h
  refine zw_putv hX zl_X16_53 zt_16_25 dX16_turn_69 rfl rfl g ?_
  refine zw_aload_n hX dX16_turn_72 rfl ?_
  refine zw_aload_n hX dX16_turn_73 rfl ?_
  obtain ⟨v17, g, h⟩ := zb_some h
  refine zw_geti hX zl_X16_118 dX16_turn_74 g ?_
  obtain ⟨S18, g, h⟩ := zb_some h
  refine zw_putv hX zl_X16_174 zt_16_19 dX16_turn_77 rfl rfl g ?_
  refine zw_aload_n hX dX16_turn_80 rfl ?_
  refine zw_aload_n hX dX16_turn_81 rfl ?_
  obtain ⟨v19, g, h⟩ := zb_some h
  refine zw_geti hX zl_X16_115 dX16_turn_82 g ?_
  obtain ⟨S20, g, h⟩ := zb_some h
  refine zw_putv hX zl_X16_177 zt_16_20 dX16_turn_85 rfl rfl g ?_
  refine zw_aload_n hX dX16_turn_88 rfl ?_
  refine zw_aload_n hX dX16_turn_89 rfl ?_
  obtain ⟨v21, g, h⟩ := zb_some h
  refine zw_geti hX zl_X16_171 dX16_turn_90 g ?_
  obtain ⟨S22, g, h⟩ := zb_some h
  refine zw_putv hX zl_X16_180 zt_16_24 dX16_turn_93 rfl rfl g ?_
  refine zw_aload_n hX dX16_turn_96 rfl ?_
  refine zw_aload_n hX dX16_turn_97 rfl ?_
  obtain ⟨v23, g, h⟩ := zb_some h
  refine zw_geti hX zl_X16_183 dX16_turn_98 g ?_
  obtain ⟨S24, g, h⟩ := zb_some h
  obtain ⟨gz, g⟩ := zp_z_spec g
  refine zw_putv hX zl_X16_186 zt_16_18 dX16_turn_101 (zn_z gz) (zf_z gz) g ?_
  obtain rfl := Option.some.inj h
  exact zw_vret hX hr dX16_turn_104 ⟨rfl, rfl⟩
set_option maxHeartbeats 4000000 in
set_option maxRecDepth 100000 in
theorem zt_X16_shared_J22 {p : Program} {l : Launch} {e : Env} {R : Room} {s : State} {m : MethodId} {args : Array Value} {below : List Frame} {meth : Method} {c : Code} {V : zm_V} {mc ms d rc rs : Nat} (hX : zm_X p R s m args meth c RX16 "shared" cX16_shared 6 zk_E V mc ms) (hr : meth.sig.returnType = (some .int)) (hR : R.frames = d ∧ R.locals = 64 * d) (hd : 1 ≤ d) {N : Nat} {i4 : Int32} {t0 : Int32} {out : (Int32 × zm_S)} {S : zm_S} (h : zf_X16_shared_J22 N i4 t0 S = some out) : zw p l e R s m args below meth c (vx_MQ below (zm_Qc zk_E V (zo_i out)) (zm_XC zk_E V zo_x) args s mc ms (fun q => V.2.2.2.1 ≤ q)) 6 zk_E V mc ms 22 [(4, .int i4)] [.int t0] S rc rs := by
  unfold zf_X16_shared_J22 at h
  refine zw_istore hX dX16_shared_22 (by decide) ?_
  refine zw_iload hX dX16_shared_24 rfl ?_
  refine zw_iload hX dX16_shared_26 rfl ?_
  refine zw_icmp_le (tgt := 39) hX dX16_shared_28 (by decide) (fun c28 => ?_) (fun c28 => ?_)
  · rw [if_pos c28] at h
    refine zw_iconst (v := (0 : Int32)) hX dX16_shared_39 (by decide) ?_
    obtain rfl := Option.some.inj h
    exact zw_iret hX hr dX16_shared_40 rfl ⟨rfl, rfl⟩
  · rw [if_neg c28] at h
    refine zw_iload hX dX16_shared_31 rfl ?_
    refine zw_iload hX dX16_shared_33 rfl ?_
    refine zw_isub hX dX16_shared_35 ?_
    refine zw_goto (tgt := 40) hX dX16_shared_36 (by decide) ?_
    obtain rfl := Option.some.inj h
    exact zw_iret hX hr dX16_shared_40 rfl ⟨rfl, rfl⟩
set_option maxHeartbeats 4000000 in
set_option maxRecDepth 100000 in
theorem zt_X16_shared_J10 {p : Program} {l : Launch} {e : Env} {R : Room} {s : State} {m : MethodId} {args : Array Value} {below : List Frame} {meth : Method} {c : Code} {V : zm_V} {mc ms d rc rs : Nat} (hX : zm_X p R s m args meth c RX16 "shared" cX16_shared 6 zk_E V mc ms) (hr : meth.sig.returnType = (some .int)) (hR : R.frames = d ∧ R.locals = 64 * d) (hd : 1 ≤ d) {N : Nat} {i1 : Int32} {i3 : Int32} {t0 : Int32} {out : (Int32 × zm_S)} {S : zm_S} (h : zf_X16_shared_J10 N i1 i3 t0 S = some out) : zw p l e R s m args below meth c (vx_MQ below (zm_Qc zk_E V (zo_i out)) (zm_XC zk_E V zo_x) args s mc ms (fun q => V.2.2.2.1 ≤ q)) 6 zk_E V mc ms 10 [(1, .int i1), (3, .int i3)] [.int t0] S rc rs := by
  unfold zf_X16_shared_J10 at h
  refine zw_istore hX dX16_shared_10 (by decide) ?_
  refine zw_iload_n hX dX16_shared_12 rfl ?_
  refine zw_iload_n hX dX16_shared_13 rfl ?_
  refine zw_icmp_ge (tgt := 21) hX dX16_shared_14 (by decide) (fun c14 => ?_) (fun c14 => ?_)
  · rw [if_pos c14] at h
    refine zw_iload_n hX dX16_shared_21 rfl ?_
    refine zw_sub (lv' := [(4, .int t0)]) (List.forall_mem_cons.mpr ⟨rfl, zs_nil⟩) ?_
    exact zt_X16_shared_J22 hX hr hR hd h
  · rw [if_neg c14] at h
    refine zw_iload_n hX dX16_shared_17 rfl ?_
    refine zw_goto (tgt := 22) hX dX16_shared_18 (by decide) ?_
    refine zw_sub (lv' := [(4, .int t0)]) (List.forall_mem_cons.mpr ⟨rfl, zs_nil⟩) ?_
    exact zt_X16_shared_J22 hX hr hR hd h
set_option maxHeartbeats 4000000 in
set_option maxRecDepth 100000 in
theorem zt_X16_shared {l : Launch} {V : zm_V} {N : Nat} {S : zm_S} {out : (Int32 × zm_S)} {d : Nat} {i0 : Int32} {i1 : Int32} {i2 : Int32} {i3 : Int32} (hd : 1 ≤ d) (h : zf_X16_shared N i0 i1 i2 i3 S = some out) : zm_Met l zk_E V yX16_shared (.code yX16_shared cX16_shared 6 (some .int)) d [.int i0, .int i1, .int i2, .int i3] S 0 0 (zo_i out) zo_x := by
  refine zm_of (by decide +kernel) (Nat.le_of_ble_eq_true rfl) ?_
  intro p e R s m args below meth c hRR hX hr hxt
  have hR : R.frames = d ∧ R.locals = 64 * d := by rw [hRR]; exact ⟨rfl, rfl⟩
  have hX : zm_X p R s m args meth c RX16 "shared" cX16_shared 6 zk_E V 0 0 := hX
  unfold zf_X16_shared at h
  refine zw_sub (lv' := [(0, .int i0), (1, .int i1), (2, .int i2), (3, .int i3)]) (List.forall_mem_cons.mpr ⟨rfl, (List.forall_mem_cons.mpr ⟨rfl, (List.forall_mem_cons.mpr ⟨rfl, (List.forall_mem_cons.mpr ⟨rfl, zs_nil⟩)⟩)⟩)⟩) ?_
  refine zw_iload_n hX dX16_shared_0 rfl ?_
  refine zw_iload_n hX dX16_shared_1 rfl ?_
  refine zw_icmp_le (tgt := 9) hX dX16_shared_2 (by decide) (fun c2 => ?_) (fun c2 => ?_)
  · rw [if_pos c2] at h
    refine zw_iload_n hX dX16_shared_9 rfl ?_
    refine zw_sub (lv' := [(1, .int i1), (3, .int i3)]) (List.forall_mem_cons.mpr ⟨rfl, (List.forall_mem_cons.mpr ⟨rfl, zs_nil⟩)⟩) ?_
    exact zt_X16_shared_J10 hX hr hR hd h
  · rw [if_neg c2] at h
    refine zw_iload_n hX dX16_shared_5 rfl ?_
    refine zw_goto (tgt := 10) hX dX16_shared_6 (by decide) ?_
    refine zw_sub (lv' := [(1, .int i1), (3, .int i3)]) (List.forall_mem_cons.mpr ⟨rfl, (List.forall_mem_cons.mpr ⟨rfl, zs_nil⟩)⟩) ?_
    exact zt_X16_shared_J10 hX hr hR hd h
set_option maxHeartbeats 4000000 in
set_option maxRecDepth 100000 in
theorem zt_X16_common_J169 {p : Program} {l : Launch} {e : Env} {R : Room} {s : State} {m : MethodId} {args : Array Value} {below : List Frame} {meth : Method} {c : Code} {V : zm_V} {mc ms d rc rs : Nat} (hX : zm_X p R s m args meth c RX16 "common" cX16_common 9 zk_E V mc ms) (hr : meth.sig.returnType = (some .int)) (hR : R.frames = d ∧ R.locals = 64 * d) (hd : 2 ≤ d) {N : Nat} {k : Nat → Int32 → Int32 → Int32 → Int32 → Int32 → Int32 → Int32 → Int32 → zm_S → Option ((Int32 × zm_S) ⊕ ((Int32) × zm_S))} {a0 : Nat} {i1 : Int32} {i2 : Int32} {i4 : Int32} {i5 : Int32} {i6 : Int32} {i7 : Int32} {i8 : Int32} {t0 : Int32} {t1 : Int32} {res : (Int32 × zm_S) ⊕ ((Int32) × zm_S)} {out : (Int32 × zm_S)}   (hf : ∀ o, res = .inl o → o = out) (hk : ∀ (x3 : Int32) (S' : zm_S), res = .inr (x3, S') → zw p l e R s m args below meth c (vx_MQ below (zm_Qc zk_E V (zo_i out)) (zm_XC zk_E V zo_x) args s mc ms (fun q => V.2.2.2.1 ≤ q)) 9 zk_E V mc ms 177 [(0, .ref a0), (1, .int i1), (2, .int i2), (3, .int x3), (4, .int i4), (5, .int i5), (6, .int i6)] [] S' rc rs) (hrec : ∀ (i3' : Int32) (i8' : Int32) (S : zm_S), k a0 i1 i2 i3' i4 i5 i6 i7 i8' S = some res → zw p l e R s m args below meth c (vx_MQ below (zm_Qc zk_E V (zo_i out)) (zm_XC zk_E V zo_x) args s mc ms (fun q => V.2.2.2.1 ≤ q)) 9 zk_E V mc ms 95 [(0, .ref a0), (1, .int i1), (2, .int i2), (3, .int i3'), (4, .int i4), (5, .int i5), (6, .int i6), (7, .int i7), (8, .int i8')] [] S rc rs) {S : zm_S} (h : zf_X16_common_J169 N k a0 i1 i2 i4 i5 i6 i7 i8 t0 t1 S = some res) : zw p l e R s m args below meth c (vx_MQ below (zm_Qc zk_E V (zo_i out)) (zm_XC zk_E V zo_x) args s mc ms (fun q => V.2.2.2.1 ≤ q)) 9 zk_E V mc ms 169 [(0, .ref a0), (1, .int i1), (2, .int i2), (4, .int i4), (5, .int i5), (6, .int i6), (7, .int i7), (8, .int i8)] [.int t1, .int t0] S rc rs := by
  unfold zf_X16_common_J169 at h
  refine zw_iadd hX dX16_common_169 ?_
  refine zw_istore_n hX dX16_common_170 (by decide) ?_
  refine zw_iinc (v := (i8 + (1 : Int32))) hX dX16_common_171 rfl rfl (by decide) ?_
  refine zw_goto (tgt := 95) hX dX16_common_174 (by decide) ?_
  refine zw_sub (lv' := [(0, .ref a0), (1, .int i1), (2, .int i2), (3, .int (t0 + t1)), (4, .int i4), (5, .int i5), (6, .int i6), (7, .int i7), (8, .int (i8 + (1 : Int32)))]) (List.forall_mem_cons.mpr ⟨rfl, (List.forall_mem_cons.mpr ⟨rfl, (List.forall_mem_cons.mpr ⟨rfl, (List.forall_mem_cons.mpr ⟨rfl, (List.forall_mem_cons.mpr ⟨rfl, (List.forall_mem_cons.mpr ⟨rfl, (List.forall_mem_cons.mpr ⟨rfl, (List.forall_mem_cons.mpr ⟨rfl, (List.forall_mem_cons.mpr ⟨rfl, zs_nil⟩)⟩)⟩)⟩)⟩)⟩)⟩)⟩)⟩) ?_
  exact hrec _ _ _ h
set_option maxHeartbeats 4000000 in
set_option maxRecDepth 100000 in
theorem zt_X16_common_L95 {p : Program} {l : Launch} {e : Env} {R : Room} {s : State} {m : MethodId} {args : Array Value} {below : List Frame} {meth : Method} {c : Code} {V : zm_V} {mc ms d rc rs : Nat} (hX : zm_X p R s m args meth c RX16 "common" cX16_common 9 zk_E V mc ms) (hr : meth.sig.returnType = (some .int)) (hR : R.frames = d ∧ R.locals = 64 * d) (hd : 2 ≤ d) {N : Nat} {res : (Int32 × zm_S) ⊕ ((Int32) × zm_S)} {out : (Int32 × zm_S)} (a0 : Nat) (i1 : Int32) (i2 : Int32) (i4 : Int32) (i5 : Int32) (i6 : Int32) (i7 : Int32) (hf : ∀ o, res = .inl o → o = out) (hk : ∀ (x3 : Int32) (S' : zm_S), res = .inr (x3, S') → zw p l e R s m args below meth c (vx_MQ below (zm_Qc zk_E V (zo_i out)) (zm_XC zk_E V zo_x) args s mc ms (fun q => V.2.2.2.1 ≤ q)) 9 zk_E V mc ms 177 [(0, .ref a0), (1, .int i1), (2, .int i2), (3, .int x3), (4, .int i4), (5, .int i5), (6, .int i6)] [] S' rc rs) : ∀ (n : Nat) (i3 : Int32) (i8 : Int32) (S : zm_S), zf_X16_common_L95 N n a0 i1 i2 i3 i4 i5 i6 i7 i8 S = some res → zw p l e R s m args below meth c (vx_MQ below (zm_Qc zk_E V (zo_i out)) (zm_XC zk_E V zo_x) args s mc ms (fun q => V.2.2.2.1 ≤ q)) 9 zk_E V mc ms 95 [(0, .ref a0), (1, .int i1), (2, .int i2), (3, .int i3), (4, .int i4), (5, .int i5), (6, .int i6), (7, .int i7), (8, .int i8)] [] S rc rs := by
  intro n
  induction n with
  | zero => intro i3 i8 S h; cases h
  | succ n ih =>
    intro i3 i8 S h
    rw [zf_X16_common_L95] at h
    refine zw_iload hX dX16_common_95 rfl ?_
    refine zw_aload_n hX dX16_common_97 rfl ?_
    obtain ⟨v16, g, h⟩ := zb_some h
    refine zw_geti hX zl_X16_174 dX16_common_98 g ?_
    refine zw_icmp_ge (tgt := 177) hX dX16_common_101 (by decide) (fun c101 => ?_) (fun c101 => ?_)
    · rw [if_pos c101] at h
      refine zw_sub (lv' := [(0, .ref a0), (1, .int i1), (2, .int i2), (3, .int i3), (4, .int i4), (5, .int i5), (6, .int i6)]) (List.forall_mem_cons.mpr ⟨rfl, (List.forall_mem_cons.mpr ⟨rfl, (List.forall_mem_cons.mpr ⟨rfl, (List.forall_mem_cons.mpr ⟨rfl, (List.forall_mem_cons.mpr ⟨rfl, (List.forall_mem_cons.mpr ⟨rfl, (List.forall_mem_cons.mpr ⟨rfl, zs_nil⟩)⟩)⟩)⟩)⟩)⟩)⟩) ?_
      exact hk _ _ (Option.some.inj h).symm
    · rw [if_neg c101] at h
      refine zw_iload hX dX16_common_104 rfl ?_
      refine zw_if_le (tgt := 177) hX dX16_common_106 (by decide) (fun c106 => ?_) (fun c106 => ?_)
      · rw [if_pos c106] at h
        refine zw_sub (lv' := [(0, .ref a0), (1, .int i1), (2, .int i2), (3, .int i3), (4, .int i4), (5, .int i5), (6, .int i6)]) (List.forall_mem_cons.mpr ⟨rfl, (List.forall_mem_cons.mpr ⟨rfl, (List.forall_mem_cons.mpr ⟨rfl, (List.forall_mem_cons.mpr ⟨rfl, (List.forall_mem_cons.mpr ⟨rfl, (List.forall_mem_cons.mpr ⟨rfl, (List.forall_mem_cons.mpr ⟨rfl, zs_nil⟩)⟩)⟩)⟩)⟩)⟩)⟩) ?_
        exact hk _ _ (Option.some.inj h).symm
      · rw [if_neg c106] at h
        refine zw_iload_n hX dX16_common_109 rfl ?_
        refine zw_aload_n hX dX16_common_110 rfl ?_
        obtain ⟨b17, g, h⟩ := zb_some h
        refine zw_getr hX zl_X16_50 dX16_common_111 g ?_
        refine zw_bipush (v := (42 : Int32)) hX dX16_common_114 (by decide) ?_
        refine zw_iload hX dX16_common_116 rfl ?_
        refine zw_imul hX dX16_common_118 ?_
        refine zw_iload hX dX16_common_119 rfl ?_
        refine zw_iadd hX dX16_common_121 ?_
        obtain ⟨v18, g, h⟩ := zb_some h
        refine zw_xi hX dX16_common_122 g ?_
        refine zw_iload_n hX dX16_common_123 rfl ?_
        refine zw_icmp_ne (tgt := 168) hX dX16_common_124 (by decide) (fun c124 => ?_) (fun c124 => ?_)
        · rw [if_neg c124] at h
          refine zw_iconst (v := (0 : Int32)) hX dX16_common_168 (by decide) ?_
          refine zw_sub (lv' := [(0, .ref a0), (1, .int i1), (2, .int i2), (4, .int i4), (5, .int i5), (6, .int i6), (7, .int i7), (8, .int i8)]) (List.forall_mem_cons.mpr ⟨rfl, (List.forall_mem_cons.mpr ⟨rfl, (List.forall_mem_cons.mpr ⟨rfl, (List.forall_mem_cons.mpr ⟨rfl, (List.forall_mem_cons.mpr ⟨rfl, (List.forall_mem_cons.mpr ⟨rfl, (List.forall_mem_cons.mpr ⟨rfl, (List.forall_mem_cons.mpr ⟨rfl, zs_nil⟩)⟩)⟩)⟩)⟩)⟩)⟩)⟩) ?_
          exact zt_X16_common_J169 hX hr hR hd hf hk ih h
        · rw [if_pos c124] at h
          refine zw_iload hX dX16_common_127 rfl ?_
          refine zw_aload_n hX dX16_common_129 rfl ?_
          obtain ⟨b19, g, h⟩ := zb_some h
          refine zw_getr hX zl_X16_35 dX16_common_130 g ?_
          refine zw_iload hX dX16_common_133 rfl ?_
          refine zw_iconst (v := (1 : Int32)) hX dX16_common_135 (by decide) ?_
          refine zw_isub hX dX16_common_136 ?_
          obtain ⟨v20, g, h⟩ := zb_some h
          refine zw_xi hX dX16_common_137 g ?_
          refine zw_aload_n hX dX16_common_138 rfl ?_
          obtain ⟨b21, g, h⟩ := zb_some h
          refine zw_getr hX zl_X16_35 dX16_common_139 g ?_
          refine zw_iload hX dX16_common_142 rfl ?_
          obtain ⟨v22, g, h⟩ := zb_some h
          refine zw_xi hX dX16_common_144 g ?_
          refine zw_aload_n hX dX16_common_145 rfl ?_
          obtain ⟨b23, g, h⟩ := zb_some h
          refine zw_getr hX zl_X16_44 dX16_common_146 g ?_
          refine zw_iload hX dX16_common_149 rfl ?_
          refine zw_iconst (v := (1 : Int32)) hX dX16_common_151 (by decide) ?_
          refine zw_isub hX dX16_common_152 ?_
          obtain ⟨v24, g, h⟩ := zb_some h
          refine zw_xi hX dX16_common_153 g ?_
          refine zw_aload_n hX dX16_common_154 rfl ?_
          obtain ⟨b25, g, h⟩ := zb_some h
          refine zw_getr hX zl_X16_44 dX16_common_155 g ?_
          refine zw_iload hX dX16_common_158 rfl ?_
          obtain ⟨v26, g, h⟩ := zb_some h
          refine zw_xi hX dX16_common_160 g ?_
          obtain ⟨r28, g, h⟩ := zb_some h
          refine zc_Si (as := [.int v20, .int v22, .int v24, .int v26]) hX (zt_X16_shared (d := d - 1) (by omega) g) zl_X16_214 dX16_common_161 ⟨rfl, rfl, Nat.le_of_ble_eq_true rfl⟩ ⟨by omega, by omega⟩ ?_
          refine zw_imul hX dX16_common_164 ?_
          refine zw_goto (tgt := 169) hX dX16_common_165 (by decide) ?_
          refine zw_sub (lv' := [(0, .ref a0), (1, .int i1), (2, .int i2), (4, .int i4), (5, .int i5), (6, .int i6), (7, .int i7), (8, .int i8)]) (List.forall_mem_cons.mpr ⟨rfl, (List.forall_mem_cons.mpr ⟨rfl, (List.forall_mem_cons.mpr ⟨rfl, (List.forall_mem_cons.mpr ⟨rfl, (List.forall_mem_cons.mpr ⟨rfl, (List.forall_mem_cons.mpr ⟨rfl, (List.forall_mem_cons.mpr ⟨rfl, (List.forall_mem_cons.mpr ⟨rfl, zs_nil⟩)⟩)⟩)⟩)⟩)⟩)⟩)⟩) ?_
          exact zt_X16_common_J169 hX hr hR hd hf hk ih h
set_option maxHeartbeats 4000000 in
set_option maxRecDepth 100000 in
theorem zt_X16_common_L29 {p : Program} {l : Launch} {e : Env} {R : Room} {s : State} {m : MethodId} {args : Array Value} {below : List Frame} {meth : Method} {c : Code} {V : zm_V} {mc ms d rc rs : Nat} (hX : zm_X p R s m args meth c RX16 "common" cX16_common 9 zk_E V mc ms) (hr : meth.sig.returnType = (some .int)) (hR : R.frames = d ∧ R.locals = 64 * d) (hd : 2 ≤ d) {N : Nat} {res : (Int32 × zm_S) ⊕ ((Int32) × zm_S)} {out : (Int32 × zm_S)} (a0 : Nat) (i1 : Int32) (i2 : Int32) (i4 : Int32) (i5 : Int32) (hf : ∀ o, res = .inl o → o = out) (hk : ∀ (x3 : Int32) (S' : zm_S), res = .inr (x3, S') → zw p l e R s m args below meth c (vx_MQ below (zm_Qc zk_E V (zo_i out)) (zm_XC zk_E V zo_x) args s mc ms (fun q => V.2.2.2.1 ≤ q)) 9 zk_E V mc ms 183 [(0, .ref a0), (1, .int i1), (2, .int i2), (3, .int x3), (4, .int i4), (5, .int i5)] [] S' rc rs) : ∀ (n : Nat) (i3 : Int32) (i6 : Int32) (S : zm_S), zf_X16_common_L29 N n a0 i1 i2 i3 i4 i5 i6 S = some res → zw p l e R s m args below meth c (vx_MQ below (zm_Qc zk_E V (zo_i out)) (zm_XC zk_E V zo_x) args s mc ms (fun q => V.2.2.2.1 ≤ q)) 9 zk_E V mc ms 29 [(0, .ref a0), (1, .int i1), (2, .int i2), (3, .int i3), (4, .int i4), (5, .int i5), (6, .int i6)] [] S rc rs := by
  intro n
  induction n with
  | zero => intro i3 i6 S h; cases h
  | succ n ih =>
    intro i3 i6 S h
    rw [zf_X16_common_L29] at h
    refine zw_iload hX dX16_common_29 rfl ?_
    refine zw_aload_n hX dX16_common_31 rfl ?_
    obtain ⟨v3, g, h⟩ := zb_some h
    refine zw_geti hX zl_X16_177 dX16_common_32 g ?_
    refine zw_icmp_ge (tgt := 183) hX dX16_common_35 (by decide) (fun c35 => ?_) (fun c35 => ?_)
    · rw [if_pos c35] at h
      refine zw_sub (lv' := [(0, .ref a0), (1, .int i1), (2, .int i2), (3, .int i3), (4, .int i4), (5, .int i5)]) (List.forall_mem_cons.mpr ⟨rfl, (List.forall_mem_cons.mpr ⟨rfl, (List.forall_mem_cons.mpr ⟨rfl, (List.forall_mem_cons.mpr ⟨rfl, (List.forall_mem_cons.mpr ⟨rfl, (List.forall_mem_cons.mpr ⟨rfl, zs_nil⟩)⟩)⟩)⟩)⟩)⟩) ?_
      exact hk _ _ (Option.some.inj h).symm
    · rw [if_neg c35] at h
      refine zw_aload_n hX dX16_common_38 rfl ?_
      obtain ⟨b4, g, h⟩ := zb_some h
      refine zw_getr hX zl_X16_41 dX16_common_39 g ?_
      refine zw_bipush (v := (42 : Int32)) hX dX16_common_42 (by decide) ?_
      refine zw_iload hX dX16_common_44 rfl ?_
      refine zw_imul hX dX16_common_46 ?_
      refine zw_iload hX dX16_common_47 rfl ?_
      refine zw_iadd hX dX16_common_49 ?_
      obtain ⟨v5, g, h⟩ := zb_some h
      refine zw_xi hX dX16_common_50 g ?_
      refine zw_iload_n hX dX16_common_51 rfl ?_
      refine zw_icmp_ne (tgt := 183) hX dX16_common_52 (by decide) (fun c52 => ?_) (fun c52 => ?_)
      · rw [if_neg c52] at h
        refine zw_sub (lv' := [(0, .ref a0), (1, .int i1), (2, .int i2), (3, .int i3), (4, .int i4), (5, .int i5)]) (List.forall_mem_cons.mpr ⟨rfl, (List.forall_mem_cons.mpr ⟨rfl, (List.forall_mem_cons.mpr ⟨rfl, (List.forall_mem_cons.mpr ⟨rfl, (List.forall_mem_cons.mpr ⟨rfl, (List.forall_mem_cons.mpr ⟨rfl, zs_nil⟩)⟩)⟩)⟩)⟩)⟩) ?_
        exact hk _ _ (Option.some.inj h).symm
      · rw [if_pos c52] at h
        refine zw_aload_n hX dX16_common_55 rfl ?_
        obtain ⟨b6, g, h⟩ := zb_some h
        refine zw_getr hX zl_X16_38 dX16_common_56 g ?_
        refine zw_iload hX dX16_common_59 rfl ?_
        refine zw_iconst (v := (1 : Int32)) hX dX16_common_61 (by decide) ?_
        refine zw_isub hX dX16_common_62 ?_
        obtain ⟨v7, g, h⟩ := zb_some h
        refine zw_xi hX dX16_common_63 g ?_
        refine zw_aload_n hX dX16_common_64 rfl ?_
        obtain ⟨b8, g, h⟩ := zb_some h
        refine zw_getr hX zl_X16_38 dX16_common_65 g ?_
        refine zw_iload hX dX16_common_68 rfl ?_
        obtain ⟨v9, g, h⟩ := zb_some h
        refine zw_xi hX dX16_common_70 g ?_
        refine zw_aload_n hX dX16_common_71 rfl ?_
        obtain ⟨b10, g, h⟩ := zb_some h
        refine zw_getr hX zl_X16_47 dX16_common_72 g ?_
        refine zw_iload hX dX16_common_75 rfl ?_
        refine zw_iconst (v := (1 : Int32)) hX dX16_common_77 (by decide) ?_
        refine zw_isub hX dX16_common_78 ?_
        obtain ⟨v11, g, h⟩ := zb_some h
        refine zw_xi hX dX16_common_79 g ?_
        refine zw_aload_n hX dX16_common_80 rfl ?_
        obtain ⟨b12, g, h⟩ := zb_some h
        refine zw_getr hX zl_X16_47 dX16_common_81 g ?_
        refine zw_iload hX dX16_common_84 rfl ?_
        obtain ⟨v13, g, h⟩ := zb_some h
        refine zw_xi hX dX16_common_86 g ?_
        obtain ⟨r15, g, h⟩ := zb_some h
        refine zc_Si (as := [.int v7, .int v9, .int v11, .int v13]) hX (zt_X16_shared (d := d - 1) (by omega) g) zl_X16_214 dX16_common_87 ⟨rfl, rfl, Nat.le_of_ble_eq_true rfl⟩ ⟨by omega, by omega⟩ ?_
        refine zw_istore hX dX16_common_90 (by decide) ?_
        refine zw_iconst (v := (1 : Int32)) hX dX16_common_92 (by decide) ?_
        refine zw_istore hX dX16_common_93 (by decide) ?_
        obtain ⟨r, g, h⟩ := zb_some h
        refine zw_sub (lv' := [(0, .ref a0), (1, .int i1), (2, .int i2), (3, .int i3), (4, .int i4), (5, .int i5), (6, .int i6), (7, .int r15.1), (8, .int (1 : Int32))]) (List.forall_mem_cons.mpr ⟨rfl, (List.forall_mem_cons.mpr ⟨rfl, (List.forall_mem_cons.mpr ⟨rfl, (List.forall_mem_cons.mpr ⟨rfl, (List.forall_mem_cons.mpr ⟨rfl, (List.forall_mem_cons.mpr ⟨rfl, (List.forall_mem_cons.mpr ⟨rfl, (List.forall_mem_cons.mpr ⟨rfl, (List.forall_mem_cons.mpr ⟨rfl, zs_nil⟩)⟩)⟩)⟩)⟩)⟩)⟩)⟩)⟩) ?_
        refine zt_X16_common_L95 hX hr hR hd (res := r) (out := out) a0 i1 i2 i4 i5 i6 r15.1 ?_ ?_ N _ _ _ g
        · intro o ho
          subst ho
          exact hf _ (Option.some.inj h).symm
        · intro v30 S29 hx
          subst hx
          try dsimp only at h
          refine zw_iinc (v := (i6 + (1 : Int32))) hX dX16_common_177 rfl rfl (by decide) ?_
          refine zw_goto (tgt := 29) hX dX16_common_180 (by decide) ?_
          refine zw_sub (lv' := [(0, .ref a0), (1, .int i1), (2, .int i2), (3, .int v30), (4, .int i4), (5, .int i5), (6, .int (i6 + (1 : Int32)))]) (List.forall_mem_cons.mpr ⟨rfl, (List.forall_mem_cons.mpr ⟨rfl, (List.forall_mem_cons.mpr ⟨rfl, (List.forall_mem_cons.mpr ⟨rfl, (List.forall_mem_cons.mpr ⟨rfl, (List.forall_mem_cons.mpr ⟨rfl, (List.forall_mem_cons.mpr ⟨rfl, zs_nil⟩)⟩)⟩)⟩)⟩)⟩)⟩) ?_
          exact ih _ _ _ h
set_option maxHeartbeats 4000000 in
set_option maxRecDepth 100000 in
theorem zt_X16_common_L17 {p : Program} {l : Launch} {e : Env} {R : Room} {s : State} {m : MethodId} {args : Array Value} {below : List Frame} {meth : Method} {c : Code} {V : zm_V} {mc ms d rc rs : Nat} (hX : zm_X p R s m args meth c RX16 "common" cX16_common 9 zk_E V mc ms) (hr : meth.sig.returnType = (some .int)) (hR : R.frames = d ∧ R.locals = 64 * d) (hd : 2 ≤ d) {N : Nat} {res : (Int32 × zm_S) ⊕ ((Int32) × zm_S)} {out : (Int32 × zm_S)} (a0 : Nat) (i1 : Int32) (i2 : Int32) (i4 : Int32) (hf : ∀ o, res = .inl o → o = out) (hk : ∀ (x3 : Int32) (S' : zm_S), res = .inr (x3, S') → zw p l e R s m args below meth c (vx_MQ below (zm_Qc zk_E V (zo_i out)) (zm_XC zk_E V zo_x) args s mc ms (fun q => V.2.2.2.1 ≤ q)) 9 zk_E V mc ms 189 [(0, .ref a0), (1, .int i1), (2, .int i2), (3, .int x3), (4, .int i4)] [] S' rc rs) : ∀ (n : Nat) (i3 : Int32) (i5 : Int32) (S : zm_S), zf_X16_common_L17 N n a0 i1 i2 i3 i4 i5 S = some res → zw p l e R s m args below meth c (vx_MQ below (zm_Qc zk_E V (zo_i out)) (zm_XC zk_E V zo_x) args s mc ms (fun q => V.2.2.2.1 ≤ q)) 9 zk_E V mc ms 17 [(0, .ref a0), (1, .int i1), (2, .int i2), (3, .int i3), (4, .int i4), (5, .int i5)] [] S rc rs := by
  intro n
  induction n with
  | zero => intro i3 i5 S h; cases h
  | succ n ih =>
    intro i3 i5 S h
    rw [zf_X16_common_L17] at h
    refine zw_iload hX dX16_common_17 rfl ?_
    refine zw_aload_n hX dX16_common_19 rfl ?_
    obtain ⟨v2, g, h⟩ := zb_some h
    refine zw_geti hX zl_X16_118 dX16_common_20 g ?_
    refine zw_icmp_ge (tgt := 189) hX dX16_common_23 (by decide) (fun c23 => ?_) (fun c23 => ?_)
    · rw [if_pos c23] at h
      refine zw_sub (lv' := [(0, .ref a0), (1, .int i1), (2, .int i2), (3, .int i3), (4, .int i4)]) (List.forall_mem_cons.mpr ⟨rfl, (List.forall_mem_cons.mpr ⟨rfl, (List.forall_mem_cons.mpr ⟨rfl, (List.forall_mem_cons.mpr ⟨rfl, (List.forall_mem_cons.mpr ⟨rfl, zs_nil⟩)⟩)⟩)⟩)⟩) ?_
      exact hk _ _ (Option.some.inj h).symm
    · rw [if_neg c23] at h
      refine zw_iconst (v := (1 : Int32)) hX dX16_common_26 (by decide) ?_
      refine zw_istore hX dX16_common_27 (by decide) ?_
      obtain ⟨r, g, h⟩ := zb_some h
      refine zw_sub (lv' := [(0, .ref a0), (1, .int i1), (2, .int i2), (3, .int i3), (4, .int i4), (5, .int i5), (6, .int (1 : Int32))]) (List.forall_mem_cons.mpr ⟨rfl, (List.forall_mem_cons.mpr ⟨rfl, (List.forall_mem_cons.mpr ⟨rfl, (List.forall_mem_cons.mpr ⟨rfl, (List.forall_mem_cons.mpr ⟨rfl, (List.forall_mem_cons.mpr ⟨rfl, (List.forall_mem_cons.mpr ⟨rfl, zs_nil⟩)⟩)⟩)⟩)⟩)⟩)⟩) ?_
      refine zt_X16_common_L29 hX hr hR hd (res := r) (out := out) a0 i1 i2 i4 i5 ?_ ?_ N _ _ _ g
      · intro o ho
        subst ho
        exact hf _ (Option.some.inj h).symm
      · intro v32 S31 hx
        subst hx
        try dsimp only at h
        refine zw_iinc (v := (i5 + (1 : Int32))) hX dX16_common_183 rfl rfl (by decide) ?_
        refine zw_goto (tgt := 17) hX dX16_common_186 (by decide) ?_
        refine zw_sub (lv' := [(0, .ref a0), (1, .int i1), (2, .int i2), (3, .int v32), (4, .int i4), (5, .int (i5 + (1 : Int32)))]) (List.forall_mem_cons.mpr ⟨rfl, (List.forall_mem_cons.mpr ⟨rfl, (List.forall_mem_cons.mpr ⟨rfl, (List.forall_mem_cons.mpr ⟨rfl, (List.forall_mem_cons.mpr ⟨rfl, (List.forall_mem_cons.mpr ⟨rfl, zs_nil⟩)⟩)⟩)⟩)⟩)⟩) ?_
        exact ih _ _ _ h
set_option maxHeartbeats 4000000 in
set_option maxRecDepth 100000 in
theorem zt_X16_common_L5 {p : Program} {l : Launch} {e : Env} {R : Room} {s : State} {m : MethodId} {args : Array Value} {below : List Frame} {meth : Method} {c : Code} {V : zm_V} {mc ms d rc rs : Nat} (hX : zm_X p R s m args meth c RX16 "common" cX16_common 9 zk_E V mc ms) (hr : meth.sig.returnType = (some .int)) (hR : R.frames = d ∧ R.locals = 64 * d) (hd : 2 ≤ d) {N : Nat} {res : (Int32 × zm_S) ⊕ ((Int32) × zm_S)} {out : (Int32 × zm_S)} (a0 : Nat) (i1 : Int32) (i2 : Int32) (hf : ∀ o, res = .inl o → o = out) (hk : ∀ (x3 : Int32) (S' : zm_S), res = .inr (x3, S') → zw p l e R s m args below meth c (vx_MQ below (zm_Qc zk_E V (zo_i out)) (zm_XC zk_E V zo_x) args s mc ms (fun q => V.2.2.2.1 ≤ q)) 9 zk_E V mc ms 195 [(3, .int x3)] [] S' rc rs) : ∀ (n : Nat) (i3 : Int32) (i4 : Int32) (S : zm_S), zf_X16_common_L5 N n a0 i1 i2 i3 i4 S = some res → zw p l e R s m args below meth c (vx_MQ below (zm_Qc zk_E V (zo_i out)) (zm_XC zk_E V zo_x) args s mc ms (fun q => V.2.2.2.1 ≤ q)) 9 zk_E V mc ms 5 [(0, .ref a0), (1, .int i1), (2, .int i2), (3, .int i3), (4, .int i4)] [] S rc rs := by
  intro n
  induction n with
  | zero => intro i3 i4 S h; cases h
  | succ n ih =>
    intro i3 i4 S h
    rw [zf_X16_common_L5] at h
    refine zw_iload hX dX16_common_5 rfl ?_
    refine zw_aload_n hX dX16_common_7 rfl ?_
    obtain ⟨v1, g, h⟩ := zb_some h
    refine zw_geti hX zl_X16_115 dX16_common_8 g ?_
    refine zw_icmp_ge (tgt := 195) hX dX16_common_11 (by decide) (fun c11 => ?_) (fun c11 => ?_)
    · rw [if_pos c11] at h
      refine zw_sub (lv' := [(3, .int i3)]) (List.forall_mem_cons.mpr ⟨rfl, zs_nil⟩) ?_
      exact hk _ _ (Option.some.inj h).symm
    · rw [if_neg c11] at h
      refine zw_iconst (v := (1 : Int32)) hX dX16_common_14 (by decide) ?_
      refine zw_istore hX dX16_common_15 (by decide) ?_
      obtain ⟨r, g, h⟩ := zb_some h
      refine zw_sub (lv' := [(0, .ref a0), (1, .int i1), (2, .int i2), (3, .int i3), (4, .int i4), (5, .int (1 : Int32))]) (List.forall_mem_cons.mpr ⟨rfl, (List.forall_mem_cons.mpr ⟨rfl, (List.forall_mem_cons.mpr ⟨rfl, (List.forall_mem_cons.mpr ⟨rfl, (List.forall_mem_cons.mpr ⟨rfl, (List.forall_mem_cons.mpr ⟨rfl, zs_nil⟩)⟩)⟩)⟩)⟩)⟩) ?_
      refine zt_X16_common_L17 hX hr hR hd (res := r) (out := out) a0 i1 i2 i4 ?_ ?_ N _ _ _ g
      · intro o ho
        subst ho
        exact hf _ (Option.some.inj h).symm
      · intro v34 S33 hx
        subst hx
        try dsimp only at h
        refine zw_iinc (v := (i4 + (1 : Int32))) hX dX16_common_189 rfl rfl (by decide) ?_
        refine zw_goto (tgt := 5) hX dX16_common_192 (by decide) ?_
        refine zw_sub (lv' := [(0, .ref a0), (1, .int i1), (2, .int i2), (3, .int v34), (4, .int (i4 + (1 : Int32)))]) (List.forall_mem_cons.mpr ⟨rfl, (List.forall_mem_cons.mpr ⟨rfl, (List.forall_mem_cons.mpr ⟨rfl, (List.forall_mem_cons.mpr ⟨rfl, (List.forall_mem_cons.mpr ⟨rfl, zs_nil⟩)⟩)⟩)⟩)⟩) ?_
        exact ih _ _ _ h
set_option maxHeartbeats 4000000 in
set_option maxRecDepth 100000 in
theorem zt_X16_common {l : Launch} {V : zm_V} {N : Nat} {S : zm_S} {out : (Int32 × zm_S)} {d : Nat} {a0 : Nat} {i1 : Int32} {i2 : Int32} (hd : 2 ≤ d) (h : zf_X16_common N a0 i1 i2 S = some out) : zm_Met l zk_E V yX16_common (.code yX16_common cX16_common 9 (some .int)) d [.ref a0, .int i1, .int i2] S 0 0 (zo_i out) zo_x := by
  refine zm_of (by decide +kernel) (Nat.le_of_ble_eq_true rfl) ?_
  intro p e R s m args below meth c hRR hX hr hxt
  have hR : R.frames = d ∧ R.locals = 64 * d := by rw [hRR]; exact ⟨rfl, rfl⟩
  have hX : zm_X p R s m args meth c RX16 "common" cX16_common 9 zk_E V 0 0 := hX
  unfold zf_X16_common at h
  refine zw_sub (lv' := [(0, .ref a0), (1, .int i1), (2, .int i2)]) (List.forall_mem_cons.mpr ⟨rfl, (List.forall_mem_cons.mpr ⟨rfl, (List.forall_mem_cons.mpr ⟨rfl, zs_nil⟩)⟩)⟩) ?_
  refine zw_iconst (v := (0 : Int32)) hX dX16_common_0 (by decide) ?_
  refine zw_istore_n hX dX16_common_1 (by decide) ?_
  refine zw_iconst (v := (1 : Int32)) hX dX16_common_2 (by decide) ?_
  refine zw_istore hX dX16_common_3 (by decide) ?_
  obtain ⟨r, g, h⟩ := zb_some h
  refine zw_sub (lv' := [(0, .ref a0), (1, .int i1), (2, .int i2), (3, .int (0 : Int32)), (4, .int (1 : Int32))]) (List.forall_mem_cons.mpr ⟨rfl, (List.forall_mem_cons.mpr ⟨rfl, (List.forall_mem_cons.mpr ⟨rfl, (List.forall_mem_cons.mpr ⟨rfl, (List.forall_mem_cons.mpr ⟨rfl, zs_nil⟩)⟩)⟩)⟩)⟩) ?_
  refine zt_X16_common_L5 hX hr hR hd (res := r) (out := out) a0 i1 i2 ?_ ?_ N _ _ _ g
  · intro o ho
    subst ho
    exact Option.some.inj h
  · intro v36 S35 hx
    subst hx
    try dsimp only at h
    refine zw_iload_n hX dX16_common_195 rfl ?_
    obtain rfl := Option.some.inj h
    exact zw_iret hX hr dX16_common_196 rfl ⟨rfl, rfl⟩
set_option maxHeartbeats 4000000 in
set_option maxRecDepth 100000 in
theorem zt_X16_carry_L2 {p : Program} {l : Launch} {e : Env} {R : Room} {s : State} {m : MethodId} {args : Array Value} {below : List Frame} {meth : Method} {c : Code} {V : zm_V} {mc ms d rc rs : Nat} (hX : zm_X p R s m args meth c RX16 "carry" cX16_carry 6 zk_E V mc ms) (hr : meth.sig.returnType = none) (hR : R.frames = d ∧ R.locals = 64 * d) (hd : 3 ≤ d) {N : Nat} {res : (Unit × zm_S) ⊕ ((Unit) × zm_S)} {out : (Unit × zm_S)} (a0 : Nat) (hf : ∀ o, res = .inl o → o = out) (hk : ∀ (S' : zm_S), res = .inr ((), S') → zw p l e R s m args below meth c (vx_MQ below (zm_Qc zk_E V (zo_v out)) (zm_XC zk_E V zo_x) args s mc ms (fun q => V.2.2.2.1 ≤ q)) 6 zk_E V mc ms 23 [(0, .ref a0)] [] S' rc rs) : ∀ (n : Nat) (i1 : Int32) (S : zm_S), zf_X16_carry_L2 N n a0 i1 S = some res → zw p l e R s m args below meth c (vx_MQ below (zm_Qc zk_E V (zo_v out)) (zm_XC zk_E V zo_x) args s mc ms (fun q => V.2.2.2.1 ≤ q)) 6 zk_E V mc ms 2 [(0, .ref a0), (1, .int i1)] [] S rc rs := by
  intro n
  induction n with
  | zero => intro i1 S h; cases h
  | succ n ih =>
    intro i1 S h
    rw [zf_X16_carry_L2] at h
    refine zw_iload_n hX dX16_carry_2 rfl ?_
    refine zw_aload_n hX dX16_carry_3 rfl ?_
    obtain ⟨v1, g, h⟩ := zb_some h
    refine zw_geti hX zl_X16_171 dX16_carry_4 g ?_
    refine zw_icmp_ge (tgt := 23) hX dX16_carry_7 (by decide) (fun c7 => ?_) (fun c7 => ?_)
    · rw [if_pos c7] at h
      refine zw_sub (lv' := [(0, .ref a0)]) (List.forall_mem_cons.mpr ⟨rfl, zs_nil⟩) ?_
      exact hk  _ (Option.some.inj h).symm
    · rw [if_neg c7] at h
      refine zw_aload_n hX dX16_carry_10 rfl ?_
      obtain ⟨b2, g, h⟩ := zb_some h
      refine zw_getr hX zl_X16_86 dX16_carry_11 g ?_
      refine zw_iload_n hX dX16_carry_14 rfl ?_
      refine zw_iconst (v := (0 : Int32)) hX dX16_carry_15 (by decide) ?_
      obtain ⟨S3, g, h⟩ := zb_some h
      refine zw_si hX dX16_carry_16 g ?_
      refine zw_iinc (v := (i1 + (1 : Int32))) hX dX16_carry_17 rfl rfl (by decide) ?_
      refine zw_goto (tgt := 2) hX dX16_carry_20 (by decide) ?_
      refine zw_sub (lv' := [(0, .ref a0), (1, .int (i1 + (1 : Int32)))]) (List.forall_mem_cons.mpr ⟨rfl, (List.forall_mem_cons.mpr ⟨rfl, zs_nil⟩)⟩) ?_
      exact ih _ _ h
set_option maxHeartbeats 4000000 in
set_option maxRecDepth 100000 in
theorem zt_X16_carry_J79 {p : Program} {l : Launch} {e : Env} {R : Room} {s : State} {m : MethodId} {args : Array Value} {below : List Frame} {meth : Method} {c : Code} {V : zm_V} {mc ms d rc rs : Nat} (hX : zm_X p R s m args meth c RX16 "carry" cX16_carry 6 zk_E V mc ms) (hr : meth.sig.returnType = none) (hR : R.frames = d ∧ R.locals = 64 * d) (hd : 3 ≤ d) {N : Nat} {k : Nat → Int32 → Int32 → Int32 → Int32 → zm_S → Option ((Unit × zm_S) ⊕ ((Int32 × Int32) × zm_S))} {a0 : Nat} {i1 : Int32} {i3 : Int32} {i4 : Int32} {i5 : Int32} {t0 : Int32} {res : (Unit × zm_S) ⊕ ((Int32 × Int32) × zm_S)} {out : (Unit × zm_S)}   (hf : ∀ o, res = .inl o → o = out) (hk : ∀ (x2 : Int32) (x3 : Int32) (S' : zm_S), res = .inr ((x2, x3), S') → zw p l e R s m args below meth c (vx_MQ below (zm_Qc zk_E V (zo_v out)) (zm_XC zk_E V zo_x) args s mc ms (fun q => V.2.2.2.1 ≤ q)) 6 zk_E V mc ms 99 [(0, .ref a0), (1, .int i1), (2, .int x2), (3, .int x3)] [] S' rc rs) (hrec : ∀ (i2' : Int32) (i3' : Int32) (i4' : Int32) (S : zm_S), k a0 i1 i2' i3' i4' S = some res → zw p l e R s m args below meth c (vx_MQ below (zm_Qc zk_E V (zo_v out)) (zm_XC zk_E V zo_x) args s mc ms (fun q => V.2.2.2.1 ≤ q)) 6 zk_E V mc ms 40 [(0, .ref a0), (1, .int i1), (2, .int i2'), (3, .int i3'), (4, .int i4')] [] S rc rs) {S : zm_S} (h : zf_X16_carry_J79 N k a0 i1 i3 i4 i5 t0 S = some res) : zw p l e R s m args below meth c (vx_MQ below (zm_Qc zk_E V (zo_v out)) (zm_XC zk_E V zo_x) args s mc ms (fun q => V.2.2.2.1 ≤ q)) 6 zk_E V mc ms 79 [(0, .ref a0), (1, .int i1), (3, .int i3), (4, .int i4), (5, .int i5)] [.int t0] S rc rs := by
  unfold zf_X16_carry_J79 at h
  refine zw_istore_n hX dX16_carry_79 (by decide) ?_
  refine zw_iload hX dX16_carry_80 rfl ?_
  refine zw_iload_n hX dX16_carry_82 rfl ?_
  refine zw_icmp_le (tgt := 91) hX dX16_carry_83 (by decide) (fun c83 => ?_) (fun c83 => ?_)
  · rw [if_pos c83] at h
    refine zw_iload_n hX dX16_carry_91 rfl ?_
    refine zw_istore_n hX dX16_carry_92 (by decide) ?_
    refine zw_iinc (v := (i4 + (1 : Int32))) hX dX16_carry_93 rfl rfl (by decide) ?_
    refine zw_goto (tgt := 40) hX dX16_carry_96 (by decide) ?_
    refine zw_sub (lv' := [(0, .ref a0), (1, .int i1), (2, .int t0), (3, .int i3), (4, .int (i4 + (1 : Int32)))]) (List.forall_mem_cons.mpr ⟨rfl, (List.forall_mem_cons.mpr ⟨rfl, (List.forall_mem_cons.mpr ⟨rfl, (List.forall_mem_cons.mpr ⟨rfl, (List.forall_mem_cons.mpr ⟨rfl, zs_nil⟩)⟩)⟩)⟩)⟩) ?_
    exact hrec _ _ _ _ h
  · rw [if_neg c83] at h
    refine zw_iload hX dX16_carry_86 rfl ?_
    refine zw_goto (tgt := 92) hX dX16_carry_88 (by decide) ?_
    refine zw_istore_n hX dX16_carry_92 (by decide) ?_
    refine zw_iinc (v := (i4 + (1 : Int32))) hX dX16_carry_93 rfl rfl (by decide) ?_
    refine zw_goto (tgt := 40) hX dX16_carry_96 (by decide) ?_
    refine zw_sub (lv' := [(0, .ref a0), (1, .int i1), (2, .int t0), (3, .int i5), (4, .int (i4 + (1 : Int32)))]) (List.forall_mem_cons.mpr ⟨rfl, (List.forall_mem_cons.mpr ⟨rfl, (List.forall_mem_cons.mpr ⟨rfl, (List.forall_mem_cons.mpr ⟨rfl, (List.forall_mem_cons.mpr ⟨rfl, zs_nil⟩)⟩)⟩)⟩)⟩) ?_
    exact hrec _ _ _ _ h
set_option maxHeartbeats 4000000 in
set_option maxRecDepth 100000 in
theorem zt_X16_carry_L40 {p : Program} {l : Launch} {e : Env} {R : Room} {s : State} {m : MethodId} {args : Array Value} {below : List Frame} {meth : Method} {c : Code} {V : zm_V} {mc ms d rc rs : Nat} (hX : zm_X p R s m args meth c RX16 "carry" cX16_carry 6 zk_E V mc ms) (hr : meth.sig.returnType = none) (hR : R.frames = d ∧ R.locals = 64 * d) (hd : 3 ≤ d) {N : Nat} {res : (Unit × zm_S) ⊕ ((Int32 × Int32) × zm_S)} {out : (Unit × zm_S)} (a0 : Nat) (i1 : Int32) (hf : ∀ o, res = .inl o → o = out) (hk : ∀ (x2 : Int32) (x3 : Int32) (S' : zm_S), res = .inr ((x2, x3), S') → zw p l e R s m args below meth c (vx_MQ below (zm_Qc zk_E V (zo_v out)) (zm_XC zk_E V zo_x) args s mc ms (fun q => V.2.2.2.1 ≤ q)) 6 zk_E V mc ms 99 [(0, .ref a0), (1, .int i1), (2, .int x2), (3, .int x3)] [] S' rc rs) : ∀ (n : Nat) (i2 : Int32) (i3 : Int32) (i4 : Int32) (S : zm_S), zf_X16_carry_L40 N n a0 i1 i2 i3 i4 S = some res → zw p l e R s m args below meth c (vx_MQ below (zm_Qc zk_E V (zo_v out)) (zm_XC zk_E V zo_x) args s mc ms (fun q => V.2.2.2.1 ≤ q)) 6 zk_E V mc ms 40 [(0, .ref a0), (1, .int i1), (2, .int i2), (3, .int i3), (4, .int i4)] [] S rc rs := by
  intro n
  induction n with
  | zero => intro i2 i3 i4 S h; cases h
  | succ n ih =>
    intro i2 i3 i4 S h
    rw [zf_X16_carry_L40] at h
    refine zw_iload hX dX16_carry_40 rfl ?_
    refine zw_aload_n hX dX16_carry_42 rfl ?_
    obtain ⟨v6, g, h⟩ := zb_some h
    refine zw_geti hX zl_X16_171 dX16_carry_43 g ?_
    refine zw_icmp_ge (tgt := 99) hX dX16_carry_46 (by decide) (fun c46 => ?_) (fun c46 => ?_)
    · rw [if_pos c46] at h
      refine zw_sub (lv' := [(0, .ref a0), (1, .int i1), (2, .int i2), (3, .int i3)]) (List.forall_mem_cons.mpr ⟨rfl, (List.forall_mem_cons.mpr ⟨rfl, (List.forall_mem_cons.mpr ⟨rfl, (List.forall_mem_cons.mpr ⟨rfl, zs_nil⟩)⟩)⟩)⟩) ?_
      exact hk _ _ _ (Option.some.inj h).symm
    · rw [if_neg c46] at h
      refine zw_aload_n hX dX16_carry_49 rfl ?_
      obtain ⟨b7, g, h⟩ := zb_some h
      refine zw_getr hX zl_X16_56 dX16_carry_50 g ?_
      refine zw_iload_n hX dX16_carry_53 rfl ?_
      obtain ⟨v8, g, h⟩ := zb_some h
      refine zw_xi hX dX16_carry_54 g ?_
      refine zw_if_le (tgt := 99) hX dX16_carry_55 (by decide) (fun c55 => ?_) (fun c55 => ?_)
      · rw [if_pos c55] at h
        refine zw_sub (lv' := [(0, .ref a0), (1, .int i1), (2, .int i2), (3, .int i3)]) (List.forall_mem_cons.mpr ⟨rfl, (List.forall_mem_cons.mpr ⟨rfl, (List.forall_mem_cons.mpr ⟨rfl, (List.forall_mem_cons.mpr ⟨rfl, zs_nil⟩)⟩)⟩)⟩) ?_
        exact hk _ _ _ (Option.some.inj h).symm
      · rw [if_neg c55] at h
        refine zw_aload_n hX dX16_carry_58 rfl ?_
        refine zw_iload_n hX dX16_carry_59 rfl ?_
        refine zw_iload hX dX16_carry_60 rfl ?_
        obtain ⟨_, gi, h⟩ := zb_some h
        obtain ⟨r10, g, h⟩ := zb_some h
        refine zc_Vi (as := [.int i1, .int i4]) hX gi (zt_X16_common (d := d - 1) (by omega) g) zl_X16_218 rfl dX16_carry_62 ⟨rfl, rfl, Nat.le_of_ble_eq_true rfl⟩ ⟨by omega, by omega⟩ ?_
        refine zw_istore hX dX16_carry_65 (by decide) ?_
        refine zw_iload hX dX16_carry_67 rfl ?_
        refine zw_iload_n hX dX16_carry_69 rfl ?_
        refine zw_icmp_le (tgt := 78) hX dX16_carry_70 (by decide) (fun c70 => ?_) (fun c70 => ?_)
        · rw [if_pos c70] at h
          refine zw_iload_n hX dX16_carry_78 rfl ?_
          refine zw_sub (lv' := [(0, .ref a0), (1, .int i1), (3, .int i3), (4, .int i4), (5, .int r10.1)]) (List.forall_mem_cons.mpr ⟨rfl, (List.forall_mem_cons.mpr ⟨rfl, (List.forall_mem_cons.mpr ⟨rfl, (List.forall_mem_cons.mpr ⟨rfl, (List.forall_mem_cons.mpr ⟨rfl, zs_nil⟩)⟩)⟩)⟩)⟩) ?_
          exact zt_X16_carry_J79 hX hr hR hd hf hk ih h
        · rw [if_neg c70] at h
          refine zw_iload hX dX16_carry_73 rfl ?_
          refine zw_goto (tgt := 79) hX dX16_carry_75 (by decide) ?_
          refine zw_sub (lv' := [(0, .ref a0), (1, .int i1), (3, .int i3), (4, .int i4), (5, .int r10.1)]) (List.forall_mem_cons.mpr ⟨rfl, (List.forall_mem_cons.mpr ⟨rfl, (List.forall_mem_cons.mpr ⟨rfl, (List.forall_mem_cons.mpr ⟨rfl, (List.forall_mem_cons.mpr ⟨rfl, zs_nil⟩)⟩)⟩)⟩)⟩) ?_
          exact zt_X16_carry_J79 hX hr hR hd hf hk ih h
set_option maxHeartbeats 4000000 in
set_option maxRecDepth 100000 in
theorem zt_X16_carry_J99 {p : Program} {l : Launch} {e : Env} {R : Room} {s : State} {m : MethodId} {args : Array Value} {below : List Frame} {meth : Method} {c : Code} {V : zm_V} {mc ms d rc rs : Nat} (hX : zm_X p R s m args meth c RX16 "carry" cX16_carry 6 zk_E V mc ms) (hr : meth.sig.returnType = none) (hR : R.frames = d ∧ R.locals = 64 * d) (hd : 3 ≤ d) {N : Nat} {k : Nat → Int32 → zm_S → Option ((Unit × zm_S) ⊕ ((Unit) × zm_S))} {a0 : Nat} {i1 : Int32} {i2 : Int32} {i3 : Int32} {res : (Unit × zm_S) ⊕ ((Unit) × zm_S)} {out : (Unit × zm_S)}   (hf : ∀ o, res = .inl o → o = out) (hk : ∀ (S' : zm_S), res = .inr ((), S') → zw p l e R s m args below meth c (vx_MQ below (zm_Qc zk_E V (zo_v out)) (zm_XC zk_E V zo_x) args s mc ms (fun q => V.2.2.2.1 ≤ q)) 6 zk_E V mc ms 138 [] [] S' rc rs) (hrec : ∀ (i1' : Int32) (S : zm_S), k a0 i1' S = some res → zw p l e R s m args below meth c (vx_MQ below (zm_Qc zk_E V (zo_v out)) (zm_XC zk_E V zo_x) args s mc ms (fun q => V.2.2.2.1 ≤ q)) 6 zk_E V mc ms 25 [(0, .ref a0), (1, .int i1')] [] S rc rs) {S : zm_S} (h : zf_X16_carry_J99 N k a0 i1 i2 i3 S = some res) : zw p l e R s m args below meth c (vx_MQ below (zm_Qc zk_E V (zo_v out)) (zm_XC zk_E V zo_x) args s mc ms (fun q => V.2.2.2.1 ≤ q)) 6 zk_E V mc ms 99 [(0, .ref a0), (1, .int i1), (2, .int i2), (3, .int i3)] [] S rc rs := by
  unfold zf_X16_carry_J99 at h
  refine zw_iload_n hX dX16_carry_99 rfl ?_
  refine zw_if_lt (tgt := 132) hX dX16_carry_100 (by decide) (fun c100 => ?_) (fun c100 => ?_)
  · rw [if_pos c100] at h
    refine zw_iinc (v := (i1 + (1 : Int32))) hX dX16_carry_132 rfl rfl (by decide) ?_
    refine zw_goto (tgt := 25) hX dX16_carry_135 (by decide) ?_
    refine zw_sub (lv' := [(0, .ref a0), (1, .int (i1 + (1 : Int32)))]) (List.forall_mem_cons.mpr ⟨rfl, (List.forall_mem_cons.mpr ⟨rfl, zs_nil⟩)⟩) ?_
    exact hrec _ _ h
  · rw [if_neg c100] at h
    refine zw_iload_n hX dX16_carry_103 rfl ?_
    refine zw_aload_n hX dX16_carry_104 rfl ?_
    obtain ⟨b14, g, h⟩ := zb_some h
    refine zw_getr hX zl_X16_86 dX16_carry_105 g ?_
    refine zw_iload_n hX dX16_carry_108 rfl ?_
    obtain ⟨v15, g, h⟩ := zb_some h
    refine zw_xi hX dX16_carry_109 g ?_
    refine zw_icmp_le (tgt := 132) hX dX16_carry_110 (by decide) (fun c110 => ?_) (fun c110 => ?_)
    · rw [if_pos c110] at h
      refine zw_iinc (v := (i1 + (1 : Int32))) hX dX16_carry_132 rfl rfl (by decide) ?_
      refine zw_goto (tgt := 25) hX dX16_carry_135 (by decide) ?_
      refine zw_sub (lv' := [(0, .ref a0), (1, .int (i1 + (1 : Int32)))]) (List.forall_mem_cons.mpr ⟨rfl, (List.forall_mem_cons.mpr ⟨rfl, zs_nil⟩)⟩) ?_
      exact hrec _ _ h
    · rw [if_neg c110] at h
      refine zw_aload_n hX dX16_carry_113 rfl ?_
      obtain ⟨b16, g, h⟩ := zb_some h
      refine zw_getr hX zl_X16_86 dX16_carry_114 g ?_
      refine zw_iload_n hX dX16_carry_117 rfl ?_
      refine zw_iload_n hX dX16_carry_118 rfl ?_
      obtain ⟨S17, g, h⟩ := zb_some h
      refine zw_si hX dX16_carry_119 g ?_
      refine zw_aload_n hX dX16_carry_120 rfl ?_
      obtain ⟨b18, g, h⟩ := zb_some h
      refine zw_getr hX zl_X16_53 dX16_carry_121 g ?_
      refine zw_iload_n hX dX16_carry_124 rfl ?_
      refine zw_aload_n hX dX16_carry_125 rfl ?_
      obtain ⟨b19, g, h⟩ := zb_some h
      refine zw_getr hX zl_X16_56 dX16_carry_126 g ?_
      refine zw_iload_n hX dX16_carry_129 rfl ?_
      obtain ⟨v20, g, h⟩ := zb_some h
      refine zw_xi hX dX16_carry_130 g ?_
      obtain ⟨S21, g, h⟩ := zb_some h
      refine zw_si hX dX16_carry_131 g ?_
      refine zw_iinc (v := (i1 + (1 : Int32))) hX dX16_carry_132 rfl rfl (by decide) ?_
      refine zw_goto (tgt := 25) hX dX16_carry_135 (by decide) ?_
      refine zw_sub (lv' := [(0, .ref a0), (1, .int (i1 + (1 : Int32)))]) (List.forall_mem_cons.mpr ⟨rfl, (List.forall_mem_cons.mpr ⟨rfl, zs_nil⟩)⟩) ?_
      exact hrec _ _ h
set_option maxHeartbeats 4000000 in
set_option maxRecDepth 100000 in
theorem zt_X16_carry_L25 {p : Program} {l : Launch} {e : Env} {R : Room} {s : State} {m : MethodId} {args : Array Value} {below : List Frame} {meth : Method} {c : Code} {V : zm_V} {mc ms d rc rs : Nat} (hX : zm_X p R s m args meth c RX16 "carry" cX16_carry 6 zk_E V mc ms) (hr : meth.sig.returnType = none) (hR : R.frames = d ∧ R.locals = 64 * d) (hd : 3 ≤ d) {N : Nat} {res : (Unit × zm_S) ⊕ ((Unit) × zm_S)} {out : (Unit × zm_S)} (a0 : Nat) (hf : ∀ o, res = .inl o → o = out) (hk : ∀ (S' : zm_S), res = .inr ((), S') → zw p l e R s m args below meth c (vx_MQ below (zm_Qc zk_E V (zo_v out)) (zm_XC zk_E V zo_x) args s mc ms (fun q => V.2.2.2.1 ≤ q)) 6 zk_E V mc ms 138 [] [] S' rc rs) : ∀ (n : Nat) (i1 : Int32) (S : zm_S), zf_X16_carry_L25 N n a0 i1 S = some res → zw p l e R s m args below meth c (vx_MQ below (zm_Qc zk_E V (zo_v out)) (zm_XC zk_E V zo_x) args s mc ms (fun q => V.2.2.2.1 ≤ q)) 6 zk_E V mc ms 25 [(0, .ref a0), (1, .int i1)] [] S rc rs := by
  intro n
  induction n with
  | zero => intro i1 S h; cases h
  | succ n ih =>
    intro i1 S h
    rw [zf_X16_carry_L25] at h
    refine zw_iload_n hX dX16_carry_25 rfl ?_
    refine zw_aload_n hX dX16_carry_26 rfl ?_
    obtain ⟨v5, g, h⟩ := zb_some h
    refine zw_geti hX zl_X16_180 dX16_carry_27 g ?_
    refine zw_icmp_ge (tgt := 138) hX dX16_carry_30 (by decide) (fun c30 => ?_) (fun c30 => ?_)
    · rw [if_pos c30] at h
      refine zw_sub (lv' := []) zs_nil ?_
      exact hk  _ (Option.some.inj h).symm
    · rw [if_neg c30] at h
      refine zw_iconst (v := (-1 : Int32)) hX dX16_carry_33 (by decide) ?_
      refine zw_istore_n hX dX16_carry_34 (by decide) ?_
      refine zw_iconst (v := (0 : Int32)) hX dX16_carry_35 (by decide) ?_
      refine zw_istore_n hX dX16_carry_36 (by decide) ?_
      refine zw_iconst (v := (0 : Int32)) hX dX16_carry_37 (by decide) ?_
      refine zw_istore hX dX16_carry_38 (by decide) ?_
      obtain ⟨r, g, h⟩ := zb_some h
      refine zw_sub (lv' := [(0, .ref a0), (1, .int i1), (2, .int (-1 : Int32)), (3, .int (0 : Int32)), (4, .int (0 : Int32))]) (List.forall_mem_cons.mpr ⟨rfl, (List.forall_mem_cons.mpr ⟨rfl, (List.forall_mem_cons.mpr ⟨rfl, (List.forall_mem_cons.mpr ⟨rfl, (List.forall_mem_cons.mpr ⟨rfl, zs_nil⟩)⟩)⟩)⟩)⟩) ?_
      refine zt_X16_carry_L40 hX hr hR hd (res := r) (out := out) a0 i1 ?_ ?_ N _ _ _ _ g
      · intro o ho
        subst ho
        exact hf _ (Option.some.inj h).symm
      · intro v12 v13 S11 hx
        subst hx
        try dsimp only at h
        refine zw_sub (lv' := [(0, .ref a0), (1, .int i1), (2, .int v12), (3, .int v13)]) (List.forall_mem_cons.mpr ⟨rfl, (List.forall_mem_cons.mpr ⟨rfl, (List.forall_mem_cons.mpr ⟨rfl, (List.forall_mem_cons.mpr ⟨rfl, zs_nil⟩)⟩)⟩)⟩) ?_
        exact zt_X16_carry_J99 hX hr hR hd hf hk ih h
set_option maxHeartbeats 4000000 in
set_option maxRecDepth 100000 in
theorem zt_X16_carry {l : Launch} {V : zm_V} {N : Nat} {S : zm_S} {out : (Unit × zm_S)} {d : Nat} {a0 : Nat} (hd : 3 ≤ d) (h : zf_X16_carry N a0 S = some out) : zm_Met l zk_E V yX16_carry (.code yX16_carry cX16_carry 6 none) d [.ref a0] S 0 0 (zo_v out) zo_x := by
  refine zm_of (by decide +kernel) (Nat.le_of_ble_eq_true rfl) ?_
  intro p e R s m args below meth c hRR hX hr hxt
  have hR : R.frames = d ∧ R.locals = 64 * d := by rw [hRR]; exact ⟨rfl, rfl⟩
  have hX : zm_X p R s m args meth c RX16 "carry" cX16_carry 6 zk_E V 0 0 := hX
  unfold zf_X16_carry at h
  refine zw_sub (lv' := [(0, .ref a0)]) (List.forall_mem_cons.mpr ⟨rfl, zs_nil⟩) ?_
  refine zw_iconst (v := (0 : Int32)) hX dX16_carry_0 (by decide) ?_
  refine zw_istore_n hX dX16_carry_1 (by decide) ?_
  obtain ⟨r, g, h⟩ := zb_some h
  refine zw_sub (lv' := [(0, .ref a0), (1, .int (0 : Int32))]) (List.forall_mem_cons.mpr ⟨rfl, (List.forall_mem_cons.mpr ⟨rfl, zs_nil⟩)⟩) ?_
  refine zt_X16_carry_L2 hX hr hR hd (res := r) (out := out) a0 ?_ ?_ N _ _ g
  · intro o ho
    subst ho
    exact Option.some.inj h
  · intro  S4 hx
    subst hx
    try dsimp only at h
    refine zw_iconst (v := (0 : Int32)) hX dX16_carry_23 (by decide) ?_
    refine zw_istore_n hX dX16_carry_24 (by decide) ?_
    obtain ⟨r, g, h⟩ := zb_some h
    refine zw_sub (lv' := [(0, .ref a0), (1, .int (0 : Int32))]) (List.forall_mem_cons.mpr ⟨rfl, (List.forall_mem_cons.mpr ⟨rfl, zs_nil⟩)⟩) ?_
    refine zt_X16_carry_L25 hX hr hR hd (res := r) (out := out) a0 ?_ ?_ N _ _ g
    · intro o ho
      subst ho
      exact Option.some.inj h
    · intro  S22 hx
      subst hx
      try dsimp only at h
      obtain rfl := Option.some.inj h
      exact zw_vret hX hr dX16_carry_138 ⟨rfl, rfl⟩
set_option maxHeartbeats 4000000 in
set_option maxRecDepth 100000 in
theorem zt_X16_run_L26 {p : Program} {l : Launch} {e : Env} {R : Room} {s : State} {m : MethodId} {args : Array Value} {below : List Frame} {meth : Method} {c : Code} {V : zm_V} {mc ms d rc rs : Nat} (hX : zm_X p R s m args meth c RX16 "run" cX16_run 2 zk_E V mc ms) (hr : meth.sig.returnType = (some .int)) (hR : R.frames = d ∧ R.locals = 64 * d) (hd : 5 ≤ d) {N : Nat} {res : (Int32 × zm_S) ⊕ ((Unit) × zm_S)} {out : (Int32 × zm_S)} (a0 : Nat) (hf : ∀ o, res = .inl o → o = out) (hk : ∀ (S' : zm_S), res = .inr ((), S') → zw p l e R s m args below meth c (vx_MQ below (zm_Qc zk_E V (zo_i out)) (zm_XC zk_E V zo_x) args s mc ms (fun q => V.2.2.2.1 ≤ q)) 2 zk_E V mc ms 122 [(0, .ref a0)] [] S' rc rs) : ∀ (n : Nat) (i1 : Int32) (S : zm_S), zf_X16_run_L26 N n a0 i1 S = some res → zw p l e R s m args below meth c (vx_MQ below (zm_Qc zk_E V (zo_i out)) (zm_XC zk_E V zo_x) args s mc ms (fun q => V.2.2.2.1 ≤ q)) 2 zk_E V mc ms 26 [(0, .ref a0), (1, .int i1)] [] S rc rs := by
  intro n
  induction n with
  | zero => intro i1 S h; cases h
  | succ n ih =>
    intro i1 S h
    rw [zf_X16_run_L26] at h
    refine zw_iload_n hX dX16_run_26 rfl ?_
    refine zw_aload_n hX dX16_run_27 rfl ?_
    obtain ⟨v7, g, h⟩ := zb_some h
    refine zw_geti hX zl_X16_96 dX16_run_28 g ?_
    refine zw_icmp_ge (tgt := 122) hX dX16_run_31 (by decide) (fun c31 => ?_) (fun c31 => ?_)
    · rw [if_pos c31] at h
      refine zw_sub (lv' := [(0, .ref a0)]) (List.forall_mem_cons.mpr ⟨rfl, zs_nil⟩) ?_
      exact hk  _ (Option.some.inj h).symm
    · rw [if_neg c31] at h
      refine zw_aload_n hX dX16_run_34 rfl ?_
      refine zw_aload_n hX dX16_run_35 rfl ?_
      obtain ⟨b8, g, h⟩ := zb_some h
      refine zw_getr hX zl_X16_35 dX16_run_36 g ?_
      refine zw_aload_n hX dX16_run_39 rfl ?_
      obtain ⟨v9, g, h⟩ := zb_some h
      refine zw_geti hX zl_X16_118 dX16_run_40 g ?_
      refine zw_aload_n hX dX16_run_43 rfl ?_
      obtain ⟨b10, g, h⟩ := zb_some h
      refine zw_getr hX zl_X16_7 dX16_run_44 g ?_
      refine zw_iload_n hX dX16_run_47 rfl ?_
      obtain ⟨v11, g, h⟩ := zb_some h
      refine zw_xi hX dX16_run_48 g ?_
      obtain ⟨r13, g, h⟩ := zb_some h
      refine zc_Si (as := [.ref b8, .int v9, .int v11]) hX (zt_X16_insert (d := d - 1) (by omega) g) zl_X16_195 dX16_run_49 ⟨rfl, rfl, Nat.le_of_ble_eq_true rfl⟩ ⟨by omega, by omega⟩ ?_
      obtain ⟨S14, g, h⟩ := zb_some h
      refine zw_putv hX zl_X16_118 zt_16_12 dX16_run_52 rfl rfl g ?_
      refine zw_aload_n hX dX16_run_55 rfl ?_
      refine zw_aload_n hX dX16_run_56 rfl ?_
      obtain ⟨b15, g, h⟩ := zb_some h
      refine zw_getr hX zl_X16_35 dX16_run_57 g ?_
      refine zw_aload_n hX dX16_run_60 rfl ?_
      obtain ⟨v16, g, h⟩ := zb_some h
      refine zw_geti hX zl_X16_118 dX16_run_61 g ?_
      refine zw_aload_n hX dX16_run_64 rfl ?_
      refine zw_iload_n hX dX16_run_65 rfl ?_
      obtain ⟨_, gi, h⟩ := zb_some h
      obtain ⟨r18, g, h⟩ := zb_some h
      refine zc_Vi (as := [.int i1]) hX gi (zt_X16_highX (d := d - 1) (by omega) g) zl_X16_89 rfl dX16_run_66 ⟨rfl, rfl, Nat.le_of_ble_eq_true rfl⟩ ⟨by omega, by omega⟩ ?_
      obtain ⟨r20, g, h⟩ := zb_some h
      refine zc_Si (as := [.ref b15, .int v16, .int r18.1]) hX (zt_X16_insert (d := d - 1) (by omega) g) zl_X16_195 dX16_run_69 ⟨rfl, rfl, Nat.le_of_ble_eq_true rfl⟩ ⟨by omega, by omega⟩ ?_
      obtain ⟨S21, g, h⟩ := zb_some h
      refine zw_putv hX zl_X16_118 zt_16_12 dX16_run_72 rfl rfl g ?_
      refine zw_aload_n hX dX16_run_75 rfl ?_
      refine zw_aload_n hX dX16_run_76 rfl ?_
      obtain ⟨b22, g, h⟩ := zb_some h
      refine zw_getr hX zl_X16_38 dX16_run_77 g ?_
      refine zw_aload_n hX dX16_run_80 rfl ?_
      obtain ⟨v23, g, h⟩ := zb_some h
      refine zw_geti hX zl_X16_115 dX16_run_81 g ?_
      refine zw_aload_n hX dX16_run_84 rfl ?_
      obtain ⟨b24, g, h⟩ := zb_some h
      refine zw_getr hX zl_X16_13 dX16_run_85 g ?_
      refine zw_iload_n hX dX16_run_88 rfl ?_
      obtain ⟨v25, g, h⟩ := zb_some h
      refine zw_xi hX dX16_run_89 g ?_
      obtain ⟨r27, g, h⟩ := zb_some h
      refine zc_Si (as := [.ref b22, .int v23, .int v25]) hX (zt_X16_insert (d := d - 1) (by omega) g) zl_X16_195 dX16_run_90 ⟨rfl, rfl, Nat.le_of_ble_eq_true rfl⟩ ⟨by omega, by omega⟩ ?_
      obtain ⟨S28, g, h⟩ := zb_some h
      refine zw_putv hX zl_X16_115 zt_16_13 dX16_run_93 rfl rfl g ?_
      refine zw_aload_n hX dX16_run_96 rfl ?_
      refine zw_aload_n hX dX16_run_97 rfl ?_
      obtain ⟨b29, g, h⟩ := zb_some h
      refine zw_getr hX zl_X16_38 dX16_run_98 g ?_
      refine zw_aload_n hX dX16_run_101 rfl ?_
      obtain ⟨v30, g, h⟩ := zb_some h
      refine zw_geti hX zl_X16_115 dX16_run_102 g ?_
      refine zw_aload_n hX dX16_run_105 rfl ?_
      refine zw_iload_n hX dX16_run_106 rfl ?_
      obtain ⟨_, gi, h⟩ := zb_some h
      obtain ⟨r32, g, h⟩ := zb_some h
      refine zc_Vi (as := [.int i1]) hX gi (zt_X16_highY (d := d - 1) (by omega) g) zl_X16_93 rfl dX16_run_107 ⟨rfl, rfl, Nat.le_of_ble_eq_true rfl⟩ ⟨by omega, by omega⟩ ?_
      obtain ⟨r34, g, h⟩ := zb_some h
      refine zc_Si (as := [.ref b29, .int v30, .int r32.1]) hX (zt_X16_insert (d := d - 1) (by omega) g) zl_X16_195 dX16_run_110 ⟨rfl, rfl, Nat.le_of_ble_eq_true rfl⟩ ⟨by omega, by omega⟩ ?_
      obtain ⟨S35, g, h⟩ := zb_some h
      refine zw_putv hX zl_X16_115 zt_16_13 dX16_run_113 rfl rfl g ?_
      refine zw_iinc (v := (i1 + (1 : Int32))) hX dX16_run_116 rfl rfl (by decide) ?_
      refine zw_goto (tgt := 26) hX dX16_run_119 (by decide) ?_
      refine zw_sub (lv' := [(0, .ref a0), (1, .int (i1 + (1 : Int32)))]) (List.forall_mem_cons.mpr ⟨rfl, (List.forall_mem_cons.mpr ⟨rfl, zs_nil⟩)⟩) ?_
      exact ih _ _ h
set_option maxHeartbeats 4000000 in
set_option maxRecDepth 100000 in
theorem zt_X16_run_L140 {p : Program} {l : Launch} {e : Env} {R : Room} {s : State} {m : MethodId} {args : Array Value} {below : List Frame} {meth : Method} {c : Code} {V : zm_V} {mc ms d rc rs : Nat} (hX : zm_X p R s m args meth c RX16 "run" cX16_run 2 zk_E V mc ms) (hr : meth.sig.returnType = (some .int)) (hR : R.frames = d ∧ R.locals = 64 * d) (hd : 5 ≤ d) {N : Nat} {res : (Int32 × zm_S) ⊕ ((Unit) × zm_S)} {out : (Int32 × zm_S)} (a0 : Nat) (hf : ∀ o, res = .inl o → o = out) (hk : ∀ (S' : zm_S), res = .inr ((), S') → zw p l e R s m args below meth c (vx_MQ below (zm_Qc zk_E V (zo_i out)) (zm_XC zk_E V zo_x) args s mc ms (fun q => V.2.2.2.1 ≤ q)) 2 zk_E V mc ms 160 [(0, .ref a0)] [] S' rc rs) : ∀ (n : Nat) (i1 : Int32) (S : zm_S), zf_X16_run_L140 N n a0 i1 S = some res → zw p l e R s m args below meth c (vx_MQ below (zm_Qc zk_E V (zo_i out)) (zm_XC zk_E V zo_x) args s mc ms (fun q => V.2.2.2.1 ≤ q)) 2 zk_E V mc ms 140 [(0, .ref a0), (1, .int i1)] [] S rc rs := by
  intro n
  induction n with
  | zero => intro i1 S h; cases h
  | succ n ih =>
    intro i1 S h
    rw [zf_X16_run_L140] at h
    refine zw_iload_n hX dX16_run_140 rfl ?_
    refine zw_sipush (v := (400 : Int32)) hX dX16_run_141 (by decide) ?_
    refine zw_icmp_ge (tgt := 160) hX dX16_run_144 (by decide) (fun c144 => ?_) (fun c144 => ?_)
    · rw [if_pos c144] at h
      refine zw_sub (lv' := [(0, .ref a0)]) (List.forall_mem_cons.mpr ⟨rfl, zs_nil⟩) ?_
      exact hk  _ (Option.some.inj h).symm
    · rw [if_neg c144] at h
      refine zw_aload_n hX dX16_run_147 rfl ?_
      obtain ⟨b45, g, h⟩ := zb_some h
      refine zw_getr hX zl_X16_53 dX16_run_148 g ?_
      refine zw_iload_n hX dX16_run_151 rfl ?_
      refine zw_iconst (v := (0 : Int32)) hX dX16_run_152 (by decide) ?_
      obtain ⟨S46, g, h⟩ := zb_some h
      refine zw_si hX dX16_run_153 g ?_
      refine zw_iinc (v := (i1 + (1 : Int32))) hX dX16_run_154 rfl rfl (by decide) ?_
      refine zw_goto (tgt := 140) hX dX16_run_157 (by decide) ?_
      refine zw_sub (lv' := [(0, .ref a0), (1, .int (i1 + (1 : Int32)))]) (List.forall_mem_cons.mpr ⟨rfl, (List.forall_mem_cons.mpr ⟨rfl, zs_nil⟩)⟩) ?_
      exact ih _ _ h
set_option maxHeartbeats 4000000 in
set_option maxRecDepth 100000 in
theorem zt_X16_run_J171 {p : Program} {l : Launch} {e : Env} {R : Room} {s : State} {m : MethodId} {args : Array Value} {below : List Frame} {meth : Method} {c : Code} {V : zm_V} {mc ms d rc rs : Nat} (hX : zm_X p R s m args meth c RX16 "run" cX16_run 2 zk_E V mc ms) (hr : meth.sig.returnType = (some .int)) (hR : R.frames = d ∧ R.locals = 64 * d) (hd : 5 ≤ d) {N : Nat} {a0 : Nat} {out : (Int32 × zm_S)} {S : zm_S} (h : zf_X16_run_J171 N a0 S = some out) : zw p l e R s m args below meth c (vx_MQ below (zm_Qc zk_E V (zo_i out)) (zm_XC zk_E V zo_x) args s mc ms (fun q => V.2.2.2.1 ≤ q)) 2 zk_E V mc ms 171 [(0, .ref a0)] [] S rc rs := by
  unfold zf_X16_run_J171 at h
  refine zw_aload_n hX dX16_run_171 rfl ?_
  refine zw_iconst (v := (1 : Int32)) hX dX16_run_172 (by decide) ?_
  obtain ⟨S49, g, h⟩ := zb_some h
  refine zw_putv hX zl_X16_183 zt_16_9 dX16_run_173 rfl (by decide) g ?_
  refine zw_aload_n hX dX16_run_176 rfl ?_
  refine zw_iconst (v := (1 : Int32)) hX dX16_run_177 (by decide) ?_
  obtain ⟨S50, g, h⟩ := zb_some h
  refine zw_putv hX zl_X16_108 zt_16_10 dX16_run_178 rfl (by decide) g ?_
  refine zw_aload_n hX dX16_run_181 rfl ?_
  obtain ⟨v51, g, h⟩ := zb_some h
  refine zw_geti hX zl_X16_171 dX16_run_182 g ?_
  obtain rfl := Option.some.inj h
  exact zw_iret hX hr dX16_run_185 rfl ⟨rfl, rfl⟩
set_option maxHeartbeats 4000000 in
set_option maxRecDepth 100000 in
theorem zt_X16_run {l : Launch} {V : zm_V} {N : Nat} {S : zm_S} {out : (Int32 × zm_S)} {d : Nat} {a0 : Nat} (hd : 5 ≤ d) (h : zf_X16_run N a0 S = some out) : zm_Met l zk_E V yX16_run (.code yX16_run cX16_run 2 (some .int)) d [.ref a0] S 0 0 (zo_i out) zo_x := by
  refine zm_of (by decide +kernel) (Nat.le_of_ble_eq_true rfl) ?_
  intro p e R s m args below meth c hRR hX hr hxt
  have hR : R.frames = d ∧ R.locals = 64 * d := by rw [hRR]; exact ⟨rfl, rfl⟩
  have hX : zm_X p R s m args meth c RX16 "run" cX16_run 2 zk_E V 0 0 := hX
  unfold zf_X16_run at h
  refine zw_sub (lv' := [(0, .ref a0)]) (List.forall_mem_cons.mpr ⟨rfl, zs_nil⟩) ?_
  refine zw_aload_n hX dX16_run_0 rfl ?_
  refine zw_dup hX dX16_run_1 rfl ?_
  obtain ⟨v1, g, h⟩ := zb_some h
  refine zw_geti hX zl_X16_189 dX16_run_2 g ?_
  refine zw_iconst (v := (1 : Int32)) hX dX16_run_5 (by decide) ?_
  refine zw_iadd hX dX16_run_6 ?_
  obtain ⟨S2, g, h⟩ := zb_some h
  refine zw_putv hX zl_X16_189 zt_16_11 dX16_run_7 rfl rfl g ?_
  refine zw_aload_n hX dX16_run_10 rfl ?_
  obtain ⟨_, gi, h⟩ := zb_some h
  obtain ⟨r4, g, h⟩ := zb_some h
  refine zc_Vv (as := []) hX gi (zt_X16_turn (d := d - 1) (by omega) g) zl_X16_192 rfl dX16_run_11 ⟨rfl, rfl, Nat.le_of_ble_eq_true rfl⟩ ⟨by omega, by omega⟩ ?_
  refine zw_aload_n hX dX16_run_14 rfl ?_
  refine zw_iconst (v := (0 : Int32)) hX dX16_run_15 (by decide) ?_
  obtain ⟨S5, g, h⟩ := zb_some h
  refine zw_putv hX zl_X16_118 zt_16_12 dX16_run_16 rfl rfl g ?_
  refine zw_aload_n hX dX16_run_19 rfl ?_
  refine zw_iconst (v := (0 : Int32)) hX dX16_run_20 (by decide) ?_
  obtain ⟨S6, g, h⟩ := zb_some h
  refine zw_putv hX zl_X16_115 zt_16_13 dX16_run_21 rfl rfl g ?_
  refine zw_iconst (v := (0 : Int32)) hX dX16_run_24 (by decide) ?_
  refine zw_istore_n hX dX16_run_25 (by decide) ?_
  obtain ⟨r, g, h⟩ := zb_some h
  refine zw_sub (lv' := [(0, .ref a0), (1, .int (0 : Int32))]) (List.forall_mem_cons.mpr ⟨rfl, (List.forall_mem_cons.mpr ⟨rfl, zs_nil⟩)⟩) ?_
  refine zt_X16_run_L26 hX hr hR hd (res := r) (out := out) a0 ?_ ?_ N _ _ g
  · intro o ho
    subst ho
    exact Option.some.inj h
  · intro  S36 hx
    subst hx
    try dsimp only at h
    refine zw_aload_n hX dX16_run_122 rfl ?_
    obtain ⟨_, gi, h⟩ := zb_some h
    obtain ⟨r38, g, h⟩ := zb_some h
    refine zc_Vv (as := []) hX gi (zt_X16_fill (d := d - 1) (by omega) g) zl_X16_199 rfl dX16_run_123 ⟨rfl, rfl, Nat.le_of_ble_eq_true rfl⟩ ⟨by omega, by omega⟩ ?_
    refine zw_aload_n hX dX16_run_126 rfl ?_
    obtain ⟨_, gi, h⟩ := zb_some h
    obtain ⟨r40, g, h⟩ := zb_some h
    refine zc_Vv (as := []) hX gi (zt_X16_findPoints (d := d - 1) (by omega) g) zl_X16_202 rfl dX16_run_127 ⟨rfl, rfl, Nat.le_of_ble_eq_true rfl⟩ ⟨by omega, by omega⟩ ?_
    refine zw_aload_n hX dX16_run_130 rfl ?_
    obtain ⟨_, gi, h⟩ := zb_some h
    obtain ⟨r42, g, h⟩ := zb_some h
    refine zc_Vv (as := []) hX gi (zt_X16_findRings (d := d - 1) (by omega) g) zl_X16_205 rfl dX16_run_131 ⟨rfl, rfl, Nat.le_of_ble_eq_true rfl⟩ ⟨by omega, by omega⟩ ?_
    refine zw_aload_n hX dX16_run_134 rfl ?_
    obtain ⟨_, gi, h⟩ := zb_some h
    obtain ⟨r44, g, h⟩ := zb_some h
    refine zc_Vv (as := []) hX gi (zt_X16_number (d := d - 1) (by omega) g) zl_X16_208 rfl dX16_run_135 ⟨rfl, rfl, Nat.le_of_ble_eq_true rfl⟩ ⟨by omega, by omega⟩ ?_
    refine zw_iconst (v := (0 : Int32)) hX dX16_run_138 (by decide) ?_
    refine zw_istore_n hX dX16_run_139 (by decide) ?_
    obtain ⟨r, g, h⟩ := zb_some h
    refine zw_sub (lv' := [(0, .ref a0), (1, .int (0 : Int32))]) (List.forall_mem_cons.mpr ⟨rfl, (List.forall_mem_cons.mpr ⟨rfl, zs_nil⟩)⟩) ?_
    refine zt_X16_run_L140 hX hr hR hd (res := r) (out := out) a0 ?_ ?_ N _ _ g
    · intro o ho
      subst ho
      exact Option.some.inj h
    · intro  S47 hx
      subst hx
      try dsimp only at h
      refine zw_aload_n hX dX16_run_160 rfl ?_
      obtain ⟨v48, g, h⟩ := zb_some h
      refine zw_geti hX zl_X16_186 dX16_run_161 g ?_
      refine zw_if_eq (tgt := 171) hX dX16_run_164 (by decide) (fun c164 => ?_) (fun c164 => ?_)
      · rw [if_pos c164] at h
        refine zw_sub (lv' := [(0, .ref a0)]) (List.forall_mem_cons.mpr ⟨rfl, zs_nil⟩) ?_
        exact zt_X16_run_J171 hX hr hR hd h
      · rw [if_neg c164] at h
        refine zw_aload_n hX dX16_run_167 rfl ?_
        obtain ⟨_, gi, h⟩ := zb_some h
        obtain ⟨r53, g, h⟩ := zb_some h
        refine zc_Vv (as := []) hX gi (zt_X16_carry (d := d - 1) (by omega) g) zl_X16_211 rfl dX16_run_168 ⟨rfl, rfl, Nat.le_of_ble_eq_true rfl⟩ ⟨by omega, by omega⟩ ?_
        refine zw_sub (lv' := [(0, .ref a0)]) (List.forall_mem_cons.mpr ⟨rfl, zs_nil⟩) ?_
        exact zt_X16_run_J171 hX hr hR hd h
set_option maxHeartbeats 4000000 in
set_option maxRecDepth 100000 in
theorem zt_X16_isSpace {l : Launch} {V : zm_V} {N : Nat} {S : zm_S} {out : (Int32 × zm_S)} {d : Nat} {a0 : Nat} {i1 : Int32} (hd : 1 ≤ d) (h : zf_X16_isSpace N a0 i1 S = some out) : zm_Met l zk_E V yX16_isSpace (.code yX16_isSpace cX16_isSpace 2 (some .boolean)) d [.ref a0, .int i1] S 0 0 (zo_i out) zo_x := by
  refine zm_of (by decide +kernel) (Nat.le_of_ble_eq_true rfl) ?_
  intro p e R s m args below meth c hRR hX hr hxt
  have hR : R.frames = d ∧ R.locals = 64 * d := by rw [hRR]; exact ⟨rfl, rfl⟩
  have hX : zm_X p R s m args meth c RX16 "isSpace" cX16_isSpace 2 zk_E V 0 0 := hX
  unfold zf_X16_isSpace at h
  refine zw_sub (lv' := [(0, .ref a0), (1, .int i1)]) (List.forall_mem_cons.mpr ⟨rfl, (List.forall_mem_cons.mpr ⟨rfl, zs_nil⟩)⟩) ?_
  refine zw_aload_n hX dX16_isSpace_0 rfl ?_
  obtain ⟨v1, g, h⟩ := zb_some h
  refine zw_geti hX zl_X16_183 dX16_isSpace_1 g ?_
  refine zw_if_eq (tgt := 23) hX dX16_isSpace_4 (by decide) (fun c4 => ?_) (fun c4 => ?_)
  · rw [if_pos c4] at h
    refine zw_iconst (v := (0 : Int32)) hX dX16_isSpace_23 (by decide) ?_
    obtain rfl := Option.some.inj h
    exact zw_iret hX hr dX16_isSpace_24 rfl ⟨rfl, rfl⟩
  · rw [if_neg c4] at h
    refine zw_iload_n hX dX16_isSpace_7 rfl ?_
    refine zw_if_lt (tgt := 23) hX dX16_isSpace_8 (by decide) (fun c8 => ?_) (fun c8 => ?_)
    · rw [if_pos c8] at h
      refine zw_iconst (v := (0 : Int32)) hX dX16_isSpace_23 (by decide) ?_
      obtain rfl := Option.some.inj h
      exact zw_iret hX hr dX16_isSpace_24 rfl ⟨rfl, rfl⟩
    · rw [if_neg c8] at h
      refine zw_iload_n hX dX16_isSpace_11 rfl ?_
      refine zw_aload_n hX dX16_isSpace_12 rfl ?_
      obtain ⟨v2, g, h⟩ := zb_some h
      refine zw_geti hX zl_X16_171 dX16_isSpace_13 g ?_
      refine zw_icmp_ge (tgt := 23) hX dX16_isSpace_16 (by decide) (fun c16 => ?_) (fun c16 => ?_)
      · rw [if_pos c16] at h
        refine zw_iconst (v := (0 : Int32)) hX dX16_isSpace_23 (by decide) ?_
        obtain rfl := Option.some.inj h
        exact zw_iret hX hr dX16_isSpace_24 rfl ⟨rfl, rfl⟩
      · rw [if_neg c16] at h
        refine zw_iconst (v := (1 : Int32)) hX dX16_isSpace_19 (by decide) ?_
        refine zw_goto (tgt := 24) hX dX16_isSpace_20 (by decide) ?_
        obtain rfl := Option.some.inj h
        exact zw_iret hX hr dX16_isSpace_24 rfl ⟨rfl, rfl⟩
set_option maxHeartbeats 4000000 in
set_option maxRecDepth 100000 in
theorem zt_X16_isAny {l : Launch} {V : zm_V} {N : Nat} {S : zm_S} {out : (Int32 × zm_S)} {d : Nat} {a0 : Nat} {i1 : Int32} (hd : 1 ≤ d) (h : zf_X16_isAny N a0 i1 S = some out) : zm_Met l zk_E V yX16_isAny (.code yX16_isAny cX16_isAny 2 (some .boolean)) d [.ref a0, .int i1] S 0 0 (zo_i out) zo_x := by
  refine zm_of (by decide +kernel) (Nat.le_of_ble_eq_true rfl) ?_
  intro p e R s m args below meth c hRR hX hr hxt
  have hR : R.frames = d ∧ R.locals = 64 * d := by rw [hRR]; exact ⟨rfl, rfl⟩
  have hX : zm_X p R s m args meth c RX16 "isAny" cX16_isAny 2 zk_E V 0 0 := hX
  unfold zf_X16_isAny at h
  refine zw_sub (lv' := [(0, .ref a0), (1, .int i1)]) (List.forall_mem_cons.mpr ⟨rfl, (List.forall_mem_cons.mpr ⟨rfl, zs_nil⟩)⟩) ?_
  refine zw_aload_n hX dX16_isAny_0 rfl ?_
  obtain ⟨v1, g, h⟩ := zb_some h
  refine zw_geti hX zl_X16_183 dX16_isAny_1 g ?_
  refine zw_if_eq (tgt := 24) hX dX16_isAny_4 (by decide) (fun c4 => ?_) (fun c4 => ?_)
  · rw [if_pos c4] at h
    refine zw_iconst (v := (0 : Int32)) hX dX16_isAny_24 (by decide) ?_
    obtain rfl := Option.some.inj h
    exact zw_iret hX hr dX16_isAny_25 rfl ⟨rfl, rfl⟩
  · rw [if_neg c4] at h
    refine zw_iload_n hX dX16_isAny_7 rfl ?_
    refine zw_iconst (v := (-1 : Int32)) hX dX16_isAny_8 (by decide) ?_
    refine zw_icmp_lt (tgt := 24) hX dX16_isAny_9 (by decide) (fun c9 => ?_) (fun c9 => ?_)
    · rw [if_pos c9] at h
      refine zw_iconst (v := (0 : Int32)) hX dX16_isAny_24 (by decide) ?_
      obtain rfl := Option.some.inj h
      exact zw_iret hX hr dX16_isAny_25 rfl ⟨rfl, rfl⟩
    · rw [if_neg c9] at h
      refine zw_iload_n hX dX16_isAny_12 rfl ?_
      refine zw_aload_n hX dX16_isAny_13 rfl ?_
      obtain ⟨v2, g, h⟩ := zb_some h
      refine zw_geti hX zl_X16_171 dX16_isAny_14 g ?_
      refine zw_icmp_ge (tgt := 24) hX dX16_isAny_17 (by decide) (fun c17 => ?_) (fun c17 => ?_)
      · rw [if_pos c17] at h
        refine zw_iconst (v := (0 : Int32)) hX dX16_isAny_24 (by decide) ?_
        obtain rfl := Option.some.inj h
        exact zw_iret hX hr dX16_isAny_25 rfl ⟨rfl, rfl⟩
      · rw [if_neg c17] at h
        refine zw_iconst (v := (1 : Int32)) hX dX16_isAny_20 (by decide) ?_
        refine zw_goto (tgt := 25) hX dX16_isAny_21 (by decide) ?_
        obtain rfl := Option.some.inj h
        exact zw_iret hX hr dX16_isAny_25 rfl ⟨rfl, rfl⟩
set_option maxHeartbeats 4000000 in
set_option maxRecDepth 100000 in
theorem zt_X16_outerSides_J28 {p : Program} {l : Launch} {e : Env} {R : Room} {s : State} {m : MethodId} {args : Array Value} {below : List Frame} {meth : Method} {c : Code} {V : zm_V} {mc ms d rc rs : Nat} (hX : zm_X p R s m args meth c RX16 "outerSides" cX16_outerSides 3 zk_E V mc ms) (hr : meth.sig.returnType = (some .int)) (hR : R.frames = d ∧ R.locals = 64 * d) (hd : 3 ≤ d) {N : Nat} {k : Nat → Int32 → Int32 → zm_S → Option ((Int32 × zm_S) ⊕ ((Int32) × zm_S))} {a0 : Nat} {i2 : Int32} {t0 : Int32} {t1 : Int32} {res : (Int32 × zm_S) ⊕ ((Int32) × zm_S)} {out : (Int32 × zm_S)}   (hf : ∀ o, res = .inl o → o = out) (hk : ∀ (x1 : Int32) (S' : zm_S), res = .inr (x1, S') → zw p l e R s m args below meth c (vx_MQ below (zm_Qc zk_E V (zo_i out)) (zm_XC zk_E V zo_x) args s mc ms (fun q => V.2.2.2.1 ≤ q)) 3 zk_E V mc ms 36 [(1, .int x1)] [] S' rc rs) (hrec : ∀ (i1' : Int32) (i2' : Int32) (S : zm_S), k a0 i1' i2' S = some res → zw p l e R s m args below meth c (vx_MQ below (zm_Qc zk_E V (zo_i out)) (zm_XC zk_E V zo_x) args s mc ms (fun q => V.2.2.2.1 ≤ q)) 3 zk_E V mc ms 4 [(0, .ref a0), (1, .int i1'), (2, .int i2')] [] S rc rs) {S : zm_S} (h : zf_X16_outerSides_J28 N k a0 i2 t0 t1 S = some res) : zw p l e R s m args below meth c (vx_MQ below (zm_Qc zk_E V (zo_i out)) (zm_XC zk_E V zo_x) args s mc ms (fun q => V.2.2.2.1 ≤ q)) 3 zk_E V mc ms 28 [(0, .ref a0), (2, .int i2)] [.int t1, .int t0] S rc rs := by
  unfold zf_X16_outerSides_J28 at h
  refine zw_iadd hX dX16_outerSides_28 ?_
  refine zw_istore_n hX dX16_outerSides_29 (by decide) ?_
  refine zw_iinc (v := (i2 + (1 : Int32))) hX dX16_outerSides_30 rfl rfl (by decide) ?_
  refine zw_goto (tgt := 4) hX dX16_outerSides_33 (by decide) ?_
  refine zw_sub (lv' := [(0, .ref a0), (1, .int (t0 + t1)), (2, .int (i2 + (1 : Int32)))]) (List.forall_mem_cons.mpr ⟨rfl, (List.forall_mem_cons.mpr ⟨rfl, (List.forall_mem_cons.mpr ⟨rfl, zs_nil⟩)⟩)⟩) ?_
  exact hrec _ _ _ h
set_option maxHeartbeats 4000000 in
set_option maxRecDepth 100000 in
theorem zt_X16_outerSides_L4 {p : Program} {l : Launch} {e : Env} {R : Room} {s : State} {m : MethodId} {args : Array Value} {below : List Frame} {meth : Method} {c : Code} {V : zm_V} {mc ms d rc rs : Nat} (hX : zm_X p R s m args meth c RX16 "outerSides" cX16_outerSides 3 zk_E V mc ms) (hr : meth.sig.returnType = (some .int)) (hR : R.frames = d ∧ R.locals = 64 * d) (hd : 3 ≤ d) {N : Nat} {res : (Int32 × zm_S) ⊕ ((Int32) × zm_S)} {out : (Int32 × zm_S)} (a0 : Nat) (hf : ∀ o, res = .inl o → o = out) (hk : ∀ (x1 : Int32) (S' : zm_S), res = .inr (x1, S') → zw p l e R s m args below meth c (vx_MQ below (zm_Qc zk_E V (zo_i out)) (zm_XC zk_E V zo_x) args s mc ms (fun q => V.2.2.2.1 ≤ q)) 3 zk_E V mc ms 36 [(1, .int x1)] [] S' rc rs) : ∀ (n : Nat) (i1 : Int32) (i2 : Int32) (S : zm_S), zf_X16_outerSides_L4 N n a0 i1 i2 S = some res → zw p l e R s m args below meth c (vx_MQ below (zm_Qc zk_E V (zo_i out)) (zm_XC zk_E V zo_x) args s mc ms (fun q => V.2.2.2.1 ≤ q)) 3 zk_E V mc ms 4 [(0, .ref a0), (1, .int i1), (2, .int i2)] [] S rc rs := by
  intro n
  induction n with
  | zero => intro i1 i2 S h; cases h
  | succ n ih =>
    intro i1 i2 S h
    rw [zf_X16_outerSides_L4] at h
    refine zw_iload_n hX dX16_outerSides_4 rfl ?_
    refine zw_iconst (v := (2 : Int32)) hX dX16_outerSides_5 (by decide) ?_
    refine zw_aload_n hX dX16_outerSides_6 rfl ?_
    obtain ⟨v1, g, h⟩ := zb_some h
    refine zw_geti hX zl_X16_143 dX16_outerSides_7 g ?_
    refine zw_imul hX dX16_outerSides_10 ?_
    refine zw_icmp_ge (tgt := 36) hX dX16_outerSides_11 (by decide) (fun c11 => ?_) (fun c11 => ?_)
    · rw [if_pos c11] at h
      refine zw_sub (lv' := [(1, .int i1)]) (List.forall_mem_cons.mpr ⟨rfl, zs_nil⟩) ?_
      exact hk _ _ (Option.some.inj h).symm
    · rw [if_neg c11] at h
      refine zw_iload_n hX dX16_outerSides_14 rfl ?_
      refine zw_aload_n hX dX16_outerSides_15 rfl ?_
      refine zw_iload_n hX dX16_outerSides_16 rfl ?_
      obtain ⟨_, gi, h⟩ := zb_some h
      obtain ⟨r3, g, h⟩ := zb_some h
      refine zc_Vi (as := [.int i2]) hX gi (zt_X16_left (d := d - 1) (by omega) g) zl_X16_153 rfl dX16_outerSides_17 ⟨rfl, rfl, Nat.le_of_ble_eq_true rfl⟩ ⟨by omega, by omega⟩ ?_
      refine zw_if_ge (tgt := 27) hX dX16_outerSides_20 (by decide) (fun c20 => ?_) (fun c20 => ?_)
      · rw [if_pos c20] at h
        refine zw_iconst (v := (0 : Int32)) hX dX16_outerSides_27 (by decide) ?_
        refine zw_sub (lv' := [(0, .ref a0), (2, .int i2)]) (List.forall_mem_cons.mpr ⟨rfl, (List.forall_mem_cons.mpr ⟨rfl, zs_nil⟩)⟩) ?_
        exact zt_X16_outerSides_J28 hX hr hR hd hf hk ih h
      · rw [if_neg c20] at h
        refine zw_iconst (v := (1 : Int32)) hX dX16_outerSides_23 (by decide) ?_
        refine zw_goto (tgt := 28) hX dX16_outerSides_24 (by decide) ?_
        refine zw_sub (lv' := [(0, .ref a0), (2, .int i2)]) (List.forall_mem_cons.mpr ⟨rfl, (List.forall_mem_cons.mpr ⟨rfl, zs_nil⟩)⟩) ?_
        exact zt_X16_outerSides_J28 hX hr hR hd hf hk ih h
set_option maxHeartbeats 4000000 in
set_option maxRecDepth 100000 in
theorem zt_X16_outerSides {l : Launch} {V : zm_V} {N : Nat} {S : zm_S} {out : (Int32 × zm_S)} {d : Nat} {a0 : Nat} (hd : 3 ≤ d) (h : zf_X16_outerSides N a0 S = some out) : zm_Met l zk_E V yX16_outerSides (.code yX16_outerSides cX16_outerSides 3 (some .int)) d [.ref a0] S 0 0 (zo_i out) zo_x := by
  refine zm_of (by decide +kernel) (Nat.le_of_ble_eq_true rfl) ?_
  intro p e R s m args below meth c hRR hX hr hxt
  have hR : R.frames = d ∧ R.locals = 64 * d := by rw [hRR]; exact ⟨rfl, rfl⟩
  have hX : zm_X p R s m args meth c RX16 "outerSides" cX16_outerSides 3 zk_E V 0 0 := hX
  unfold zf_X16_outerSides at h
  refine zw_sub (lv' := [(0, .ref a0)]) (List.forall_mem_cons.mpr ⟨rfl, zs_nil⟩) ?_
  refine zw_iconst (v := (0 : Int32)) hX dX16_outerSides_0 (by decide) ?_
  refine zw_istore_n hX dX16_outerSides_1 (by decide) ?_
  refine zw_iconst (v := (0 : Int32)) hX dX16_outerSides_2 (by decide) ?_
  refine zw_istore_n hX dX16_outerSides_3 (by decide) ?_
  obtain ⟨r, g, h⟩ := zb_some h
  refine zw_sub (lv' := [(0, .ref a0), (1, .int (0 : Int32)), (2, .int (0 : Int32))]) (List.forall_mem_cons.mpr ⟨rfl, (List.forall_mem_cons.mpr ⟨rfl, (List.forall_mem_cons.mpr ⟨rfl, zs_nil⟩)⟩)⟩) ?_
  refine zt_X16_outerSides_L4 hX hr hR hd (res := r) (out := out) a0 ?_ ?_ N _ _ _ g
  · intro o ho
    subst ho
    exact Option.some.inj h
  · intro v5 S4 hx
    subst hx
    try dsimp only at h
    refine zw_iload_n hX dX16_outerSides_36 rfl ?_
    obtain rfl := Option.some.inj h
    exact zw_iret hX hr dX16_outerSides_37 rfl ⟨rfl, rfl⟩
set_option maxHeartbeats 4000000 in
set_option maxRecDepth 100000 in
theorem zt_X16_ringsOf_J32 {p : Program} {l : Launch} {e : Env} {R : Room} {s : State} {m : MethodId} {args : Array Value} {below : List Frame} {meth : Method} {c : Code} {V : zm_V} {mc ms d rc rs : Nat} (hX : zm_X p R s m args meth c RX16 "ringsOf" cX16_ringsOf 4 zk_E V mc ms) (hr : meth.sig.returnType = (some .int)) (hR : R.frames = d ∧ R.locals = 64 * d) (hd : 3 ≤ d) {N : Nat} {k : Nat → Int32 → Int32 → Int32 → zm_S → Option ((Int32 × zm_S) ⊕ ((Int32) × zm_S))} {a0 : Nat} {i1 : Int32} {i3 : Int32} {t0 : Int32} {t1 : Int32} {res : (Int32 × zm_S) ⊕ ((Int32) × zm_S)} {out : (Int32 × zm_S)}   (hf : ∀ o, res = .inl o → o = out) (hk : ∀ (x2 : Int32) (S' : zm_S), res = .inr (x2, S') → zw p l e R s m args below meth c (vx_MQ below (zm_Qc zk_E V (zo_i out)) (zm_XC zk_E V zo_x) args s mc ms (fun q => V.2.2.2.1 ≤ q)) 4 zk_E V mc ms 40 [(2, .int x2)] [] S' rc rs) (hrec : ∀ (i2' : Int32) (i3' : Int32) (S : zm_S), k a0 i1 i2' i3' S = some res → zw p l e R s m args below meth c (vx_MQ below (zm_Qc zk_E V (zo_i out)) (zm_XC zk_E V zo_x) args s mc ms (fun q => V.2.2.2.1 ≤ q)) 4 zk_E V mc ms 4 [(0, .ref a0), (1, .int i1), (2, .int i2'), (3, .int i3')] [] S rc rs) {S : zm_S} (h : zf_X16_ringsOf_J32 N k a0 i1 i3 t0 t1 S = some res) : zw p l e R s m args below meth c (vx_MQ below (zm_Qc zk_E V (zo_i out)) (zm_XC zk_E V zo_x) args s mc ms (fun q => V.2.2.2.1 ≤ q)) 4 zk_E V mc ms 32 [(0, .ref a0), (1, .int i1), (3, .int i3)] [.int t1, .int t0] S rc rs := by
  unfold zf_X16_ringsOf_J32 at h
  refine zw_iadd hX dX16_ringsOf_32 ?_
  refine zw_istore_n hX dX16_ringsOf_33 (by decide) ?_
  refine zw_iinc (v := (i3 + (1 : Int32))) hX dX16_ringsOf_34 rfl rfl (by decide) ?_
  refine zw_goto (tgt := 4) hX dX16_ringsOf_37 (by decide) ?_
  refine zw_sub (lv' := [(0, .ref a0), (1, .int i1), (2, .int (t0 + t1)), (3, .int (i3 + (1 : Int32)))]) (List.forall_mem_cons.mpr ⟨rfl, (List.forall_mem_cons.mpr ⟨rfl, (List.forall_mem_cons.mpr ⟨rfl, (List.forall_mem_cons.mpr ⟨rfl, zs_nil⟩)⟩)⟩)⟩) ?_
  exact hrec _ _ _ h
set_option maxHeartbeats 4000000 in
set_option maxRecDepth 100000 in
theorem zt_X16_ringsOf_L4 {p : Program} {l : Launch} {e : Env} {R : Room} {s : State} {m : MethodId} {args : Array Value} {below : List Frame} {meth : Method} {c : Code} {V : zm_V} {mc ms d rc rs : Nat} (hX : zm_X p R s m args meth c RX16 "ringsOf" cX16_ringsOf 4 zk_E V mc ms) (hr : meth.sig.returnType = (some .int)) (hR : R.frames = d ∧ R.locals = 64 * d) (hd : 3 ≤ d) {N : Nat} {res : (Int32 × zm_S) ⊕ ((Int32) × zm_S)} {out : (Int32 × zm_S)} (a0 : Nat) (i1 : Int32) (hf : ∀ o, res = .inl o → o = out) (hk : ∀ (x2 : Int32) (S' : zm_S), res = .inr (x2, S') → zw p l e R s m args below meth c (vx_MQ below (zm_Qc zk_E V (zo_i out)) (zm_XC zk_E V zo_x) args s mc ms (fun q => V.2.2.2.1 ≤ q)) 4 zk_E V mc ms 40 [(2, .int x2)] [] S' rc rs) : ∀ (n : Nat) (i2 : Int32) (i3 : Int32) (S : zm_S), zf_X16_ringsOf_L4 N n a0 i1 i2 i3 S = some res → zw p l e R s m args below meth c (vx_MQ below (zm_Qc zk_E V (zo_i out)) (zm_XC zk_E V zo_x) args s mc ms (fun q => V.2.2.2.1 ≤ q)) 4 zk_E V mc ms 4 [(0, .ref a0), (1, .int i1), (2, .int i2), (3, .int i3)] [] S rc rs := by
  intro n
  induction n with
  | zero => intro i2 i3 S h; cases h
  | succ n ih =>
    intro i2 i3 S h
    rw [zf_X16_ringsOf_L4] at h
    refine zw_iload_n hX dX16_ringsOf_4 rfl ?_
    refine zw_aload_n hX dX16_ringsOf_5 rfl ?_
    obtain ⟨v1, g, h⟩ := zb_some h
    refine zw_geti hX zl_X16_165 dX16_ringsOf_6 g ?_
    refine zw_icmp_ge (tgt := 40) hX dX16_ringsOf_9 (by decide) (fun c9 => ?_) (fun c9 => ?_)
    · rw [if_pos c9] at h
      refine zw_sub (lv' := [(2, .int i2)]) (List.forall_mem_cons.mpr ⟨rfl, zs_nil⟩) ?_
      exact hk _ _ (Option.some.inj h).symm
    · rw [if_neg c9] at h
      refine zw_iload_n hX dX16_ringsOf_12 rfl ?_
      refine zw_aload_n hX dX16_ringsOf_13 rfl ?_
      refine zw_aload_n hX dX16_ringsOf_14 rfl ?_
      obtain ⟨b2, g, h⟩ := zb_some h
      refine zw_getr hX zl_X16_77 dX16_ringsOf_15 g ?_
      refine zw_iload_n hX dX16_ringsOf_18 rfl ?_
      obtain ⟨v3, g, h⟩ := zb_some h
      refine zw_xi hX dX16_ringsOf_19 g ?_
      obtain ⟨_, gi, h⟩ := zb_some h
      obtain ⟨r5, g, h⟩ := zb_some h
      refine zc_Vi (as := [.int v3]) hX gi (zt_X16_left (d := d - 1) (by omega) g) zl_X16_153 rfl dX16_ringsOf_20 ⟨rfl, rfl, Nat.le_of_ble_eq_true rfl⟩ ⟨by omega, by omega⟩ ?_
      refine zw_iload_n hX dX16_ringsOf_23 rfl ?_
      refine zw_icmp_ne (tgt := 31) hX dX16_ringsOf_24 (by decide) (fun c24 => ?_) (fun c24 => ?_)
      · rw [if_neg c24] at h
        refine zw_iconst (v := (0 : Int32)) hX dX16_ringsOf_31 (by decide) ?_
        refine zw_sub (lv' := [(0, .ref a0), (1, .int i1), (3, .int i3)]) (List.forall_mem_cons.mpr ⟨rfl, (List.forall_mem_cons.mpr ⟨rfl, (List.forall_mem_cons.mpr ⟨rfl, zs_nil⟩)⟩)⟩) ?_
        exact zt_X16_ringsOf_J32 hX hr hR hd hf hk ih h
      · rw [if_pos c24] at h
        refine zw_iconst (v := (1 : Int32)) hX dX16_ringsOf_27 (by decide) ?_
        refine zw_goto (tgt := 32) hX dX16_ringsOf_28 (by decide) ?_
        refine zw_sub (lv' := [(0, .ref a0), (1, .int i1), (3, .int i3)]) (List.forall_mem_cons.mpr ⟨rfl, (List.forall_mem_cons.mpr ⟨rfl, (List.forall_mem_cons.mpr ⟨rfl, zs_nil⟩)⟩)⟩) ?_
        exact zt_X16_ringsOf_J32 hX hr hR hd hf hk ih h
set_option maxHeartbeats 4000000 in
set_option maxRecDepth 100000 in
theorem zt_X16_ringsOf {l : Launch} {V : zm_V} {N : Nat} {S : zm_S} {out : (Int32 × zm_S)} {d : Nat} {a0 : Nat} {i1 : Int32} (hd : 3 ≤ d) (h : zf_X16_ringsOf N a0 i1 S = some out) : zm_Met l zk_E V yX16_ringsOf (.code yX16_ringsOf cX16_ringsOf 4 (some .int)) d [.ref a0, .int i1] S 0 0 (zo_i out) zo_x := by
  refine zm_of (by decide +kernel) (Nat.le_of_ble_eq_true rfl) ?_
  intro p e R s m args below meth c hRR hX hr hxt
  have hR : R.frames = d ∧ R.locals = 64 * d := by rw [hRR]; exact ⟨rfl, rfl⟩
  have hX : zm_X p R s m args meth c RX16 "ringsOf" cX16_ringsOf 4 zk_E V 0 0 := hX
  unfold zf_X16_ringsOf at h
  refine zw_sub (lv' := [(0, .ref a0), (1, .int i1)]) (List.forall_mem_cons.mpr ⟨rfl, (List.forall_mem_cons.mpr ⟨rfl, zs_nil⟩)⟩) ?_
  refine zw_iconst (v := (0 : Int32)) hX dX16_ringsOf_0 (by decide) ?_
  refine zw_istore_n hX dX16_ringsOf_1 (by decide) ?_
  refine zw_iconst (v := (0 : Int32)) hX dX16_ringsOf_2 (by decide) ?_
  refine zw_istore_n hX dX16_ringsOf_3 (by decide) ?_
  obtain ⟨r, g, h⟩ := zb_some h
  refine zw_sub (lv' := [(0, .ref a0), (1, .int i1), (2, .int (0 : Int32)), (3, .int (0 : Int32))]) (List.forall_mem_cons.mpr ⟨rfl, (List.forall_mem_cons.mpr ⟨rfl, (List.forall_mem_cons.mpr ⟨rfl, (List.forall_mem_cons.mpr ⟨rfl, zs_nil⟩)⟩)⟩)⟩) ?_
  refine zt_X16_ringsOf_L4 hX hr hR hd (res := r) (out := out) a0 i1 ?_ ?_ N _ _ _ g
  · intro o ho
    subst ho
    exact Option.some.inj h
  · intro v7 S6 hx
    subst hx
    try dsimp only at h
    refine zw_iload_n hX dX16_ringsOf_40 rfl ?_
    obtain rfl := Option.some.inj h
    exact zw_iret hX hr dX16_ringsOf_41 rfl ⟨rfl, rfl⟩
set_option maxHeartbeats 4000000 in
set_option maxRecDepth 100000 in
theorem zt_X16_ringOf_L5 {p : Program} {l : Launch} {e : Env} {R : Room} {s : State} {m : MethodId} {args : Array Value} {below : List Frame} {meth : Method} {c : Code} {V : zm_V} {mc ms d rc rs : Nat} (hX : zm_X p R s m args meth c RX16 "ringOf" cX16_ringOf 5 zk_E V mc ms) (hr : meth.sig.returnType = (some .int)) (hR : R.frames = d ∧ R.locals = 64 * d) (hd : 3 ≤ d) {N : Nat} {res : (Int32 × zm_S) ⊕ ((Unit) × zm_S)} {out : (Int32 × zm_S)} (a0 : Nat) (i1 : Int32) (i2 : Int32) (hf : ∀ o, res = .inl o → o = out) (hk : ∀ (S' : zm_S), res = .inr ((), S') → zw p l e R s m args below meth c (vx_MQ below (zm_Qc zk_E V (zo_i out)) (zm_XC zk_E V zo_x) args s mc ms (fun q => V.2.2.2.1 ≤ q)) 5 zk_E V mc ms 57 [] [] S' rc rs) : ∀ (n : Nat) (i3 : Int32) (i4 : Int32) (S : zm_S), zf_X16_ringOf_L5 N n a0 i1 i2 i3 i4 S = some res → zw p l e R s m args below meth c (vx_MQ below (zm_Qc zk_E V (zo_i out)) (zm_XC zk_E V zo_x) args s mc ms (fun q => V.2.2.2.1 ≤ q)) 5 zk_E V mc ms 5 [(0, .ref a0), (1, .int i1), (2, .int i2), (3, .int i3), (4, .int i4)] [] S rc rs := by
  intro n
  induction n with
  | zero => intro i3 i4 S h; cases h
  | succ n ih =>
    intro i3 i4 S h
    rw [zf_X16_ringOf_L5] at h
    refine zw_iload hX dX16_ringOf_5 rfl ?_
    refine zw_aload_n hX dX16_ringOf_7 rfl ?_
    obtain ⟨v1, g, h⟩ := zb_some h
    refine zw_geti hX zl_X16_165 dX16_ringOf_8 g ?_
    refine zw_icmp_ge (tgt := 57) hX dX16_ringOf_11 (by decide) (fun c11 => ?_) (fun c11 => ?_)
    · rw [if_pos c11] at h
      refine zw_sub (lv' := []) zs_nil ?_
      exact hk  _ (Option.some.inj h).symm
    · rw [if_neg c11] at h
      refine zw_aload_n hX dX16_ringOf_14 rfl ?_
      refine zw_iload_n hX dX16_ringOf_15 rfl ?_
      obtain ⟨_, gi, h⟩ := zb_some h
      obtain ⟨r3, g, h⟩ := zb_some h
      refine zc_Vi (as := [.int i1]) hX gi (zt_X16_isSpace (d := d - 1) (by omega) g) zl_X16_221 rfl dX16_ringOf_16 ⟨rfl, rfl, Nat.le_of_ble_eq_true rfl⟩ ⟨by omega, by omega⟩ ?_
      refine zw_if_eq (tgt := 57) hX dX16_ringOf_19 (by decide) (fun c19 => ?_) (fun c19 => ?_)
      · rw [if_pos c19] at h
        refine zw_sub (lv' := []) zs_nil ?_
        exact hk  _ (Option.some.inj h).symm
      · rw [if_neg c19] at h
        refine zw_iload_n hX dX16_ringOf_22 rfl ?_
        refine zw_if_lt (tgt := 57) hX dX16_ringOf_23 (by decide) (fun c23 => ?_) (fun c23 => ?_)
        · rw [if_pos c23] at h
          refine zw_sub (lv' := []) zs_nil ?_
          exact hk  _ (Option.some.inj h).symm
        · rw [if_neg c23] at h
          refine zw_aload_n hX dX16_ringOf_26 rfl ?_
          refine zw_aload_n hX dX16_ringOf_27 rfl ?_
          obtain ⟨b4, g, h⟩ := zb_some h
          refine zw_getr hX zl_X16_77 dX16_ringOf_28 g ?_
          refine zw_iload hX dX16_ringOf_31 rfl ?_
          obtain ⟨v5, g, h⟩ := zb_some h
          refine zw_xi hX dX16_ringOf_33 g ?_
          obtain ⟨_, gi, h⟩ := zb_some h
          obtain ⟨r7, g, h⟩ := zb_some h
          refine zc_Vi (as := [.int v5]) hX gi (zt_X16_left (d := d - 1) (by omega) g) zl_X16_153 rfl dX16_ringOf_34 ⟨rfl, rfl, Nat.le_of_ble_eq_true rfl⟩ ⟨by omega, by omega⟩ ?_
          refine zw_iload_n hX dX16_ringOf_37 rfl ?_
          refine zw_icmp_ne (tgt := 51) hX dX16_ringOf_38 (by decide) (fun c38 => ?_) (fun c38 => ?_)
          · rw [if_neg c38] at h
            refine zw_iinc (v := (i4 + (1 : Int32))) hX dX16_ringOf_51 rfl rfl (by decide) ?_
            refine zw_goto (tgt := 5) hX dX16_ringOf_54 (by decide) ?_
            refine zw_sub (lv' := [(0, .ref a0), (1, .int i1), (2, .int i2), (3, .int i3), (4, .int (i4 + (1 : Int32)))]) (List.forall_mem_cons.mpr ⟨rfl, (List.forall_mem_cons.mpr ⟨rfl, (List.forall_mem_cons.mpr ⟨rfl, (List.forall_mem_cons.mpr ⟨rfl, (List.forall_mem_cons.mpr ⟨rfl, zs_nil⟩)⟩)⟩)⟩)⟩) ?_
            exact ih _ _ _ h
          · rw [if_pos c38] at h
            refine zw_iload_n hX dX16_ringOf_41 rfl ?_
            refine zw_if_ne (tgt := 48) hX dX16_ringOf_42 (by decide) (fun c42 => ?_) (fun c42 => ?_)
            · rw [if_neg c42] at h
              refine zw_iinc (v := (i3 + (-1 : Int32))) hX dX16_ringOf_48 rfl rfl (by decide) ?_
              refine zw_iinc (v := (i4 + (1 : Int32))) hX dX16_ringOf_51 rfl rfl (by decide) ?_
              refine zw_goto (tgt := 5) hX dX16_ringOf_54 (by decide) ?_
              refine zw_sub (lv' := [(0, .ref a0), (1, .int i1), (2, .int i2), (3, .int (i3 + (-1 : Int32))), (4, .int (i4 + (1 : Int32)))]) (List.forall_mem_cons.mpr ⟨rfl, (List.forall_mem_cons.mpr ⟨rfl, (List.forall_mem_cons.mpr ⟨rfl, (List.forall_mem_cons.mpr ⟨rfl, (List.forall_mem_cons.mpr ⟨rfl, zs_nil⟩)⟩)⟩)⟩)⟩) ?_
              exact ih _ _ _ h
            · rw [if_pos c42] at h
              refine zw_iload hX dX16_ringOf_45 rfl ?_
              have hz := hf _ (Option.some.inj h).symm
              subst hz
              exact zw_iret hX hr dX16_ringOf_47 rfl ⟨rfl, rfl⟩
set_option maxHeartbeats 4000000 in
set_option maxRecDepth 100000 in
theorem zt_X16_ringOf {l : Launch} {V : zm_V} {N : Nat} {S : zm_S} {out : (Int32 × zm_S)} {d : Nat} {a0 : Nat} {i1 : Int32} {i2 : Int32} (hd : 3 ≤ d) (h : zf_X16_ringOf N a0 i1 i2 S = some out) : zm_Met l zk_E V yX16_ringOf (.code yX16_ringOf cX16_ringOf 5 (some .int)) d [.ref a0, .int i1, .int i2] S 0 0 (zo_i out) zo_x := by
  refine zm_of (by decide +kernel) (Nat.le_of_ble_eq_true rfl) ?_
  intro p e R s m args below meth c hRR hX hr hxt
  have hR : R.frames = d ∧ R.locals = 64 * d := by rw [hRR]; exact ⟨rfl, rfl⟩
  have hX : zm_X p R s m args meth c RX16 "ringOf" cX16_ringOf 5 zk_E V 0 0 := hX
  unfold zf_X16_ringOf at h
  refine zw_sub (lv' := [(0, .ref a0), (1, .int i1), (2, .int i2)]) (List.forall_mem_cons.mpr ⟨rfl, (List.forall_mem_cons.mpr ⟨rfl, (List.forall_mem_cons.mpr ⟨rfl, zs_nil⟩)⟩)⟩) ?_
  refine zw_iload_n hX dX16_ringOf_0 rfl ?_
  refine zw_istore_n hX dX16_ringOf_1 (by decide) ?_
  refine zw_iconst (v := (0 : Int32)) hX dX16_ringOf_2 (by decide) ?_
  refine zw_istore hX dX16_ringOf_3 (by decide) ?_
  obtain ⟨r, g, h⟩ := zb_some h
  refine zw_sub (lv' := [(0, .ref a0), (1, .int i1), (2, .int i2), (3, .int i2), (4, .int (0 : Int32))]) (List.forall_mem_cons.mpr ⟨rfl, (List.forall_mem_cons.mpr ⟨rfl, (List.forall_mem_cons.mpr ⟨rfl, (List.forall_mem_cons.mpr ⟨rfl, (List.forall_mem_cons.mpr ⟨rfl, zs_nil⟩)⟩)⟩)⟩)⟩) ?_
  refine zt_X16_ringOf_L5 hX hr hR hd (res := r) (out := out) a0 i1 i2 ?_ ?_ N _ _ _ g
  · intro o ho
    subst ho
    exact Option.some.inj h
  · intro  S8 hx
    subst hx
    try dsimp only at h
    refine zw_iconst (v := (-1 : Int32)) hX dX16_ringOf_57 (by decide) ?_
    obtain rfl := Option.some.inj h
    exact zw_iret hX hr dX16_ringOf_58 rfl ⟨rfl, rfl⟩
set_option maxHeartbeats 4000000 in
set_option maxRecDepth 100000 in
theorem zt_X16_sides {l : Launch} {V : zm_V} {N : Nat} {S : zm_S} {out : (Int32 × zm_S)} {d : Nat} {a0 : Nat} {i1 : Int32} {i2 : Int32} (hd : 4 ≤ d) (h : zf_X16_sides N a0 i1 i2 S = some out) : zm_Met l zk_E V yX16_sides (.code yX16_sides cX16_sides 4 (some .int)) d [.ref a0, .int i1, .int i2] S 0 0 (zo_i out) zo_x := by
  refine zm_of (by decide +kernel) (Nat.le_of_ble_eq_true rfl) ?_
  intro p e R s m args below meth c hRR hX hr hxt
  have hR : R.frames = d ∧ R.locals = 64 * d := by rw [hRR]; exact ⟨rfl, rfl⟩
  have hX : zm_X p R s m args meth c RX16 "sides" cX16_sides 4 zk_E V 0 0 := hX
  unfold zf_X16_sides at h
  refine zw_sub (lv' := [(0, .ref a0), (1, .int i1), (2, .int i2)]) (List.forall_mem_cons.mpr ⟨rfl, (List.forall_mem_cons.mpr ⟨rfl, (List.forall_mem_cons.mpr ⟨rfl, zs_nil⟩)⟩)⟩) ?_
  refine zw_aload_n hX dX16_sides_0 rfl ?_
  refine zw_iload_n hX dX16_sides_1 rfl ?_
  refine zw_iload_n hX dX16_sides_2 rfl ?_
  obtain ⟨_, gi, h⟩ := zb_some h
  obtain ⟨r2, g, h⟩ := zb_some h
  refine zc_Vi (as := [.int i1, .int i2]) hX gi (zt_X16_ringOf (d := d - 1) (by omega) g) zl_X16_224 rfl dX16_sides_3 ⟨rfl, rfl, Nat.le_of_ble_eq_true rfl⟩ ⟨by omega, by omega⟩ ?_
  refine zw_istore_n hX dX16_sides_6 (by decide) ?_
  refine zw_iload_n hX dX16_sides_7 rfl ?_
  refine zw_if_ge (tgt := 15) hX dX16_sides_8 (by decide) (fun c8 => ?_) (fun c8 => ?_)
  · rw [if_pos c8] at h
    refine zw_aload_n hX dX16_sides_15 rfl ?_
    obtain ⟨b3, g, h⟩ := zb_some h
    refine zw_getr hX zl_X16_80 dX16_sides_16 g ?_
    refine zw_iload_n hX dX16_sides_19 rfl ?_
    obtain ⟨v4, g, h⟩ := zb_some h
    refine zw_xi hX dX16_sides_20 g ?_
    obtain rfl := Option.some.inj h
    exact zw_iret hX hr dX16_sides_21 rfl ⟨rfl, rfl⟩
  · rw [if_neg c8] at h
    refine zw_iconst (v := (0 : Int32)) hX dX16_sides_11 (by decide) ?_
    refine zw_goto (tgt := 21) hX dX16_sides_12 (by decide) ?_
    obtain rfl := Option.some.inj h
    exact zw_iret hX hr dX16_sides_21 rfl ⟨rfl, rfl⟩
set_option maxHeartbeats 4000000 in
set_option maxRecDepth 100000 in
theorem zt_X16_side_L16 {p : Program} {l : Launch} {e : Env} {R : Room} {s : State} {m : MethodId} {args : Array Value} {below : List Frame} {meth : Method} {c : Code} {V : zm_V} {mc ms d rc rs : Nat} (hX : zm_X p R s m args meth c RX16 "side" cX16_side 7 zk_E V mc ms) (hr : meth.sig.returnType = (some .int)) (hR : R.frames = d ∧ R.locals = 64 * d) (hd : 4 ≤ d) {N : Nat} {res : (Int32 × zm_S) ⊕ ((Int32) × zm_S)} {out : (Int32 × zm_S)} (a0 : Nat) (i3 : Int32) (i4 : Int32) (hf : ∀ o, res = .inl o → o = out) (hk : ∀ (x5 : Int32) (S' : zm_S), res = .inr (x5, S') → zw p l e R s m args below meth c (vx_MQ below (zm_Qc zk_E V (zo_i out)) (zm_XC zk_E V zo_x) args s mc ms (fun q => V.2.2.2.1 ≤ q)) 7 zk_E V mc ms 36 [(0, .ref a0), (4, .int i4), (5, .int x5)] [] S' rc rs) : ∀ (n : Nat) (i5 : Int32) (i6 : Int32) (S : zm_S), zf_X16_side_L16 N n a0 i3 i4 i5 i6 S = some res → zw p l e R s m args below meth c (vx_MQ below (zm_Qc zk_E V (zo_i out)) (zm_XC zk_E V zo_x) args s mc ms (fun q => V.2.2.2.1 ≤ q)) 7 zk_E V mc ms 16 [(0, .ref a0), (3, .int i3), (4, .int i4), (5, .int i5), (6, .int i6)] [] S rc rs := by
  intro n
  induction n with
  | zero => intro i5 i6 S h; cases h
  | succ n ih =>
    intro i5 i6 S h
    rw [zf_X16_side_L16] at h
    refine zw_iload hX dX16_side_16 rfl ?_
    refine zw_iload_n hX dX16_side_18 rfl ?_
    refine zw_icmp_ge (tgt := 36) hX dX16_side_19 (by decide) (fun c19 => ?_) (fun c19 => ?_)
    · rw [if_pos c19] at h
      refine zw_sub (lv' := [(0, .ref a0), (4, .int i4), (5, .int i5)]) (List.forall_mem_cons.mpr ⟨rfl, (List.forall_mem_cons.mpr ⟨rfl, (List.forall_mem_cons.mpr ⟨rfl, zs_nil⟩)⟩)⟩) ?_
      exact hk _ _ (Option.some.inj h).symm
    · rw [if_neg c19] at h
      refine zw_aload_n hX dX16_side_22 rfl ?_
      refine zw_iload hX dX16_side_23 rfl ?_
      obtain ⟨_, gi, h⟩ := zb_some h
      obtain ⟨r6, g, h⟩ := zb_some h
      refine zc_Vi (as := [.int i5]) hX gi (zt_X16_next (d := d - 1) (by omega) g) zl_X16_168 rfl dX16_side_25 ⟨rfl, rfl, Nat.le_of_ble_eq_true rfl⟩ ⟨by omega, by omega⟩ ?_
      refine zw_istore hX dX16_side_28 (by decide) ?_
      refine zw_iinc (v := (i6 + (1 : Int32))) hX dX16_side_30 rfl rfl (by decide) ?_
      refine zw_goto (tgt := 16) hX dX16_side_33 (by decide) ?_
      refine zw_sub (lv' := [(0, .ref a0), (3, .int i3), (4, .int i4), (5, .int r6.1), (6, .int (i6 + (1 : Int32)))]) (List.forall_mem_cons.mpr ⟨rfl, (List.forall_mem_cons.mpr ⟨rfl, (List.forall_mem_cons.mpr ⟨rfl, (List.forall_mem_cons.mpr ⟨rfl, (List.forall_mem_cons.mpr ⟨rfl, zs_nil⟩)⟩)⟩)⟩)⟩) ?_
      exact ih _ _ _ h
set_option maxHeartbeats 4000000 in
set_option maxRecDepth 100000 in
theorem zt_X16_side {l : Launch} {V : zm_V} {N : Nat} {S : zm_S} {out : (Int32 × zm_S)} {d : Nat} {a0 : Nat} {i1 : Int32} {i2 : Int32} {i3 : Int32} {i4 : Int32} (hd : 4 ≤ d) (h : zf_X16_side N a0 i1 i2 i3 i4 S = some out) : zm_Met l zk_E V yX16_side (.code yX16_side cX16_side 7 (some .int)) d [.ref a0, .int i1, .int i2, .int i3, .int i4] S 0 0 (zo_i out) zo_x := by
  refine zm_of (by decide +kernel) (Nat.le_of_ble_eq_true rfl) ?_
  intro p e R s m args below meth c hRR hX hr hxt
  have hR : R.frames = d ∧ R.locals = 64 * d := by rw [hRR]; exact ⟨rfl, rfl⟩
  have hX : zm_X p R s m args meth c RX16 "side" cX16_side 7 zk_E V 0 0 := hX
  unfold zf_X16_side at h
  refine zw_sub (lv' := [(0, .ref a0), (1, .int i1), (2, .int i2), (3, .int i3), (4, .int i4)]) (List.forall_mem_cons.mpr ⟨rfl, (List.forall_mem_cons.mpr ⟨rfl, (List.forall_mem_cons.mpr ⟨rfl, (List.forall_mem_cons.mpr ⟨rfl, (List.forall_mem_cons.mpr ⟨rfl, zs_nil⟩)⟩)⟩)⟩)⟩) ?_
  refine zw_aload_n hX dX16_side_0 rfl ?_
  obtain ⟨b1, g, h⟩ := zb_some h
  refine zw_getr hX zl_X16_77 dX16_side_1 g ?_
  refine zw_aload_n hX dX16_side_4 rfl ?_
  refine zw_iload_n hX dX16_side_5 rfl ?_
  refine zw_iload_n hX dX16_side_6 rfl ?_
  obtain ⟨_, gi, h⟩ := zb_some h
  obtain ⟨r3, g, h⟩ := zb_some h
  refine zc_Vi (as := [.int i1, .int i2]) hX gi (zt_X16_ringOf (d := d - 1) (by omega) g) zl_X16_224 rfl dX16_side_7 ⟨rfl, rfl, Nat.le_of_ble_eq_true rfl⟩ ⟨by omega, by omega⟩ ?_
  obtain ⟨v4, g, h⟩ := zb_some h
  refine zw_xi hX dX16_side_10 g ?_
  refine zw_istore hX dX16_side_11 (by decide) ?_
  refine zw_iconst (v := (0 : Int32)) hX dX16_side_13 (by decide) ?_
  refine zw_istore hX dX16_side_14 (by decide) ?_
  obtain ⟨r, g, h⟩ := zb_some h
  refine zw_sub (lv' := [(0, .ref a0), (3, .int i3), (4, .int i4), (5, .int v4), (6, .int (0 : Int32))]) (List.forall_mem_cons.mpr ⟨rfl, (List.forall_mem_cons.mpr ⟨rfl, (List.forall_mem_cons.mpr ⟨rfl, (List.forall_mem_cons.mpr ⟨rfl, (List.forall_mem_cons.mpr ⟨rfl, zs_nil⟩)⟩)⟩)⟩)⟩) ?_
  refine zt_X16_side_L16 hX hr hR hd (res := r) (out := out) a0 i3 i4 ?_ ?_ N _ _ _ g
  · intro o ho
    subst ho
    exact Option.some.inj h
  · intro v8 S7 hx
    subst hx
    try dsimp only at h
    refine zw_iload hX dX16_side_36 rfl ?_
    by_cases c38_0 : (i4).toInt = 0
    · rw [if_pos c38_0] at h
      refine zw_tableIn (off := 34) (tgt := 72) hX dX16_side_38 (by rw [c38_0]; decide) (by rw [c38_0]; decide) (by rw [c38_0]; decide) (by decide) ?_
      refine zw_aload_n hX dX16_side_72 rfl ?_
      obtain ⟨b11, g, h⟩ := zb_some h
      refine zw_getr hX zl_X16_65 dX16_side_73 g ?_
      refine zw_iload hX dX16_side_76 rfl ?_
      refine zw_iconst (v := (2 : Int32)) hX dX16_side_78 (by decide) ?_
      refine zw_idiv hX dX16_side_79 (by decide) ?_
      obtain ⟨v12, g, h⟩ := zb_some h
      refine zw_xi hX dX16_side_80 g ?_
      obtain rfl := Option.some.inj h
      exact zw_iret hX hr dX16_side_81 rfl ⟨rfl, rfl⟩
    rw [if_neg c38_0] at h
    by_cases c38_1 : (i4).toInt = 1
    · rw [if_pos c38_1] at h
      refine zw_tableIn (off := 44) (tgt := 82) hX dX16_side_38 (by rw [c38_1]; decide) (by rw [c38_1]; decide) (by rw [c38_1]; decide) (by decide) ?_
      refine zw_aload_n hX dX16_side_82 rfl ?_
      obtain ⟨b13, g, h⟩ := zb_some h
      refine zw_getr hX zl_X16_59 dX16_side_83 g ?_
      refine zw_aload_n hX dX16_side_86 rfl ?_
      refine zw_iload hX dX16_side_87 rfl ?_
      obtain ⟨_, gi, h⟩ := zb_some h
      obtain ⟨r15, g, h⟩ := zb_some h
      refine zc_Vi (as := [.int v8]) hX gi (zt_X16_sideFrom (d := d - 1) (by omega) g) zl_X16_156 rfl dX16_side_89 ⟨rfl, rfl, Nat.le_of_ble_eq_true rfl⟩ ⟨by omega, by omega⟩ ?_
      obtain ⟨v16, g, h⟩ := zb_some h
      refine zw_xi hX dX16_side_92 g ?_
      obtain rfl := Option.some.inj h
      exact zw_iret hX hr dX16_side_93 rfl ⟨rfl, rfl⟩
    rw [if_neg c38_1] at h
    by_cases c38_2 : (i4).toInt = 2
    · rw [if_pos c38_2] at h
      refine zw_tableIn (off := 56) (tgt := 94) hX dX16_side_38 (by rw [c38_2]; decide) (by rw [c38_2]; decide) (by rw [c38_2]; decide) (by decide) ?_
      refine zw_aload_n hX dX16_side_94 rfl ?_
      obtain ⟨b17, g, h⟩ := zb_some h
      refine zw_getr hX zl_X16_62 dX16_side_95 g ?_
      refine zw_aload_n hX dX16_side_98 rfl ?_
      refine zw_iload hX dX16_side_99 rfl ?_
      obtain ⟨_, gi, h⟩ := zb_some h
      obtain ⟨r19, g, h⟩ := zb_some h
      refine zc_Vi (as := [.int v8]) hX gi (zt_X16_sideFrom (d := d - 1) (by omega) g) zl_X16_156 rfl dX16_side_101 ⟨rfl, rfl, Nat.le_of_ble_eq_true rfl⟩ ⟨by omega, by omega⟩ ?_
      obtain ⟨v20, g, h⟩ := zb_some h
      refine zw_xi hX dX16_side_104 g ?_
      obtain rfl := Option.some.inj h
      exact zw_iret hX hr dX16_side_105 rfl ⟨rfl, rfl⟩
    rw [if_neg c38_2] at h
    by_cases c38_3 : (i4).toInt = 3
    · rw [if_pos c38_3] at h
      refine zw_tableIn (off := 68) (tgt := 106) hX dX16_side_38 (by rw [c38_3]; decide) (by rw [c38_3]; decide) (by rw [c38_3]; decide) (by decide) ?_
      refine zw_aload_n hX dX16_side_106 rfl ?_
      obtain ⟨b21, g, h⟩ := zb_some h
      refine zw_getr hX zl_X16_59 dX16_side_107 g ?_
      refine zw_aload_n hX dX16_side_110 rfl ?_
      refine zw_iload hX dX16_side_111 rfl ?_
      obtain ⟨_, gi, h⟩ := zb_some h
      obtain ⟨r23, g, h⟩ := zb_some h
      refine zc_Vi (as := [.int v8]) hX gi (zt_X16_sideTo (d := d - 1) (by omega) g) zl_X16_159 rfl dX16_side_113 ⟨rfl, rfl, Nat.le_of_ble_eq_true rfl⟩ ⟨by omega, by omega⟩ ?_
      obtain ⟨v24, g, h⟩ := zb_some h
      refine zw_xi hX dX16_side_116 g ?_
      obtain rfl := Option.some.inj h
      exact zw_iret hX hr dX16_side_117 rfl ⟨rfl, rfl⟩
    rw [if_neg c38_3] at h
    by_cases c38_4 : (i4).toInt = 4
    · rw [if_pos c38_4] at h
      refine zw_tableIn (off := 80) (tgt := 118) hX dX16_side_38 (by rw [c38_4]; decide) (by rw [c38_4]; decide) (by rw [c38_4]; decide) (by decide) ?_
      refine zw_aload_n hX dX16_side_118 rfl ?_
      obtain ⟨b25, g, h⟩ := zb_some h
      refine zw_getr hX zl_X16_62 dX16_side_119 g ?_
      refine zw_aload_n hX dX16_side_122 rfl ?_
      refine zw_iload hX dX16_side_123 rfl ?_
      obtain ⟨_, gi, h⟩ := zb_some h
      obtain ⟨r27, g, h⟩ := zb_some h
      refine zc_Vi (as := [.int v8]) hX gi (zt_X16_sideTo (d := d - 1) (by omega) g) zl_X16_159 rfl dX16_side_125 ⟨rfl, rfl, Nat.le_of_ble_eq_true rfl⟩ ⟨by omega, by omega⟩ ?_
      obtain ⟨v28, g, h⟩ := zb_some h
      refine zw_xi hX dX16_side_128 g ?_
      obtain rfl := Option.some.inj h
      exact zw_iret hX hr dX16_side_129 rfl ⟨rfl, rfl⟩
    rw [if_neg c38_4] at h
    refine zw_tableOut (tgt := 130) hX dX16_side_38 (by omega) (by decide) ?_
    refine zw_aload_n hX dX16_side_130 rfl ?_
    refine zw_iload hX dX16_side_131 rfl ?_
    obtain ⟨_, gi, h⟩ := zb_some h
    obtain ⟨r10, g, h⟩ := zb_some h
    refine zc_Vi (as := [.int v8]) hX gi (zt_X16_right (d := d - 1) (by omega) g) zl_X16_227 rfl dX16_side_133 ⟨rfl, rfl, Nat.le_of_ble_eq_true rfl⟩ ⟨by omega, by omega⟩ ?_
    obtain rfl := Option.some.inj h
    exact zw_iret hX hr dX16_side_136 rfl ⟨rfl, rfl⟩
set_option maxHeartbeats 4000000 in
set_option maxRecDepth 100000 in
theorem zt_X16_size_J83 {p : Program} {l : Launch} {e : Env} {R : Room} {s : State} {m : MethodId} {args : Array Value} {below : List Frame} {meth : Method} {c : Code} {V : zm_V} {mc ms d rc rs : Nat} (hX : zm_X p R s m args meth c RX16 "size" cX16_size 6 zk_E V mc ms) (hr : meth.sig.returnType = (some .int)) (hR : R.frames = d ∧ R.locals = 64 * d) (hd : 4 ≤ d) {N : Nat} {k : Nat → Int32 → Int32 → Int32 → Int32 → Int32 → zm_S → Option ((Int32 × zm_S) ⊕ ((Int32) × zm_S))} {a0 : Nat} {i1 : Int32} {i2 : Int32} {i4 : Int32} {i5 : Int32} {t0 : Int32} {t1 : Int32} {res : (Int32 × zm_S) ⊕ ((Int32) × zm_S)} {out : (Int32 × zm_S)}   (hf : ∀ o, res = .inl o → o = out) (hk : ∀ (x3 : Int32) (S' : zm_S), res = .inr (x3, S') → zw p l e R s m args below meth c (vx_MQ below (zm_Qc zk_E V (zo_i out)) (zm_XC zk_E V zo_x) args s mc ms (fun q => V.2.2.2.1 ≤ q)) 6 zk_E V mc ms 91 [(0, .ref a0), (1, .int i1), (2, .int i2), (3, .int x3), (4, .int i4)] [] S' rc rs) (hrec : ∀ (i3' : Int32) (i5' : Int32) (S : zm_S), k a0 i1 i2 i3' i4 i5' S = some res → zw p l e R s m args below meth c (vx_MQ below (zm_Qc zk_E V (zo_i out)) (zm_XC zk_E V zo_x) args s mc ms (fun q => V.2.2.2.1 ≤ q)) 6 zk_E V mc ms 17 [(0, .ref a0), (1, .int i1), (2, .int i2), (3, .int i3'), (4, .int i4), (5, .int i5')] [] S rc rs) {S : zm_S} (h : zf_X16_size_J83 N k a0 i1 i2 i4 i5 t0 t1 S = some res) : zw p l e R s m args below meth c (vx_MQ below (zm_Qc zk_E V (zo_i out)) (zm_XC zk_E V zo_x) args s mc ms (fun q => V.2.2.2.1 ≤ q)) 6 zk_E V mc ms 83 [(0, .ref a0), (1, .int i1), (2, .int i2), (4, .int i4), (5, .int i5)] [.int t1, .int t0] S rc rs := by
  unfold zf_X16_size_J83 at h
  refine zw_iadd hX dX16_size_83 ?_
  refine zw_istore_n hX dX16_size_84 (by decide) ?_
  refine zw_iinc (v := (i5 + (1 : Int32))) hX dX16_size_85 rfl rfl (by decide) ?_
  refine zw_goto (tgt := 17) hX dX16_size_88 (by decide) ?_
  refine zw_sub (lv' := [(0, .ref a0), (1, .int i1), (2, .int i2), (3, .int (t0 + t1)), (4, .int i4), (5, .int (i5 + (1 : Int32)))]) (List.forall_mem_cons.mpr ⟨rfl, (List.forall_mem_cons.mpr ⟨rfl, (List.forall_mem_cons.mpr ⟨rfl, (List.forall_mem_cons.mpr ⟨rfl, (List.forall_mem_cons.mpr ⟨rfl, (List.forall_mem_cons.mpr ⟨rfl, zs_nil⟩)⟩)⟩)⟩)⟩)⟩) ?_
  exact hrec _ _ _ h
set_option maxHeartbeats 4000000 in
set_option maxRecDepth 100000 in
theorem zt_X16_size_L17 {p : Program} {l : Launch} {e : Env} {R : Room} {s : State} {m : MethodId} {args : Array Value} {below : List Frame} {meth : Method} {c : Code} {V : zm_V} {mc ms d rc rs : Nat} (hX : zm_X p R s m args meth c RX16 "size" cX16_size 6 zk_E V mc ms) (hr : meth.sig.returnType = (some .int)) (hR : R.frames = d ∧ R.locals = 64 * d) (hd : 4 ≤ d) {N : Nat} {res : (Int32 × zm_S) ⊕ ((Int32) × zm_S)} {out : (Int32 × zm_S)} (a0 : Nat) (i1 : Int32) (i2 : Int32) (i4 : Int32) (hf : ∀ o, res = .inl o → o = out) (hk : ∀ (x3 : Int32) (S' : zm_S), res = .inr (x3, S') → zw p l e R s m args below meth c (vx_MQ below (zm_Qc zk_E V (zo_i out)) (zm_XC zk_E V zo_x) args s mc ms (fun q => V.2.2.2.1 ≤ q)) 6 zk_E V mc ms 91 [(0, .ref a0), (1, .int i1), (2, .int i2), (3, .int x3), (4, .int i4)] [] S' rc rs) : ∀ (n : Nat) (i3 : Int32) (i5 : Int32) (S : zm_S), zf_X16_size_L17 N n a0 i1 i2 i3 i4 i5 S = some res → zw p l e R s m args below meth c (vx_MQ below (zm_Qc zk_E V (zo_i out)) (zm_XC zk_E V zo_x) args s mc ms (fun q => V.2.2.2.1 ≤ q)) 6 zk_E V mc ms 17 [(0, .ref a0), (1, .int i1), (2, .int i2), (3, .int i3), (4, .int i4), (5, .int i5)] [] S rc rs := by
  intro n
  induction n with
  | zero => intro i3 i5 S h; cases h
  | succ n ih =>
    intro i3 i5 S h
    rw [zf_X16_size_L17] at h
    refine zw_iload hX dX16_size_17 rfl ?_
    refine zw_aload_n hX dX16_size_19 rfl ?_
    obtain ⟨v2, g, h⟩ := zb_some h
    refine zw_geti hX zl_X16_118 dX16_size_20 g ?_
    refine zw_icmp_ge (tgt := 91) hX dX16_size_23 (by decide) (fun c23 => ?_) (fun c23 => ?_)
    · rw [if_pos c23] at h
      refine zw_sub (lv' := [(0, .ref a0), (1, .int i1), (2, .int i2), (3, .int i3), (4, .int i4)]) (List.forall_mem_cons.mpr ⟨rfl, (List.forall_mem_cons.mpr ⟨rfl, (List.forall_mem_cons.mpr ⟨rfl, (List.forall_mem_cons.mpr ⟨rfl, (List.forall_mem_cons.mpr ⟨rfl, zs_nil⟩)⟩)⟩)⟩)⟩) ?_
      exact hk _ _ (Option.some.inj h).symm
    · rw [if_neg c23] at h
      refine zw_iload_n hX dX16_size_26 rfl ?_
      refine zw_aload_n hX dX16_size_27 rfl ?_
      obtain ⟨b3, g, h⟩ := zb_some h
      refine zw_getr hX zl_X16_41 dX16_size_28 g ?_
      refine zw_bipush (v := (42 : Int32)) hX dX16_size_31 (by decide) ?_
      refine zw_iload hX dX16_size_33 rfl ?_
      refine zw_imul hX dX16_size_35 ?_
      refine zw_iload hX dX16_size_36 rfl ?_
      refine zw_iadd hX dX16_size_38 ?_
      obtain ⟨v4, g, h⟩ := zb_some h
      refine zw_xi hX dX16_size_39 g ?_
      refine zw_iload_n hX dX16_size_40 rfl ?_
      refine zw_icmp_ne (tgt := 82) hX dX16_size_41 (by decide) (fun c41 => ?_) (fun c41 => ?_)
      · rw [if_neg c41] at h
        refine zw_iconst (v := (0 : Int32)) hX dX16_size_82 (by decide) ?_
        refine zw_sub (lv' := [(0, .ref a0), (1, .int i1), (2, .int i2), (4, .int i4), (5, .int i5)]) (List.forall_mem_cons.mpr ⟨rfl, (List.forall_mem_cons.mpr ⟨rfl, (List.forall_mem_cons.mpr ⟨rfl, (List.forall_mem_cons.mpr ⟨rfl, (List.forall_mem_cons.mpr ⟨rfl, zs_nil⟩)⟩)⟩)⟩)⟩) ?_
        exact zt_X16_size_J83 hX hr hR hd hf hk ih h
      · rw [if_pos c41] at h
        refine zw_aload_n hX dX16_size_44 rfl ?_
        obtain ⟨b5, g, h⟩ := zb_some h
        refine zw_getr hX zl_X16_35 dX16_size_45 g ?_
        refine zw_iload hX dX16_size_48 rfl ?_
        obtain ⟨v6, g, h⟩ := zb_some h
        refine zw_xi hX dX16_size_50 g ?_
        refine zw_aload_n hX dX16_size_51 rfl ?_
        obtain ⟨b7, g, h⟩ := zb_some h
        refine zw_getr hX zl_X16_35 dX16_size_52 g ?_
        refine zw_iload hX dX16_size_55 rfl ?_
        refine zw_iconst (v := (1 : Int32)) hX dX16_size_57 (by decide) ?_
        refine zw_isub hX dX16_size_58 ?_
        obtain ⟨v8, g, h⟩ := zb_some h
        refine zw_xi hX dX16_size_59 g ?_
        refine zw_isub hX dX16_size_60 ?_
        refine zw_aload_n hX dX16_size_61 rfl ?_
        obtain ⟨b9, g, h⟩ := zb_some h
        refine zw_getr hX zl_X16_38 dX16_size_62 g ?_
        refine zw_iload hX dX16_size_65 rfl ?_
        obtain ⟨v10, g, h⟩ := zb_some h
        refine zw_xi hX dX16_size_67 g ?_
        refine zw_aload_n hX dX16_size_68 rfl ?_
        obtain ⟨b11, g, h⟩ := zb_some h
        refine zw_getr hX zl_X16_38 dX16_size_69 g ?_
        refine zw_iload hX dX16_size_72 rfl ?_
        refine zw_iconst (v := (1 : Int32)) hX dX16_size_74 (by decide) ?_
        refine zw_isub hX dX16_size_75 ?_
        obtain ⟨v12, g, h⟩ := zb_some h
        refine zw_xi hX dX16_size_76 g ?_
        refine zw_isub hX dX16_size_77 ?_
        refine zw_imul hX dX16_size_78 ?_
        refine zw_goto (tgt := 83) hX dX16_size_79 (by decide) ?_
        refine zw_sub (lv' := [(0, .ref a0), (1, .int i1), (2, .int i2), (4, .int i4), (5, .int i5)]) (List.forall_mem_cons.mpr ⟨rfl, (List.forall_mem_cons.mpr ⟨rfl, (List.forall_mem_cons.mpr ⟨rfl, (List.forall_mem_cons.mpr ⟨rfl, (List.forall_mem_cons.mpr ⟨rfl, zs_nil⟩)⟩)⟩)⟩)⟩) ?_
        exact zt_X16_size_J83 hX hr hR hd hf hk ih h
set_option maxHeartbeats 4000000 in
set_option maxRecDepth 100000 in
theorem zt_X16_size_L5 {p : Program} {l : Launch} {e : Env} {R : Room} {s : State} {m : MethodId} {args : Array Value} {below : List Frame} {meth : Method} {c : Code} {V : zm_V} {mc ms d rc rs : Nat} (hX : zm_X p R s m args meth c RX16 "size" cX16_size 6 zk_E V mc ms) (hr : meth.sig.returnType = (some .int)) (hR : R.frames = d ∧ R.locals = 64 * d) (hd : 4 ≤ d) {N : Nat} {res : (Int32 × zm_S) ⊕ ((Int32) × zm_S)} {out : (Int32 × zm_S)} (a0 : Nat) (i1 : Int32) (i2 : Int32) (hf : ∀ o, res = .inl o → o = out) (hk : ∀ (x3 : Int32) (S' : zm_S), res = .inr (x3, S') → zw p l e R s m args below meth c (vx_MQ below (zm_Qc zk_E V (zo_i out)) (zm_XC zk_E V zo_x) args s mc ms (fun q => V.2.2.2.1 ≤ q)) 6 zk_E V mc ms 97 [(0, .ref a0), (1, .int i1), (2, .int i2), (3, .int x3)] [] S' rc rs) : ∀ (n : Nat) (i3 : Int32) (i4 : Int32) (S : zm_S), zf_X16_size_L5 N n a0 i1 i2 i3 i4 S = some res → zw p l e R s m args below meth c (vx_MQ below (zm_Qc zk_E V (zo_i out)) (zm_XC zk_E V zo_x) args s mc ms (fun q => V.2.2.2.1 ≤ q)) 6 zk_E V mc ms 5 [(0, .ref a0), (1, .int i1), (2, .int i2), (3, .int i3), (4, .int i4)] [] S rc rs := by
  intro n
  induction n with
  | zero => intro i3 i4 S h; cases h
  | succ n ih =>
    intro i3 i4 S h
    rw [zf_X16_size_L5] at h
    refine zw_iload hX dX16_size_5 rfl ?_
    refine zw_aload_n hX dX16_size_7 rfl ?_
    obtain ⟨v1, g, h⟩ := zb_some h
    refine zw_geti hX zl_X16_115 dX16_size_8 g ?_
    refine zw_icmp_ge (tgt := 97) hX dX16_size_11 (by decide) (fun c11 => ?_) (fun c11 => ?_)
    · rw [if_pos c11] at h
      refine zw_sub (lv' := [(0, .ref a0), (1, .int i1), (2, .int i2), (3, .int i3)]) (List.forall_mem_cons.mpr ⟨rfl, (List.forall_mem_cons.mpr ⟨rfl, (List.forall_mem_cons.mpr ⟨rfl, (List.forall_mem_cons.mpr ⟨rfl, zs_nil⟩)⟩)⟩)⟩) ?_
      exact hk _ _ (Option.some.inj h).symm
    · rw [if_neg c11] at h
      refine zw_iconst (v := (1 : Int32)) hX dX16_size_14 (by decide) ?_
      refine zw_istore hX dX16_size_15 (by decide) ?_
      obtain ⟨r, g, h⟩ := zb_some h
      refine zw_sub (lv' := [(0, .ref a0), (1, .int i1), (2, .int i2), (3, .int i3), (4, .int i4), (5, .int (1 : Int32))]) (List.forall_mem_cons.mpr ⟨rfl, (List.forall_mem_cons.mpr ⟨rfl, (List.forall_mem_cons.mpr ⟨rfl, (List.forall_mem_cons.mpr ⟨rfl, (List.forall_mem_cons.mpr ⟨rfl, (List.forall_mem_cons.mpr ⟨rfl, zs_nil⟩)⟩)⟩)⟩)⟩)⟩) ?_
      refine zt_X16_size_L17 hX hr hR hd (res := r) (out := out) a0 i1 i2 i4 ?_ ?_ N _ _ _ g
      · intro o ho
        subst ho
        exact hf _ (Option.some.inj h).symm
      · intro v14 S13 hx
        subst hx
        try dsimp only at h
        refine zw_iinc (v := (i4 + (1 : Int32))) hX dX16_size_91 rfl rfl (by decide) ?_
        refine zw_goto (tgt := 5) hX dX16_size_94 (by decide) ?_
        refine zw_sub (lv' := [(0, .ref a0), (1, .int i1), (2, .int i2), (3, .int v14), (4, .int (i4 + (1 : Int32)))]) (List.forall_mem_cons.mpr ⟨rfl, (List.forall_mem_cons.mpr ⟨rfl, (List.forall_mem_cons.mpr ⟨rfl, (List.forall_mem_cons.mpr ⟨rfl, (List.forall_mem_cons.mpr ⟨rfl, zs_nil⟩)⟩)⟩)⟩)⟩) ?_
        exact ih _ _ _ h
set_option maxHeartbeats 4000000 in
set_option maxRecDepth 100000 in
theorem zt_X16_size_J136 {p : Program} {l : Launch} {e : Env} {R : Room} {s : State} {m : MethodId} {args : Array Value} {below : List Frame} {meth : Method} {c : Code} {V : zm_V} {mc ms d rc rs : Nat} (hX : zm_X p R s m args meth c RX16 "size" cX16_size 6 zk_E V mc ms) (hr : meth.sig.returnType = (some .int)) (hR : R.frames = d ∧ R.locals = 64 * d) (hd : 4 ≤ d) {N : Nat} {k : Nat → Int32 → Int32 → Int32 → Int32 → Int32 → zm_S → Option ((Int32 × zm_S) ⊕ ((Int32) × zm_S))} {a0 : Nat} {i1 : Int32} {i2 : Int32} {i3 : Int32} {i5 : Int32} {t0 : Int32} {t1 : Int32} {res : (Int32 × zm_S) ⊕ ((Int32) × zm_S)} {out : (Int32 × zm_S)}   (hf : ∀ o, res = .inl o → o = out) (hk : ∀ (x4 : Int32) (S' : zm_S), res = .inr (x4, S') → zw p l e R s m args below meth c (vx_MQ below (zm_Qc zk_E V (zo_i out)) (zm_XC zk_E V zo_x) args s mc ms (fun q => V.2.2.2.1 ≤ q)) 6 zk_E V mc ms 145 [(0, .ref a0), (1, .int i1), (2, .int i2), (3, .int i3), (4, .int x4)] [] S' rc rs) (hrec : ∀ (i4' : Int32) (i5' : Int32) (S : zm_S), k a0 i1 i2 i3 i4' i5' S = some res → zw p l e R s m args below meth c (vx_MQ below (zm_Qc zk_E V (zo_i out)) (zm_XC zk_E V zo_x) args s mc ms (fun q => V.2.2.2.1 ≤ q)) 6 zk_E V mc ms 103 [(0, .ref a0), (1, .int i1), (2, .int i2), (3, .int i3), (4, .int i4'), (5, .int i5')] [] S rc rs) {S : zm_S} (h : zf_X16_size_J136 N k a0 i1 i2 i3 i5 t0 t1 S = some res) : zw p l e R s m args below meth c (vx_MQ below (zm_Qc zk_E V (zo_i out)) (zm_XC zk_E V zo_x) args s mc ms (fun q => V.2.2.2.1 ≤ q)) 6 zk_E V mc ms 136 [(0, .ref a0), (1, .int i1), (2, .int i2), (3, .int i3), (5, .int i5)] [.int t1, .int t0] S rc rs := by
  unfold zf_X16_size_J136 at h
  refine zw_iadd hX dX16_size_136 ?_
  refine zw_istore hX dX16_size_137 (by decide) ?_
  refine zw_iinc (v := (i5 + (1 : Int32))) hX dX16_size_139 rfl rfl (by decide) ?_
  refine zw_goto (tgt := 103) hX dX16_size_142 (by decide) ?_
  refine zw_sub (lv' := [(0, .ref a0), (1, .int i1), (2, .int i2), (3, .int i3), (4, .int (t0 + t1)), (5, .int (i5 + (1 : Int32)))]) (List.forall_mem_cons.mpr ⟨rfl, (List.forall_mem_cons.mpr ⟨rfl, (List.forall_mem_cons.mpr ⟨rfl, (List.forall_mem_cons.mpr ⟨rfl, (List.forall_mem_cons.mpr ⟨rfl, (List.forall_mem_cons.mpr ⟨rfl, zs_nil⟩)⟩)⟩)⟩)⟩)⟩) ?_
  exact hrec _ _ _ h
set_option maxHeartbeats 4000000 in
set_option maxRecDepth 100000 in
theorem zt_X16_size_L103 {p : Program} {l : Launch} {e : Env} {R : Room} {s : State} {m : MethodId} {args : Array Value} {below : List Frame} {meth : Method} {c : Code} {V : zm_V} {mc ms d rc rs : Nat} (hX : zm_X p R s m args meth c RX16 "size" cX16_size 6 zk_E V mc ms) (hr : meth.sig.returnType = (some .int)) (hR : R.frames = d ∧ R.locals = 64 * d) (hd : 4 ≤ d) {N : Nat} {res : (Int32 × zm_S) ⊕ ((Int32) × zm_S)} {out : (Int32 × zm_S)} (a0 : Nat) (i1 : Int32) (i2 : Int32) (i3 : Int32) (hf : ∀ o, res = .inl o → o = out) (hk : ∀ (x4 : Int32) (S' : zm_S), res = .inr (x4, S') → zw p l e R s m args below meth c (vx_MQ below (zm_Qc zk_E V (zo_i out)) (zm_XC zk_E V zo_x) args s mc ms (fun q => V.2.2.2.1 ≤ q)) 6 zk_E V mc ms 145 [(0, .ref a0), (1, .int i1), (2, .int i2), (3, .int i3), (4, .int x4)] [] S' rc rs) : ∀ (n : Nat) (i4 : Int32) (i5 : Int32) (S : zm_S), zf_X16_size_L103 N n a0 i1 i2 i3 i4 i5 S = some res → zw p l e R s m args below meth c (vx_MQ below (zm_Qc zk_E V (zo_i out)) (zm_XC zk_E V zo_x) args s mc ms (fun q => V.2.2.2.1 ≤ q)) 6 zk_E V mc ms 103 [(0, .ref a0), (1, .int i1), (2, .int i2), (3, .int i3), (4, .int i4), (5, .int i5)] [] S rc rs := by
  intro n
  induction n with
  | zero => intro i4 i5 S h; cases h
  | succ n ih =>
    intro i4 i5 S h
    rw [zf_X16_size_L103] at h
    refine zw_iload hX dX16_size_103 rfl ?_
    refine zw_iconst (v := (2 : Int32)) hX dX16_size_105 (by decide) ?_
    refine zw_aload_n hX dX16_size_106 rfl ?_
    obtain ⟨v17, g, h⟩ := zb_some h
    refine zw_geti hX zl_X16_143 dX16_size_107 g ?_
    refine zw_imul hX dX16_size_110 ?_
    refine zw_icmp_ge (tgt := 145) hX dX16_size_111 (by decide) (fun c111 => ?_) (fun c111 => ?_)
    · rw [if_pos c111] at h
      refine zw_sub (lv' := [(0, .ref a0), (1, .int i1), (2, .int i2), (3, .int i3), (4, .int i4)]) (List.forall_mem_cons.mpr ⟨rfl, (List.forall_mem_cons.mpr ⟨rfl, (List.forall_mem_cons.mpr ⟨rfl, (List.forall_mem_cons.mpr ⟨rfl, (List.forall_mem_cons.mpr ⟨rfl, zs_nil⟩)⟩)⟩)⟩)⟩) ?_
      exact hk _ _ (Option.some.inj h).symm
    · rw [if_neg c111] at h
      refine zw_iload hX dX16_size_114 rfl ?_
      refine zw_aload_n hX dX16_size_116 rfl ?_
      refine zw_iload hX dX16_size_117 rfl ?_
      obtain ⟨_, gi, h⟩ := zb_some h
      obtain ⟨r19, g, h⟩ := zb_some h
      refine zc_Vi (as := [.int i5]) hX gi (zt_X16_left (d := d - 1) (by omega) g) zl_X16_153 rfl dX16_size_119 ⟨rfl, rfl, Nat.le_of_ble_eq_true rfl⟩ ⟨by omega, by omega⟩ ?_
      refine zw_iload_n hX dX16_size_122 rfl ?_
      refine zw_icmp_ne (tgt := 135) hX dX16_size_123 (by decide) (fun c123 => ?_) (fun c123 => ?_)
      · rw [if_neg c123] at h
        refine zw_iconst (v := (0 : Int32)) hX dX16_size_135 (by decide) ?_
        refine zw_sub (lv' := [(0, .ref a0), (1, .int i1), (2, .int i2), (3, .int i3), (5, .int i5)]) (List.forall_mem_cons.mpr ⟨rfl, (List.forall_mem_cons.mpr ⟨rfl, (List.forall_mem_cons.mpr ⟨rfl, (List.forall_mem_cons.mpr ⟨rfl, (List.forall_mem_cons.mpr ⟨rfl, zs_nil⟩)⟩)⟩)⟩)⟩) ?_
        exact zt_X16_size_J136 hX hr hR hd hf hk ih h
      · rw [if_pos c123] at h
        refine zw_aload_n hX dX16_size_126 rfl ?_
        refine zw_iload hX dX16_size_127 rfl ?_
        obtain ⟨_, gi, h⟩ := zb_some h
        obtain ⟨r21, g, h⟩ := zb_some h
        refine zc_Vi (as := [.int i5]) hX gi (zt_X16_sideLength (d := d - 1) (by omega) g) zl_X16_230 rfl dX16_size_129 ⟨rfl, rfl, Nat.le_of_ble_eq_true rfl⟩ ⟨by omega, by omega⟩ ?_
        refine zw_goto (tgt := 136) hX dX16_size_132 (by decide) ?_
        refine zw_sub (lv' := [(0, .ref a0), (1, .int i1), (2, .int i2), (3, .int i3), (5, .int i5)]) (List.forall_mem_cons.mpr ⟨rfl, (List.forall_mem_cons.mpr ⟨rfl, (List.forall_mem_cons.mpr ⟨rfl, (List.forall_mem_cons.mpr ⟨rfl, (List.forall_mem_cons.mpr ⟨rfl, zs_nil⟩)⟩)⟩)⟩)⟩) ?_
        exact zt_X16_size_J136 hX hr hR hd hf hk ih h
set_option maxHeartbeats 4000000 in
set_option maxRecDepth 100000 in
theorem zt_X16_size {l : Launch} {V : zm_V} {N : Nat} {S : zm_S} {out : (Int32 × zm_S)} {d : Nat} {a0 : Nat} {i1 : Int32} {i2 : Int32} (hd : 4 ≤ d) (h : zf_X16_size N a0 i1 i2 S = some out) : zm_Met l zk_E V yX16_size (.code yX16_size cX16_size 6 (some .int)) d [.ref a0, .int i1, .int i2] S 0 0 (zo_i out) zo_x := by
  refine zm_of (by decide +kernel) (Nat.le_of_ble_eq_true rfl) ?_
  intro p e R s m args below meth c hRR hX hr hxt
  have hR : R.frames = d ∧ R.locals = 64 * d := by rw [hRR]; exact ⟨rfl, rfl⟩
  have hX : zm_X p R s m args meth c RX16 "size" cX16_size 6 zk_E V 0 0 := hX
  unfold zf_X16_size at h
  refine zw_sub (lv' := [(0, .ref a0), (1, .int i1), (2, .int i2)]) (List.forall_mem_cons.mpr ⟨rfl, (List.forall_mem_cons.mpr ⟨rfl, (List.forall_mem_cons.mpr ⟨rfl, zs_nil⟩)⟩)⟩) ?_
  refine zw_iconst (v := (0 : Int32)) hX dX16_size_0 (by decide) ?_
  refine zw_istore_n hX dX16_size_1 (by decide) ?_
  refine zw_iconst (v := (1 : Int32)) hX dX16_size_2 (by decide) ?_
  refine zw_istore hX dX16_size_3 (by decide) ?_
  obtain ⟨r, g, h⟩ := zb_some h
  refine zw_sub (lv' := [(0, .ref a0), (1, .int i1), (2, .int i2), (3, .int (0 : Int32)), (4, .int (1 : Int32))]) (List.forall_mem_cons.mpr ⟨rfl, (List.forall_mem_cons.mpr ⟨rfl, (List.forall_mem_cons.mpr ⟨rfl, (List.forall_mem_cons.mpr ⟨rfl, (List.forall_mem_cons.mpr ⟨rfl, zs_nil⟩)⟩)⟩)⟩)⟩) ?_
  refine zt_X16_size_L5 hX hr hR hd (res := r) (out := out) a0 i1 i2 ?_ ?_ N _ _ _ g
  · intro o ho
    subst ho
    exact Option.some.inj h
  · intro v16 S15 hx
    subst hx
    try dsimp only at h
    refine zw_iconst (v := (0 : Int32)) hX dX16_size_97 (by decide) ?_
    refine zw_istore hX dX16_size_98 (by decide) ?_
    refine zw_iconst (v := (0 : Int32)) hX dX16_size_100 (by decide) ?_
    refine zw_istore hX dX16_size_101 (by decide) ?_
    obtain ⟨r, g, h⟩ := zb_some h
    refine zw_sub (lv' := [(0, .ref a0), (1, .int i1), (2, .int i2), (3, .int v16), (4, .int (0 : Int32)), (5, .int (0 : Int32))]) (List.forall_mem_cons.mpr ⟨rfl, (List.forall_mem_cons.mpr ⟨rfl, (List.forall_mem_cons.mpr ⟨rfl, (List.forall_mem_cons.mpr ⟨rfl, (List.forall_mem_cons.mpr ⟨rfl, (List.forall_mem_cons.mpr ⟨rfl, zs_nil⟩)⟩)⟩)⟩)⟩)⟩) ?_
    refine zt_X16_size_L103 hX hr hR hd (res := r) (out := out) a0 i1 i2 v16 ?_ ?_ N _ _ _ g
    · intro o ho
      subst ho
      exact Option.some.inj h
    · intro v23 S22 hx
      subst hx
      try dsimp only at h
      refine zw_iload_n hX dX16_size_145 rfl ?_
      refine zw_if_ne (tgt := 153) hX dX16_size_146 (by decide) (fun c146 => ?_) (fun c146 => ?_)
      · rw [if_neg c146] at h
        refine zw_iload_n hX dX16_size_153 rfl ?_
        refine zw_iconst (v := (1 : Int32)) hX dX16_size_154 (by decide) ?_
        refine zw_icmp_ne (tgt := 163) hX dX16_size_155 (by decide) (fun c155 => ?_) (fun c155 => ?_)
        · rw [if_neg c155] at h
          refine zw_aload_n hX dX16_size_163 rfl ?_
          refine zw_iload_n hX dX16_size_164 rfl ?_
          obtain ⟨_, gi, h⟩ := zb_some h
          obtain ⟨r25, g, h⟩ := zb_some h
          refine zc_Vi (as := [.int i1]) hX gi (zt_X16_ringsOf (d := d - 1) (by omega) g) zl_X16_233 rfl dX16_size_165 ⟨rfl, rfl, Nat.le_of_ble_eq_true rfl⟩ ⟨by omega, by omega⟩ ?_
          obtain rfl := Option.some.inj h
          exact zw_iret hX hr dX16_size_168 rfl ⟨rfl, rfl⟩
        · rw [if_pos c155] at h
          refine zw_iload hX dX16_size_158 rfl ?_
          refine zw_goto (tgt := 168) hX dX16_size_160 (by decide) ?_
          obtain rfl := Option.some.inj h
          exact zw_iret hX hr dX16_size_168 rfl ⟨rfl, rfl⟩
      · rw [if_pos c146] at h
        refine zw_iload_n hX dX16_size_149 rfl ?_
        refine zw_goto (tgt := 168) hX dX16_size_150 (by decide) ?_
        obtain rfl := Option.some.inj h
        exact zw_iret hX hr dX16_size_168 rfl ⟨rfl, rfl⟩
set_option maxHeartbeats 4000000 in
set_option maxRecDepth 100000 in
theorem zt_X16_at_L2 {p : Program} {l : Launch} {e : Env} {R : Room} {s : State} {m : MethodId} {args : Array Value} {below : List Frame} {meth : Method} {c : Code} {V : zm_V} {mc ms d rc rs : Nat} (hX : zm_X p R s m args meth c RX16 "at" cX16_at 5 zk_E V mc ms) (hr : meth.sig.returnType = (some .int)) (hR : R.frames = d ∧ R.locals = 64 * d) (hd : 1 ≤ d) {N : Nat} {res : (Int32 × zm_S) ⊕ ((Int32) × zm_S)} {out : (Int32 × zm_S)} (a0 : Nat) (i1 : Int32) (i2 : Int32) (hf : ∀ o, res = .inl o → o = out) (hk : ∀ (x3 : Int32) (S' : zm_S), res = .inr (x3, S') → zw p l e R s m args below meth c (vx_MQ below (zm_Qc zk_E V (zo_i out)) (zm_XC zk_E V zo_x) args s mc ms (fun q => V.2.2.2.1 ≤ q)) 5 zk_E V mc ms 26 [(0, .ref a0), (2, .int i2), (3, .int x3)] [] S' rc rs) : ∀ (n : Nat) (i3 : Int32) (S : zm_S), zf_X16_at_L2 N n a0 i1 i2 i3 S = some res → zw p l e R s m args below meth c (vx_MQ below (zm_Qc zk_E V (zo_i out)) (zm_XC zk_E V zo_x) args s mc ms (fun q => V.2.2.2.1 ≤ q)) 5 zk_E V mc ms 2 [(0, .ref a0), (1, .int i1), (2, .int i2), (3, .int i3)] [] S rc rs := by
  intro n
  induction n with
  | zero => intro i3 S h; cases h
  | succ n ih =>
    intro i3 S h
    rw [zf_X16_at_L2] at h
    refine zw_iload_n hX dX16_at_2 rfl ?_
    refine zw_aload_n hX dX16_at_3 rfl ?_
    obtain ⟨v1, g, h⟩ := zb_some h
    refine zw_geti hX zl_X16_118 dX16_at_4 g ?_
    refine zw_icmp_ge (tgt := 26) hX dX16_at_7 (by decide) (fun c7 => ?_) (fun c7 => ?_)
    · rw [if_pos c7] at h
      refine zw_sub (lv' := [(0, .ref a0), (2, .int i2), (3, .int i3)]) (List.forall_mem_cons.mpr ⟨rfl, (List.forall_mem_cons.mpr ⟨rfl, (List.forall_mem_cons.mpr ⟨rfl, zs_nil⟩)⟩)⟩) ?_
      exact hk _ _ (Option.some.inj h).symm
    · rw [if_neg c7] at h
      refine zw_aload_n hX dX16_at_10 rfl ?_
      obtain ⟨b2, g, h⟩ := zb_some h
      refine zw_getr hX zl_X16_35 dX16_at_11 g ?_
      refine zw_iload_n hX dX16_at_14 rfl ?_
      obtain ⟨v3, g, h⟩ := zb_some h
      refine zw_xi hX dX16_at_15 g ?_
      refine zw_iload_n hX dX16_at_16 rfl ?_
      refine zw_icmp_gt (tgt := 26) hX dX16_at_17 (by decide) (fun c17 => ?_) (fun c17 => ?_)
      · rw [if_pos c17] at h
        refine zw_sub (lv' := [(0, .ref a0), (2, .int i2), (3, .int i3)]) (List.forall_mem_cons.mpr ⟨rfl, (List.forall_mem_cons.mpr ⟨rfl, (List.forall_mem_cons.mpr ⟨rfl, zs_nil⟩)⟩)⟩) ?_
        exact hk _ _ (Option.some.inj h).symm
      · rw [if_neg c17] at h
        refine zw_iinc (v := (i3 + (1 : Int32))) hX dX16_at_20 rfl rfl (by decide) ?_
        refine zw_goto (tgt := 2) hX dX16_at_23 (by decide) ?_
        refine zw_sub (lv' := [(0, .ref a0), (1, .int i1), (2, .int i2), (3, .int (i3 + (1 : Int32)))]) (List.forall_mem_cons.mpr ⟨rfl, (List.forall_mem_cons.mpr ⟨rfl, (List.forall_mem_cons.mpr ⟨rfl, (List.forall_mem_cons.mpr ⟨rfl, zs_nil⟩)⟩)⟩)⟩) ?_
        exact ih _ _ h
set_option maxHeartbeats 4000000 in
set_option maxRecDepth 100000 in
theorem zt_X16_at_L29 {p : Program} {l : Launch} {e : Env} {R : Room} {s : State} {m : MethodId} {args : Array Value} {below : List Frame} {meth : Method} {c : Code} {V : zm_V} {mc ms d rc rs : Nat} (hX : zm_X p R s m args meth c RX16 "at" cX16_at 5 zk_E V mc ms) (hr : meth.sig.returnType = (some .int)) (hR : R.frames = d ∧ R.locals = 64 * d) (hd : 1 ≤ d) {N : Nat} {res : (Int32 × zm_S) ⊕ ((Int32) × zm_S)} {out : (Int32 × zm_S)} (a0 : Nat) (i2 : Int32) (i3 : Int32) (hf : ∀ o, res = .inl o → o = out) (hk : ∀ (x4 : Int32) (S' : zm_S), res = .inr (x4, S') → zw p l e R s m args below meth c (vx_MQ below (zm_Qc zk_E V (zo_i out)) (zm_XC zk_E V zo_x) args s mc ms (fun q => V.2.2.2.1 ≤ q)) 5 zk_E V mc ms 55 [(0, .ref a0), (3, .int i3), (4, .int x4)] [] S' rc rs) : ∀ (n : Nat) (i4 : Int32) (S : zm_S), zf_X16_at_L29 N n a0 i2 i3 i4 S = some res → zw p l e R s m args below meth c (vx_MQ below (zm_Qc zk_E V (zo_i out)) (zm_XC zk_E V zo_x) args s mc ms (fun q => V.2.2.2.1 ≤ q)) 5 zk_E V mc ms 29 [(0, .ref a0), (2, .int i2), (3, .int i3), (4, .int i4)] [] S rc rs := by
  intro n
  induction n with
  | zero => intro i4 S h; cases h
  | succ n ih =>
    intro i4 S h
    rw [zf_X16_at_L29] at h
    refine zw_iload hX dX16_at_29 rfl ?_
    refine zw_aload_n hX dX16_at_31 rfl ?_
    obtain ⟨v6, g, h⟩ := zb_some h
    refine zw_geti hX zl_X16_115 dX16_at_32 g ?_
    refine zw_icmp_ge (tgt := 55) hX dX16_at_35 (by decide) (fun c35 => ?_) (fun c35 => ?_)
    · rw [if_pos c35] at h
      refine zw_sub (lv' := [(0, .ref a0), (3, .int i3), (4, .int i4)]) (List.forall_mem_cons.mpr ⟨rfl, (List.forall_mem_cons.mpr ⟨rfl, (List.forall_mem_cons.mpr ⟨rfl, zs_nil⟩)⟩)⟩) ?_
      exact hk _ _ (Option.some.inj h).symm
    · rw [if_neg c35] at h
      refine zw_aload_n hX dX16_at_38 rfl ?_
      obtain ⟨b7, g, h⟩ := zb_some h
      refine zw_getr hX zl_X16_38 dX16_at_39 g ?_
      refine zw_iload hX dX16_at_42 rfl ?_
      obtain ⟨v8, g, h⟩ := zb_some h
      refine zw_xi hX dX16_at_44 g ?_
      refine zw_iload_n hX dX16_at_45 rfl ?_
      refine zw_icmp_gt (tgt := 55) hX dX16_at_46 (by decide) (fun c46 => ?_) (fun c46 => ?_)
      · rw [if_pos c46] at h
        refine zw_sub (lv' := [(0, .ref a0), (3, .int i3), (4, .int i4)]) (List.forall_mem_cons.mpr ⟨rfl, (List.forall_mem_cons.mpr ⟨rfl, (List.forall_mem_cons.mpr ⟨rfl, zs_nil⟩)⟩)⟩) ?_
        exact hk _ _ (Option.some.inj h).symm
      · rw [if_neg c46] at h
        refine zw_iinc (v := (i4 + (1 : Int32))) hX dX16_at_49 rfl rfl (by decide) ?_
        refine zw_goto (tgt := 29) hX dX16_at_52 (by decide) ?_
        refine zw_sub (lv' := [(0, .ref a0), (2, .int i2), (3, .int i3), (4, .int (i4 + (1 : Int32)))]) (List.forall_mem_cons.mpr ⟨rfl, (List.forall_mem_cons.mpr ⟨rfl, (List.forall_mem_cons.mpr ⟨rfl, (List.forall_mem_cons.mpr ⟨rfl, zs_nil⟩)⟩)⟩)⟩) ?_
        exact ih _ _ h
set_option maxHeartbeats 4000000 in
set_option maxRecDepth 100000 in
theorem zt_X16_at_J55 {p : Program} {l : Launch} {e : Env} {R : Room} {s : State} {m : MethodId} {args : Array Value} {below : List Frame} {meth : Method} {c : Code} {V : zm_V} {mc ms d rc rs : Nat} (hX : zm_X p R s m args meth c RX16 "at" cX16_at 5 zk_E V mc ms) (hr : meth.sig.returnType = (some .int)) (hR : R.frames = d ∧ R.locals = 64 * d) (hd : 1 ≤ d) {N : Nat} {a0 : Nat} {i3 : Int32} {i4 : Int32} {out : (Int32 × zm_S)} {S : zm_S} (h : zf_X16_at_J55 N a0 i3 i4 S = some out) : zw p l e R s m args below meth c (vx_MQ below (zm_Qc zk_E V (zo_i out)) (zm_XC zk_E V zo_x) args s mc ms (fun q => V.2.2.2.1 ≤ q)) 5 zk_E V mc ms 55 [(0, .ref a0), (3, .int i3), (4, .int i4)] [] S rc rs := by
  unfold zf_X16_at_J55 at h
  refine zw_aload_n hX dX16_at_55 rfl ?_
  obtain ⟨b11, g, h⟩ := zb_some h
  refine zw_getr hX zl_X16_41 dX16_at_56 g ?_
  refine zw_bipush (v := (42 : Int32)) hX dX16_at_59 (by decide) ?_
  refine zw_iload hX dX16_at_61 rfl ?_
  refine zw_imul hX dX16_at_63 ?_
  refine zw_iload_n hX dX16_at_64 rfl ?_
  refine zw_iadd hX dX16_at_65 ?_
  obtain ⟨v12, g, h⟩ := zb_some h
  refine zw_xi hX dX16_at_66 g ?_
  obtain rfl := Option.some.inj h
  exact zw_iret hX hr dX16_at_67 rfl ⟨rfl, rfl⟩
set_option maxHeartbeats 4000000 in
set_option maxRecDepth 100000 in
theorem zt_X16_at_J26 {p : Program} {l : Launch} {e : Env} {R : Room} {s : State} {m : MethodId} {args : Array Value} {below : List Frame} {meth : Method} {c : Code} {V : zm_V} {mc ms d rc rs : Nat} (hX : zm_X p R s m args meth c RX16 "at" cX16_at 5 zk_E V mc ms) (hr : meth.sig.returnType = (some .int)) (hR : R.frames = d ∧ R.locals = 64 * d) (hd : 1 ≤ d) {N : Nat} {a0 : Nat} {i2 : Int32} {i3 : Int32} {out : (Int32 × zm_S)} {S : zm_S} (h : zf_X16_at_J26 N a0 i2 i3 S = some out) : zw p l e R s m args below meth c (vx_MQ below (zm_Qc zk_E V (zo_i out)) (zm_XC zk_E V zo_x) args s mc ms (fun q => V.2.2.2.1 ≤ q)) 5 zk_E V mc ms 26 [(0, .ref a0), (2, .int i2), (3, .int i3)] [] S rc rs := by
  unfold zf_X16_at_J26 at h
  refine zw_iconst (v := (0 : Int32)) hX dX16_at_26 (by decide) ?_
  refine zw_istore hX dX16_at_27 (by decide) ?_
  obtain ⟨r, g, h⟩ := zb_some h
  refine zw_sub (lv' := [(0, .ref a0), (2, .int i2), (3, .int i3), (4, .int (0 : Int32))]) (List.forall_mem_cons.mpr ⟨rfl, (List.forall_mem_cons.mpr ⟨rfl, (List.forall_mem_cons.mpr ⟨rfl, (List.forall_mem_cons.mpr ⟨rfl, zs_nil⟩)⟩)⟩)⟩) ?_
  refine zt_X16_at_L29 hX hr hR hd (res := r) (out := out) a0 i2 i3 ?_ ?_ N _ _ g
  · intro o ho
    subst ho
    exact Option.some.inj h
  · intro v10 S9 hx
    subst hx
    try dsimp only at h
    refine zw_sub (lv' := [(0, .ref a0), (3, .int i3), (4, .int v10)]) (List.forall_mem_cons.mpr ⟨rfl, (List.forall_mem_cons.mpr ⟨rfl, (List.forall_mem_cons.mpr ⟨rfl, zs_nil⟩)⟩)⟩) ?_
    exact zt_X16_at_J55 hX hr hR hd h
set_option maxHeartbeats 4000000 in
set_option maxRecDepth 100000 in
theorem zt_X16_at {l : Launch} {V : zm_V} {N : Nat} {S : zm_S} {out : (Int32 × zm_S)} {d : Nat} {a0 : Nat} {i1 : Int32} {i2 : Int32} (hd : 1 ≤ d) (h : zf_X16_at N a0 i1 i2 S = some out) : zm_Met l zk_E V yX16_at (.code yX16_at cX16_at 5 (some .int)) d [.ref a0, .int i1, .int i2] S 0 0 (zo_i out) zo_x := by
  refine zm_of (by decide +kernel) (Nat.le_of_ble_eq_true rfl) ?_
  intro p e R s m args below meth c hRR hX hr hxt
  have hR : R.frames = d ∧ R.locals = 64 * d := by rw [hRR]; exact ⟨rfl, rfl⟩
  have hX : zm_X p R s m args meth c RX16 "at" cX16_at 5 zk_E V 0 0 := hX
  unfold zf_X16_at at h
  refine zw_sub (lv' := [(0, .ref a0), (1, .int i1), (2, .int i2)]) (List.forall_mem_cons.mpr ⟨rfl, (List.forall_mem_cons.mpr ⟨rfl, (List.forall_mem_cons.mpr ⟨rfl, zs_nil⟩)⟩)⟩) ?_
  refine zw_iconst (v := (0 : Int32)) hX dX16_at_0 (by decide) ?_
  refine zw_istore_n hX dX16_at_1 (by decide) ?_
  obtain ⟨r, g, h⟩ := zb_some h
  refine zw_sub (lv' := [(0, .ref a0), (1, .int i1), (2, .int i2), (3, .int (0 : Int32))]) (List.forall_mem_cons.mpr ⟨rfl, (List.forall_mem_cons.mpr ⟨rfl, (List.forall_mem_cons.mpr ⟨rfl, (List.forall_mem_cons.mpr ⟨rfl, zs_nil⟩)⟩)⟩)⟩) ?_
  refine zt_X16_at_L2 hX hr hR hd (res := r) (out := out) a0 i1 i2 ?_ ?_ N _ _ g
  · intro o ho
    subst ho
    exact Option.some.inj h
  · intro v5 S4 hx
    subst hx
    try dsimp only at h
    refine zw_sub (lv' := [(0, .ref a0), (2, .int i2), (3, .int v5)]) (List.forall_mem_cons.mpr ⟨rfl, (List.forall_mem_cons.mpr ⟨rfl, (List.forall_mem_cons.mpr ⟨rfl, zs_nil⟩)⟩)⟩) ?_
    exact zt_X16_at_J26 hX hr hR hd h
set_option maxHeartbeats 4000000 in
set_option maxRecDepth 100000 in
theorem zt_X16_beside_J47 {p : Program} {l : Launch} {e : Env} {R : Room} {s : State} {m : MethodId} {args : Array Value} {below : List Frame} {meth : Method} {c : Code} {V : zm_V} {mc ms d rc rs : Nat} (hX : zm_X p R s m args meth c RX16 "beside" cX16_beside 5 zk_E V mc ms) (hr : meth.sig.returnType = (some .int)) (hR : R.frames = d ∧ R.locals = 64 * d) (hd : 4 ≤ d) {N : Nat} {k : Nat → Int32 → Int32 → Int32 → Int32 → zm_S → Option ((Int32 × zm_S) ⊕ ((Int32) × zm_S))} {a0 : Nat} {i1 : Int32} {i2 : Int32} {i4 : Int32} {t0 : Int32} {t1 : Int32} {res : (Int32 × zm_S) ⊕ ((Int32) × zm_S)} {out : (Int32 × zm_S)}   (hf : ∀ o, res = .inl o → o = out) (hk : ∀ (x3 : Int32) (S' : zm_S), res = .inr (x3, S') → zw p l e R s m args below meth c (vx_MQ below (zm_Qc zk_E V (zo_i out)) (zm_XC zk_E V zo_x) args s mc ms (fun q => V.2.2.2.1 ≤ q)) 5 zk_E V mc ms 55 [(3, .int x3)] [] S' rc rs) (hrec : ∀ (i3' : Int32) (i4' : Int32) (S : zm_S), k a0 i1 i2 i3' i4' S = some res → zw p l e R s m args below meth c (vx_MQ below (zm_Qc zk_E V (zo_i out)) (zm_XC zk_E V zo_x) args s mc ms (fun q => V.2.2.2.1 ≤ q)) 5 zk_E V mc ms 5 [(0, .ref a0), (1, .int i1), (2, .int i2), (3, .int i3'), (4, .int i4')] [] S rc rs) {S : zm_S} (h : zf_X16_beside_J47 N k a0 i1 i2 i4 t0 t1 S = some res) : zw p l e R s m args below meth c (vx_MQ below (zm_Qc zk_E V (zo_i out)) (zm_XC zk_E V zo_x) args s mc ms (fun q => V.2.2.2.1 ≤ q)) 5 zk_E V mc ms 47 [(0, .ref a0), (1, .int i1), (2, .int i2), (4, .int i4)] [.int t1, .int t0] S rc rs := by
  unfold zf_X16_beside_J47 at h
  refine zw_iadd hX dX16_beside_47 ?_
  refine zw_istore_n hX dX16_beside_48 (by decide) ?_
  refine zw_iinc (v := (i4 + (1 : Int32))) hX dX16_beside_49 rfl rfl (by decide) ?_
  refine zw_goto (tgt := 5) hX dX16_beside_52 (by decide) ?_
  refine zw_sub (lv' := [(0, .ref a0), (1, .int i1), (2, .int i2), (3, .int (t0 + t1)), (4, .int (i4 + (1 : Int32)))]) (List.forall_mem_cons.mpr ⟨rfl, (List.forall_mem_cons.mpr ⟨rfl, (List.forall_mem_cons.mpr ⟨rfl, (List.forall_mem_cons.mpr ⟨rfl, (List.forall_mem_cons.mpr ⟨rfl, zs_nil⟩)⟩)⟩)⟩)⟩) ?_
  exact hrec _ _ _ h
set_option maxHeartbeats 4000000 in
set_option maxRecDepth 100000 in
theorem zt_X16_beside_J46 {p : Program} {l : Launch} {e : Env} {R : Room} {s : State} {m : MethodId} {args : Array Value} {below : List Frame} {meth : Method} {c : Code} {V : zm_V} {mc ms d rc rs : Nat} (hX : zm_X p R s m args meth c RX16 "beside" cX16_beside 5 zk_E V mc ms) (hr : meth.sig.returnType = (some .int)) (hR : R.frames = d ∧ R.locals = 64 * d) (hd : 4 ≤ d) {N : Nat} {k : Nat → Int32 → Int32 → Int32 → Int32 → zm_S → Option ((Int32 × zm_S) ⊕ ((Int32) × zm_S))} {a0 : Nat} {i1 : Int32} {i2 : Int32} {i4 : Int32} {t0 : Int32} {res : (Int32 × zm_S) ⊕ ((Int32) × zm_S)} {out : (Int32 × zm_S)}   (hf : ∀ o, res = .inl o → o = out) (hk : ∀ (x3 : Int32) (S' : zm_S), res = .inr (x3, S') → zw p l e R s m args below meth c (vx_MQ below (zm_Qc zk_E V (zo_i out)) (zm_XC zk_E V zo_x) args s mc ms (fun q => V.2.2.2.1 ≤ q)) 5 zk_E V mc ms 55 [(3, .int x3)] [] S' rc rs) (hrec : ∀ (i3' : Int32) (i4' : Int32) (S : zm_S), k a0 i1 i2 i3' i4' S = some res → zw p l e R s m args below meth c (vx_MQ below (zm_Qc zk_E V (zo_i out)) (zm_XC zk_E V zo_x) args s mc ms (fun q => V.2.2.2.1 ≤ q)) 5 zk_E V mc ms 5 [(0, .ref a0), (1, .int i1), (2, .int i2), (3, .int i3'), (4, .int i4')] [] S rc rs) {S : zm_S} (h : zf_X16_beside_J46 N k a0 i1 i2 i4 t0 S = some res) : zw p l e R s m args below meth c (vx_MQ below (zm_Qc zk_E V (zo_i out)) (zm_XC zk_E V zo_x) args s mc ms (fun q => V.2.2.2.1 ≤ q)) 5 zk_E V mc ms 46 [(0, .ref a0), (1, .int i1), (2, .int i2), (4, .int i4)] [.int t0] S rc rs := by
  unfold zf_X16_beside_J46 at h
  refine zw_iconst (v := (0 : Int32)) hX dX16_beside_46 (by decide) ?_
  refine zw_sub (lv' := [(0, .ref a0), (1, .int i1), (2, .int i2), (4, .int i4)]) (List.forall_mem_cons.mpr ⟨rfl, (List.forall_mem_cons.mpr ⟨rfl, (List.forall_mem_cons.mpr ⟨rfl, (List.forall_mem_cons.mpr ⟨rfl, zs_nil⟩)⟩)⟩)⟩) ?_
  exact zt_X16_beside_J47 hX hr hR hd hf hk hrec h
set_option maxHeartbeats 4000000 in
set_option maxRecDepth 100000 in
theorem zt_X16_beside_L5 {p : Program} {l : Launch} {e : Env} {R : Room} {s : State} {m : MethodId} {args : Array Value} {below : List Frame} {meth : Method} {c : Code} {V : zm_V} {mc ms d rc rs : Nat} (hX : zm_X p R s m args meth c RX16 "beside" cX16_beside 5 zk_E V mc ms) (hr : meth.sig.returnType = (some .int)) (hR : R.frames = d ∧ R.locals = 64 * d) (hd : 4 ≤ d) {N : Nat} {res : (Int32 × zm_S) ⊕ ((Int32) × zm_S)} {out : (Int32 × zm_S)} (a0 : Nat) (i1 : Int32) (i2 : Int32) (hf : ∀ o, res = .inl o → o = out) (hk : ∀ (x3 : Int32) (S' : zm_S), res = .inr (x3, S') → zw p l e R s m args below meth c (vx_MQ below (zm_Qc zk_E V (zo_i out)) (zm_XC zk_E V zo_x) args s mc ms (fun q => V.2.2.2.1 ≤ q)) 5 zk_E V mc ms 55 [(3, .int x3)] [] S' rc rs) : ∀ (n : Nat) (i3 : Int32) (i4 : Int32) (S : zm_S), zf_X16_beside_L5 N n a0 i1 i2 i3 i4 S = some res → zw p l e R s m args below meth c (vx_MQ below (zm_Qc zk_E V (zo_i out)) (zm_XC zk_E V zo_x) args s mc ms (fun q => V.2.2.2.1 ≤ q)) 5 zk_E V mc ms 5 [(0, .ref a0), (1, .int i1), (2, .int i2), (3, .int i3), (4, .int i4)] [] S rc rs := by
  intro n
  induction n with
  | zero => intro i3 i4 S h; cases h
  | succ n ih =>
    intro i3 i4 S h
    rw [zf_X16_beside_L5] at h
    refine zw_iload hX dX16_beside_5 rfl ?_
    refine zw_iconst (v := (2 : Int32)) hX dX16_beside_7 (by decide) ?_
    refine zw_aload_n hX dX16_beside_8 rfl ?_
    obtain ⟨v1, g, h⟩ := zb_some h
    refine zw_geti hX zl_X16_143 dX16_beside_9 g ?_
    refine zw_imul hX dX16_beside_12 ?_
    refine zw_icmp_ge (tgt := 55) hX dX16_beside_13 (by decide) (fun c13 => ?_) (fun c13 => ?_)
    · rw [if_pos c13] at h
      refine zw_sub (lv' := [(3, .int i3)]) (List.forall_mem_cons.mpr ⟨rfl, zs_nil⟩) ?_
      exact hk _ _ (Option.some.inj h).symm
    · rw [if_neg c13] at h
      refine zw_iload_n hX dX16_beside_16 rfl ?_
      refine zw_aload_n hX dX16_beside_17 rfl ?_
      refine zw_iload hX dX16_beside_18 rfl ?_
      obtain ⟨_, gi, h⟩ := zb_some h
      obtain ⟨r3, g, h⟩ := zb_some h
      refine zc_Vi (as := [.int i4]) hX gi (zt_X16_left (d := d - 1) (by omega) g) zl_X16_153 rfl dX16_beside_20 ⟨rfl, rfl, Nat.le_of_ble_eq_true rfl⟩ ⟨by omega, by omega⟩ ?_
      refine zw_iload_n hX dX16_beside_23 rfl ?_
      refine zw_icmp_ne (tgt := 46) hX dX16_beside_24 (by decide) (fun c24 => ?_) (fun c24 => ?_)
      · rw [if_neg c24] at h
        refine zw_sub (lv' := [(0, .ref a0), (1, .int i1), (2, .int i2), (4, .int i4)]) (List.forall_mem_cons.mpr ⟨rfl, (List.forall_mem_cons.mpr ⟨rfl, (List.forall_mem_cons.mpr ⟨rfl, (List.forall_mem_cons.mpr ⟨rfl, zs_nil⟩)⟩)⟩)⟩) ?_
        exact zt_X16_beside_J46 hX hr hR hd hf hk ih h
      · rw [if_pos c24] at h
        refine zw_aload_n hX dX16_beside_27 rfl ?_
        refine zw_iload hX dX16_beside_28 rfl ?_
        obtain ⟨_, gi, h⟩ := zb_some h
        obtain ⟨r5, g, h⟩ := zb_some h
        refine zc_Vi (as := [.int i4]) hX gi (zt_X16_right (d := d - 1) (by omega) g) zl_X16_227 rfl dX16_beside_30 ⟨rfl, rfl, Nat.le_of_ble_eq_true rfl⟩ ⟨by omega, by omega⟩ ?_
        refine zw_iload_n hX dX16_beside_33 rfl ?_
        refine zw_icmp_ne (tgt := 46) hX dX16_beside_34 (by decide) (fun c34 => ?_) (fun c34 => ?_)
        · rw [if_neg c34] at h
          refine zw_sub (lv' := [(0, .ref a0), (1, .int i1), (2, .int i2), (4, .int i4)]) (List.forall_mem_cons.mpr ⟨rfl, (List.forall_mem_cons.mpr ⟨rfl, (List.forall_mem_cons.mpr ⟨rfl, (List.forall_mem_cons.mpr ⟨rfl, zs_nil⟩)⟩)⟩)⟩) ?_
          exact zt_X16_beside_J46 hX hr hR hd hf hk ih h
        · rw [if_pos c34] at h
          refine zw_aload_n hX dX16_beside_37 rfl ?_
          refine zw_iload hX dX16_beside_38 rfl ?_
          obtain ⟨_, gi, h⟩ := zb_some h
          obtain ⟨r7, g, h⟩ := zb_some h
          refine zc_Vi (as := [.int i4]) hX gi (zt_X16_sideLength (d := d - 1) (by omega) g) zl_X16_230 rfl dX16_beside_40 ⟨rfl, rfl, Nat.le_of_ble_eq_true rfl⟩ ⟨by omega, by omega⟩ ?_
          refine zw_goto (tgt := 47) hX dX16_beside_43 (by decide) ?_
          refine zw_sub (lv' := [(0, .ref a0), (1, .int i1), (2, .int i2), (4, .int i4)]) (List.forall_mem_cons.mpr ⟨rfl, (List.forall_mem_cons.mpr ⟨rfl, (List.forall_mem_cons.mpr ⟨rfl, (List.forall_mem_cons.mpr ⟨rfl, zs_nil⟩)⟩)⟩)⟩) ?_
          exact zt_X16_beside_J47 hX hr hR hd hf hk ih h
set_option maxHeartbeats 4000000 in
set_option maxRecDepth 100000 in
theorem zt_X16_beside {l : Launch} {V : zm_V} {N : Nat} {S : zm_S} {out : (Int32 × zm_S)} {d : Nat} {a0 : Nat} {i1 : Int32} {i2 : Int32} (hd : 4 ≤ d) (h : zf_X16_beside N a0 i1 i2 S = some out) : zm_Met l zk_E V yX16_beside (.code yX16_beside cX16_beside 5 (some .int)) d [.ref a0, .int i1, .int i2] S 0 0 (zo_i out) zo_x := by
  refine zm_of (by decide +kernel) (Nat.le_of_ble_eq_true rfl) ?_
  intro p e R s m args below meth c hRR hX hr hxt
  have hR : R.frames = d ∧ R.locals = 64 * d := by rw [hRR]; exact ⟨rfl, rfl⟩
  have hX : zm_X p R s m args meth c RX16 "beside" cX16_beside 5 zk_E V 0 0 := hX
  unfold zf_X16_beside at h
  refine zw_sub (lv' := [(0, .ref a0), (1, .int i1), (2, .int i2)]) (List.forall_mem_cons.mpr ⟨rfl, (List.forall_mem_cons.mpr ⟨rfl, (List.forall_mem_cons.mpr ⟨rfl, zs_nil⟩)⟩)⟩) ?_
  refine zw_iconst (v := (0 : Int32)) hX dX16_beside_0 (by decide) ?_
  refine zw_istore_n hX dX16_beside_1 (by decide) ?_
  refine zw_iconst (v := (0 : Int32)) hX dX16_beside_2 (by decide) ?_
  refine zw_istore hX dX16_beside_3 (by decide) ?_
  obtain ⟨r, g, h⟩ := zb_some h
  refine zw_sub (lv' := [(0, .ref a0), (1, .int i1), (2, .int i2), (3, .int (0 : Int32)), (4, .int (0 : Int32))]) (List.forall_mem_cons.mpr ⟨rfl, (List.forall_mem_cons.mpr ⟨rfl, (List.forall_mem_cons.mpr ⟨rfl, (List.forall_mem_cons.mpr ⟨rfl, (List.forall_mem_cons.mpr ⟨rfl, zs_nil⟩)⟩)⟩)⟩)⟩) ?_
  refine zt_X16_beside_L5 hX hr hR hd (res := r) (out := out) a0 i1 i2 ?_ ?_ N _ _ _ g
  · intro o ho
    subst ho
    exact Option.some.inj h
  · intro v9 S8 hx
    subst hx
    try dsimp only at h
    refine zw_iload_n hX dX16_beside_55 rfl ?_
    obtain rfl := Option.some.inj h
    exact zw_iret hX hr dX16_beside_56 rfl ⟨rfl, rfl⟩
set_option maxHeartbeats 4000000 in
set_option maxRecDepth 100000 in
theorem zt_X16_hasDoor_J107 {p : Program} {l : Launch} {e : Env} {R : Room} {s : State} {m : MethodId} {args : Array Value} {below : List Frame} {meth : Method} {c : Code} {V : zm_V} {mc ms d rc rs : Nat} (hX : zm_X p R s m args meth c RX16 "hasDoor" cX16_hasDoor 7 zk_E V mc ms) (hr : meth.sig.returnType = (some .boolean)) (hR : R.frames = d ∧ R.locals = 64 * d) (hd : 2 ≤ d) {N : Nat} {k : Nat → Int32 → Int32 → Int32 → Int32 → Int32 → zm_S → Option ((Int32 × zm_S) ⊕ ((Int32) × zm_S))} {a0 : Nat} {i1 : Int32} {i2 : Int32} {i4 : Int32} {i6 : Int32} {res : (Int32 × zm_S) ⊕ ((Int32) × zm_S)} {out : (Int32 × zm_S)}   (hf : ∀ o, res = .inl o → o = out) (hk : ∀ (x5 : Int32) (S' : zm_S), res = .inr (x5, S') → zw p l e R s m args below meth c (vx_MQ below (zm_Qc zk_E V (zo_i out)) (zm_XC zk_E V zo_x) args s mc ms (fun q => V.2.2.2.1 ≤ q)) 7 zk_E V mc ms 120 [(5, .int x5)] [] S' rc rs) (hrec : ∀ (i5' : Int32) (i6' : Int32) (S : zm_S), k a0 i1 i2 i4 i5' i6' S = some res → zw p l e R s m args below meth c (vx_MQ below (zm_Qc zk_E V (zo_i out)) (zm_XC zk_E V zo_x) args s mc ms (fun q => V.2.2.2.1 ≤ q)) 7 zk_E V mc ms 56 [(0, .ref a0), (1, .int i1), (2, .int i2), (4, .int i4), (5, .int i5'), (6, .int i6')] [] S rc rs) {S : zm_S} (h : zf_X16_hasDoor_J107 N k a0 i1 i2 i4 i6 S = some res) : zw p l e R s m args below meth c (vx_MQ below (zm_Qc zk_E V (zo_i out)) (zm_XC zk_E V zo_x) args s mc ms (fun q => V.2.2.2.1 ≤ q)) 7 zk_E V mc ms 107 [(0, .ref a0), (1, .int i1), (2, .int i2), (4, .int i4), (6, .int i6)] [] S rc rs := by
  unfold zf_X16_hasDoor_J107 at h
  refine zw_iconst (v := (1 : Int32)) hX dX16_hasDoor_107 (by decide) ?_
  refine zw_goto (tgt := 112) hX dX16_hasDoor_108 (by decide) ?_
  refine zw_istore hX dX16_hasDoor_112 (by decide) ?_
  refine zw_iinc (v := (i6 + (1 : Int32))) hX dX16_hasDoor_114 rfl rfl (by decide) ?_
  refine zw_goto (tgt := 56) hX dX16_hasDoor_117 (by decide) ?_
  refine zw_sub (lv' := [(0, .ref a0), (1, .int i1), (2, .int i2), (4, .int i4), (5, .int (1 : Int32)), (6, .int (i6 + (1 : Int32)))]) (List.forall_mem_cons.mpr ⟨rfl, (List.forall_mem_cons.mpr ⟨rfl, (List.forall_mem_cons.mpr ⟨rfl, (List.forall_mem_cons.mpr ⟨rfl, (List.forall_mem_cons.mpr ⟨rfl, (List.forall_mem_cons.mpr ⟨rfl, zs_nil⟩)⟩)⟩)⟩)⟩)⟩) ?_
  exact hrec _ _ _ h
set_option maxHeartbeats 4000000 in
set_option maxRecDepth 100000 in
theorem zt_X16_hasDoor_L56 {p : Program} {l : Launch} {e : Env} {R : Room} {s : State} {m : MethodId} {args : Array Value} {below : List Frame} {meth : Method} {c : Code} {V : zm_V} {mc ms d rc rs : Nat} (hX : zm_X p R s m args meth c RX16 "hasDoor" cX16_hasDoor 7 zk_E V mc ms) (hr : meth.sig.returnType = (some .boolean)) (hR : R.frames = d ∧ R.locals = 64 * d) (hd : 2 ≤ d) {N : Nat} {res : (Int32 × zm_S) ⊕ ((Int32) × zm_S)} {out : (Int32 × zm_S)} (a0 : Nat) (i1 : Int32) (i2 : Int32) (i4 : Int32) (hf : ∀ o, res = .inl o → o = out) (hk : ∀ (x5 : Int32) (S' : zm_S), res = .inr (x5, S') → zw p l e R s m args below meth c (vx_MQ below (zm_Qc zk_E V (zo_i out)) (zm_XC zk_E V zo_x) args s mc ms (fun q => V.2.2.2.1 ≤ q)) 7 zk_E V mc ms 120 [(5, .int x5)] [] S' rc rs) : ∀ (n : Nat) (i5 : Int32) (i6 : Int32) (S : zm_S), zf_X16_hasDoor_L56 N n a0 i1 i2 i4 i5 i6 S = some res → zw p l e R s m args below meth c (vx_MQ below (zm_Qc zk_E V (zo_i out)) (zm_XC zk_E V zo_x) args s mc ms (fun q => V.2.2.2.1 ≤ q)) 7 zk_E V mc ms 56 [(0, .ref a0), (1, .int i1), (2, .int i2), (4, .int i4), (5, .int i5), (6, .int i6)] [] S rc rs := by
  intro n
  induction n with
  | zero => intro i5 i6 S h; cases h
  | succ n ih =>
    intro i5 i6 S h
    rw [zf_X16_hasDoor_L56] at h
    refine zw_iload hX dX16_hasDoor_56 rfl ?_
    refine zw_bipush (v := (6 : Int32)) hX dX16_hasDoor_58 (by decide) ?_
    refine zw_iload_n hX dX16_hasDoor_60 rfl ?_
    refine zw_imul hX dX16_hasDoor_61 ?_
    refine zw_aload_n hX dX16_hasDoor_62 rfl ?_
    obtain ⟨b13, g, h⟩ := zb_some h
    refine zw_getr hX zl_X16_23 dX16_hasDoor_63 g ?_
    refine zw_iload_n hX dX16_hasDoor_66 rfl ?_
    obtain ⟨v14, g, h⟩ := zb_some h
    refine zw_xi hX dX16_hasDoor_67 g ?_
    refine zw_iadd hX dX16_hasDoor_68 ?_
    refine zw_icmp_ge (tgt := 120) hX dX16_hasDoor_69 (by decide) (fun c69 => ?_) (fun c69 => ?_)
    · rw [if_pos c69] at h
      refine zw_sub (lv' := [(5, .int i5)]) (List.forall_mem_cons.mpr ⟨rfl, zs_nil⟩) ?_
      exact hk _ _ (Option.some.inj h).symm
    · rw [if_neg c69] at h
      refine zw_iload hX dX16_hasDoor_72 rfl ?_
      refine zw_if_ne (tgt := 107) hX dX16_hasDoor_74 (by decide) (fun c74 => ?_) (fun c74 => ?_)
      · rw [if_neg c74] at h
        refine zw_sub (lv' := [(0, .ref a0), (1, .int i1), (2, .int i2), (4, .int i4), (6, .int i6)]) (List.forall_mem_cons.mpr ⟨rfl, (List.forall_mem_cons.mpr ⟨rfl, (List.forall_mem_cons.mpr ⟨rfl, (List.forall_mem_cons.mpr ⟨rfl, (List.forall_mem_cons.mpr ⟨rfl, zs_nil⟩)⟩)⟩)⟩)⟩) ?_
        exact zt_X16_hasDoor_J107 hX hr hR hd hf hk ih h
      · rw [if_pos c74] at h
        refine zw_iload hX dX16_hasDoor_77 rfl ?_
        refine zw_iload hX dX16_hasDoor_79 rfl ?_
        refine zw_aload_n hX dX16_hasDoor_81 rfl ?_
        refine zw_iload_n hX dX16_hasDoor_82 rfl ?_
        obtain ⟨_, gi, h⟩ := zb_some h
        obtain ⟨r16, g, h⟩ := zb_some h
        refine zc_Vi (as := [.int i1]) hX gi (zt_X16_sideLength (d := d - 1) (by omega) g) zl_X16_230 rfl dX16_hasDoor_83 ⟨rfl, rfl, Nat.le_of_ble_eq_true rfl⟩ ⟨by omega, by omega⟩ ?_
        refine zw_iadd hX dX16_hasDoor_86 ?_
        refine zw_aload_n hX dX16_hasDoor_87 rfl ?_
        obtain ⟨b17, g, h⟩ := zb_some h
        refine zw_getr hX zl_X16_26 dX16_hasDoor_88 g ?_
        refine zw_iload hX dX16_hasDoor_91 rfl ?_
        obtain ⟨v18, g, h⟩ := zb_some h
        refine zw_xi hX dX16_hasDoor_93 g ?_
        refine zw_aload_n hX dX16_hasDoor_94 rfl ?_
        obtain ⟨b19, g, h⟩ := zb_some h
        refine zw_getr hX zl_X16_29 dX16_hasDoor_95 g ?_
        refine zw_iload hX dX16_hasDoor_98 rfl ?_
        obtain ⟨v20, g, h⟩ := zb_some h
        refine zw_xi hX dX16_hasDoor_100 g ?_
        obtain ⟨r22, g, h⟩ := zb_some h
        refine zc_Si (as := [.int i4, .int (i4 + r16.1), .int v18, .int v20]) hX (zt_X16_shared (d := d - 1) (by omega) g) zl_X16_214 dX16_hasDoor_101 ⟨rfl, rfl, Nat.le_of_ble_eq_true rfl⟩ ⟨by omega, by omega⟩ ?_
        refine zw_if_le (tgt := 111) hX dX16_hasDoor_104 (by decide) (fun c104 => ?_) (fun c104 => ?_)
        · rw [if_pos c104] at h
          refine zw_iconst (v := (0 : Int32)) hX dX16_hasDoor_111 (by decide) ?_
          refine zw_istore hX dX16_hasDoor_112 (by decide) ?_
          refine zw_iinc (v := (i6 + (1 : Int32))) hX dX16_hasDoor_114 rfl rfl (by decide) ?_
          refine zw_goto (tgt := 56) hX dX16_hasDoor_117 (by decide) ?_
          refine zw_sub (lv' := [(0, .ref a0), (1, .int i1), (2, .int i2), (4, .int i4), (5, .int (0 : Int32)), (6, .int (i6 + (1 : Int32)))]) (List.forall_mem_cons.mpr ⟨rfl, (List.forall_mem_cons.mpr ⟨rfl, (List.forall_mem_cons.mpr ⟨rfl, (List.forall_mem_cons.mpr ⟨rfl, (List.forall_mem_cons.mpr ⟨rfl, (List.forall_mem_cons.mpr ⟨rfl, zs_nil⟩)⟩)⟩)⟩)⟩)⟩) ?_
          exact ih _ _ _ h
        · rw [if_neg c104] at h
          refine zw_sub (lv' := [(0, .ref a0), (1, .int i1), (2, .int i2), (4, .int i4), (6, .int i6)]) (List.forall_mem_cons.mpr ⟨rfl, (List.forall_mem_cons.mpr ⟨rfl, (List.forall_mem_cons.mpr ⟨rfl, (List.forall_mem_cons.mpr ⟨rfl, (List.forall_mem_cons.mpr ⟨rfl, zs_nil⟩)⟩)⟩)⟩)⟩) ?_
          exact zt_X16_hasDoor_J107 hX hr hR hd hf hk ih h
set_option maxHeartbeats 4000000 in
set_option maxRecDepth 100000 in
theorem zt_X16_hasDoor {l : Launch} {V : zm_V} {N : Nat} {S : zm_S} {out : (Int32 × zm_S)} {d : Nat} {a0 : Nat} {i1 : Int32} (hd : 2 ≤ d) (h : zf_X16_hasDoor N a0 i1 S = some out) : zm_Met l zk_E V yX16_hasDoor (.code yX16_hasDoor cX16_hasDoor 7 (some .boolean)) d [.ref a0, .int i1] S 0 0 (zo_i out) zo_x := by
  refine zm_of (by decide +kernel) (Nat.le_of_ble_eq_true rfl) ?_
  intro p e R s m args below meth c hRR hX hr hxt
  have hR : R.frames = d ∧ R.locals = 64 * d := by rw [hRR]; exact ⟨rfl, rfl⟩
  have hX : zm_X p R s m args meth c RX16 "hasDoor" cX16_hasDoor 7 zk_E V 0 0 := hX
  unfold zf_X16_hasDoor at h
  refine zw_sub (lv' := [(0, .ref a0), (1, .int i1)]) (List.forall_mem_cons.mpr ⟨rfl, (List.forall_mem_cons.mpr ⟨rfl, zs_nil⟩)⟩) ?_
  refine zw_aload_n hX dX16_hasDoor_0 rfl ?_
  obtain ⟨b1, g, h⟩ := zb_some h
  refine zw_getr hX zl_X16_65 dX16_hasDoor_1 g ?_
  refine zw_iload_n hX dX16_hasDoor_4 rfl ?_
  refine zw_iconst (v := (2 : Int32)) hX dX16_hasDoor_5 (by decide) ?_
  refine zw_idiv hX dX16_hasDoor_6 (by decide) ?_
  obtain ⟨v2, g, h⟩ := zb_some h
  refine zw_xi hX dX16_hasDoor_7 g ?_
  refine zw_istore_n hX dX16_hasDoor_8 (by decide) ?_
  refine zw_aload_n hX dX16_hasDoor_9 rfl ?_
  obtain ⟨b3, g, h⟩ := zb_some h
  refine zw_getr hX zl_X16_68 dX16_hasDoor_10 g ?_
  refine zw_iload_n hX dX16_hasDoor_13 rfl ?_
  refine zw_iconst (v := (2 : Int32)) hX dX16_hasDoor_14 (by decide) ?_
  refine zw_idiv hX dX16_hasDoor_15 (by decide) ?_
  obtain ⟨v4, g, h⟩ := zb_some h
  refine zw_xi hX dX16_hasDoor_16 g ?_
  refine zw_istore_n hX dX16_hasDoor_17 (by decide) ?_
  refine zw_aload_n hX dX16_hasDoor_18 rfl ?_
  obtain ⟨b5, g, h⟩ := zb_some h
  refine zw_getr hX zl_X16_59 dX16_hasDoor_19 g ?_
  refine zw_iload_n hX dX16_hasDoor_22 rfl ?_
  obtain ⟨v6, g, h⟩ := zb_some h
  refine zw_xi hX dX16_hasDoor_23 g ?_
  refine zw_aload_n hX dX16_hasDoor_24 rfl ?_
  obtain ⟨b7, g, h⟩ := zb_some h
  refine zw_getr hX zl_X16_7 dX16_hasDoor_25 g ?_
  refine zw_iload_n hX dX16_hasDoor_28 rfl ?_
  obtain ⟨v8, g, h⟩ := zb_some h
  refine zw_xi hX dX16_hasDoor_29 g ?_
  refine zw_isub hX dX16_hasDoor_30 ?_
  refine zw_aload_n hX dX16_hasDoor_31 rfl ?_
  obtain ⟨b9, g, h⟩ := zb_some h
  refine zw_getr hX zl_X16_62 dX16_hasDoor_32 g ?_
  refine zw_iload_n hX dX16_hasDoor_35 rfl ?_
  obtain ⟨v10, g, h⟩ := zb_some h
  refine zw_xi hX dX16_hasDoor_36 g ?_
  refine zw_iadd hX dX16_hasDoor_37 ?_
  refine zw_aload_n hX dX16_hasDoor_38 rfl ?_
  obtain ⟨b11, g, h⟩ := zb_some h
  refine zw_getr hX zl_X16_13 dX16_hasDoor_39 g ?_
  refine zw_iload_n hX dX16_hasDoor_42 rfl ?_
  obtain ⟨v12, g, h⟩ := zb_some h
  refine zw_xi hX dX16_hasDoor_43 g ?_
  refine zw_isub hX dX16_hasDoor_44 ?_
  refine zw_istore hX dX16_hasDoor_45 (by decide) ?_
  refine zw_iconst (v := (0 : Int32)) hX dX16_hasDoor_47 (by decide) ?_
  refine zw_istore hX dX16_hasDoor_48 (by decide) ?_
  refine zw_bipush (v := (6 : Int32)) hX dX16_hasDoor_50 (by decide) ?_
  refine zw_iload_n hX dX16_hasDoor_52 rfl ?_
  refine zw_imul hX dX16_hasDoor_53 ?_
  refine zw_istore hX dX16_hasDoor_54 (by decide) ?_
  obtain ⟨r, g, h⟩ := zb_some h
  refine zw_sub (lv' := [(0, .ref a0), (1, .int i1), (2, .int v2), (4, .int (((v6 - v8) + v10) - v12)), (5, .int (0 : Int32)), (6, .int ((6 : Int32) * v2))]) (List.forall_mem_cons.mpr ⟨rfl, (List.forall_mem_cons.mpr ⟨rfl, (List.forall_mem_cons.mpr ⟨rfl, (List.forall_mem_cons.mpr ⟨rfl, (List.forall_mem_cons.mpr ⟨rfl, (List.forall_mem_cons.mpr ⟨rfl, zs_nil⟩)⟩)⟩)⟩)⟩)⟩) ?_
  refine zt_X16_hasDoor_L56 hX hr hR hd (res := r) (out := out) a0 i1 v2 (((v6 - v8) + v10) - v12) ?_ ?_ N _ _ _ g
  · intro o ho
    subst ho
    exact Option.some.inj h
  · intro v24 S23 hx
    subst hx
    try dsimp only at h
    refine zw_iload hX dX16_hasDoor_120 rfl ?_
    by_cases cz : v24 = 0 ∨ v24 = 1
    · rw [if_pos cz] at h
      obtain rfl := Option.some.inj h
      exact zw_iret hX hr dX16_hasDoor_122 (zn_z cz) ⟨rfl, rfl⟩
    · rw [if_neg cz] at h
      cases h

