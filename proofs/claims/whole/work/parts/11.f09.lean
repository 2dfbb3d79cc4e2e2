/-! ===== functions of methods, by program (wip/whole/tools/gen11.py) ===== -/
theorem dX13_carsOf_0 : decode cX13_carsOf 0 = .ok (.iconst 0, 1) := by decide +kernel
theorem dX13_carsOf_1 : decode cX13_carsOf 1 = .ok (.istore_n 2, 1) := by decide +kernel
theorem dX13_carsOf_2 : decode cX13_carsOf 2 = .ok (.iconst 0, 1) := by decide +kernel
theorem dX13_carsOf_3 : decode cX13_carsOf 3 = .ok (.istore_n 3, 1) := by decide +kernel
theorem dX13_carsOf_4 : decode cX13_carsOf 4 = .ok (.iload_n 3, 1) := by decide +kernel
theorem dX13_carsOf_5 : decode cX13_carsOf 5 = .ok (.aload_n 0, 1) := by decide +kernel
theorem dX13_carsOf_6 : decode cX13_carsOf 6 = .ok (.getfield 70, 3) := by decide +kernel
theorem dX13_carsOf_9 : decode cX13_carsOf 9 = .ok (.if_icmp .ge 54, 3) := by decide +kernel
theorem dX13_carsOf_12 : decode cX13_carsOf 12 = .ok (.aload_n 0, 1) := by decide +kernel
theorem dX13_carsOf_13 : decode cX13_carsOf 13 = .ok (.getfield 80, 3) := by decide +kernel
theorem dX13_carsOf_16 : decode cX13_carsOf 16 = .ok (.ifCond .ne 47, 3) := by decide +kernel
theorem dX13_carsOf_19 : decode cX13_carsOf 19 = .ok (.iload_n 2, 1) := by decide +kernel
theorem dX13_carsOf_20 : decode cX13_carsOf 20 = .ok (.aload_n 0, 1) := by decide +kernel
theorem dX13_carsOf_21 : decode cX13_carsOf 21 = .ok (.iload_n 3, 1) := by decide +kernel
theorem dX13_carsOf_22 : decode cX13_carsOf 22 = .ok (.iload_n 1, 1) := by decide +kernel
theorem dX13_carsOf_23 : decode cX13_carsOf 23 = .ok (.invokevirtual 76, 3) := by decide +kernel
theorem dX13_carsOf_26 : decode cX13_carsOf 26 = .ok (.ifCond .eq 28, 3) := by decide +kernel
theorem dX13_carsOf_54 : decode cX13_carsOf 54 = .ok (.iconst 0, 1) := by decide +kernel
theorem dX13_carsOf_55 : decode cX13_carsOf 55 = .ok (.ior, 1) := by decide +kernel
theorem dX13_carsOf_56 : decode cX13_carsOf 56 = .ok (.istore_n 2, 1) := by decide +kernel
theorem dX13_carsOf_57 : decode cX13_carsOf 57 = .ok (.iinc 3 1, 3) := by decide +kernel
theorem dX13_carsOf_60 : decode cX13_carsOf 60 = .ok (.goto (-56), 3) := by decide +kernel
theorem dX13_carsOf_29 : decode cX13_carsOf 29 = .ok (.aload_n 0, 1) := by decide +kernel
theorem dX13_carsOf_30 : decode cX13_carsOf 30 = .ok (.getfield 38, 3) := by decide +kernel
theorem dX13_carsOf_33 : decode cX13_carsOf 33 = .ok (.iload_n 1, 1) := by decide +kernel
theorem dX13_carsOf_34 : decode cX13_carsOf 34 = .ok (.iaload, 1) := by decide +kernel
theorem dX13_carsOf_35 : decode cX13_carsOf 35 = .ok (.ifCond .lt 13, 3) := by decide +kernel
theorem dX13_carsOf_48 : decode cX13_carsOf 48 = .ok (.iconst 1, 1) := by decide +kernel
theorem dX13_carsOf_49 : decode cX13_carsOf 49 = .ok (.iload_n 3, 1) := by decide +kernel
theorem dX13_carsOf_50 : decode cX13_carsOf 50 = .ok (.ishl, 1) := by decide +kernel
theorem dX13_carsOf_51 : decode cX13_carsOf 51 = .ok (.goto 4, 3) := by decide +kernel
theorem dX13_carsOf_38 : decode cX13_carsOf 38 = .ok (.aload_n 0, 1) := by decide +kernel
theorem dX13_carsOf_39 : decode cX13_carsOf 39 = .ok (.getfield 38, 3) := by decide +kernel
theorem dX13_carsOf_42 : decode cX13_carsOf 42 = .ok (.iload_n 1, 1) := by decide +kernel
theorem dX13_carsOf_43 : decode cX13_carsOf 43 = .ok (.iaload, 1) := by decide +kernel
theorem dX13_carsOf_44 : decode cX13_carsOf 44 = .ok (.iload_n 3, 1) := by decide +kernel
theorem dX13_carsOf_45 : decode cX13_carsOf 45 = .ok (.if_icmp .ne 9, 3) := by decide +kernel
theorem dX13_carsOf_63 : decode cX13_carsOf 63 = .ok (.iload_n 2, 1) := by decide +kernel
theorem dX13_carsOf_64 : decode cX13_carsOf 64 = .ok (.ireturn, 1) := by decide +kernel
theorem dX13_weightOf_0 : decode cX13_weightOf 0 = .ok (.iconst 1, 1) := by decide +kernel
theorem dX13_weightOf_1 : decode cX13_weightOf 1 = .ok (.aload_n 0, 1) := by decide +kernel
theorem dX13_weightOf_2 : decode cX13_weightOf 2 = .ok (.getfield 73, 3) := by decide +kernel
theorem dX13_weightOf_5 : decode cX13_weightOf 5 = .ok (.aload_n 0, 1) := by decide +kernel
theorem dX13_weightOf_6 : decode cX13_weightOf 6 = .ok (.getfield 31, 3) := by decide +kernel
theorem dX13_weightOf_9 : decode cX13_weightOf 9 = .ok (.iload_n 1, 1) := by decide +kernel
theorem dX13_weightOf_10 : decode cX13_weightOf 10 = .ok (.iaload, 1) := by decide +kernel
theorem dX13_weightOf_11 : decode cX13_weightOf 11 = .ok (.isub, 1) := by decide +kernel
theorem dX13_weightOf_12 : decode cX13_weightOf 12 = .ok (.bipush 30, 2) := by decide +kernel
theorem dX13_weightOf_14 : decode cX13_weightOf 14 = .ok (.idiv, 1) := by decide +kernel
theorem dX13_weightOf_15 : decode cX13_weightOf 15 = .ok (.iadd, 1) := by decide +kernel
theorem dX13_weightOf_16 : decode cX13_weightOf 16 = .ok (.ireturn, 1) := by decide +kernel
theorem dX13_choose_0 : decode cX13_choose 0 = .ok (.aload_n 0, 1) := by decide +kernel
theorem dX13_choose_1 : decode cX13_choose 1 = .ok (.iconst 0, 1) := by decide +kernel
theorem dX13_choose_2 : decode cX13_choose 2 = .ok (.putfield 84, 3) := by decide +kernel
theorem dX13_choose_5 : decode cX13_choose 5 = .ok (.iconst 0, 1) := by decide +kernel
theorem dX13_choose_6 : decode cX13_choose 6 = .ok (.istore_n 1, 1) := by decide +kernel
theorem dX13_choose_7 : decode cX13_choose 7 = .ok (.iload_n 1, 1) := by decide +kernel
theorem dX13_choose_8 : decode cX13_choose 8 = .ok (.aload_n 0, 1) := by decide +kernel
theorem dX13_choose_9 : decode cX13_choose 9 = .ok (.getfield 66, 3) := by decide +kernel
theorem dX13_choose_12 : decode cX13_choose 12 = .ok (.if_icmp .ge 46, 3) := by decide +kernel
theorem dX13_choose_15 : decode cX13_choose 15 = .ok (.aload_n 0, 1) := by decide +kernel
theorem dX13_choose_16 : decode cX13_choose 16 = .ok (.getfield 34, 3) := by decide +kernel
theorem dX13_choose_19 : decode cX13_choose 19 = .ok (.iload_n 1, 1) := by decide +kernel
theorem dX13_choose_20 : decode cX13_choose 20 = .ok (.baload, 1) := by decide +kernel
theorem dX13_choose_21 : decode cX13_choose 21 = .ok (.ifCond .eq 31, 3) := by decide +kernel
theorem dX13_choose_52 : decode cX13_choose 52 = .ok (.iinc 1 1, 3) := by decide +kernel
theorem dX13_choose_55 : decode cX13_choose 55 = .ok (.goto (-48), 3) := by decide +kernel
theorem dX13_choose_24 : decode cX13_choose 24 = .ok (.aload_n 0, 1) := by decide +kernel
theorem dX13_choose_25 : decode cX13_choose 25 = .ok (.iload_n 1, 1) := by decide +kernel
theorem dX13_choose_26 : decode cX13_choose 26 = .ok (.invokevirtual 87, 3) := by decide +kernel
theorem dX13_choose_29 : decode cX13_choose 29 = .ok (.ifCond .le 23, 3) := by decide +kernel
theorem dX13_choose_32 : decode cX13_choose 32 = .ok (.aload_n 0, 1) := by decide +kernel
theorem dX13_choose_33 : decode cX13_choose 33 = .ok (.getfield 41, 3) := by decide +kernel
theorem dX13_choose_36 : decode cX13_choose 36 = .ok (.aload_n 0, 1) := by decide +kernel
theorem dX13_choose_37 : decode cX13_choose 37 = .ok (.getfield 84, 3) := by decide +kernel
theorem dX13_choose_40 : decode cX13_choose 40 = .ok (.iload_n 1, 1) := by decide +kernel
theorem dX13_choose_41 : decode cX13_choose 41 = .ok (.iastore, 1) := by decide +kernel
theorem dX13_choose_42 : decode cX13_choose 42 = .ok (.aload_n 0, 1) := by decide +kernel
theorem dX13_choose_43 : decode cX13_choose 43 = .ok (.dup, 1) := by decide +kernel
theorem dX13_choose_44 : decode cX13_choose 44 = .ok (.getfield 84, 3) := by decide +kernel
theorem dX13_choose_47 : decode cX13_choose 47 = .ok (.iconst 1, 1) := by decide +kernel
theorem dX13_choose_48 : decode cX13_choose 48 = .ok (.iadd, 1) := by decide +kernel
theorem dX13_choose_49 : decode cX13_choose 49 = .ok (.putfield 84, 3) := by decide +kernel
theorem dX13_choose_58 : decode cX13_choose 58 = .ok (.return_, 1) := by decide +kernel
theorem dX13_way_0 : decode cX13_way 0 = .ok (.aload_n 0, 1) := by decide +kernel
theorem dX13_way_1 : decode cX13_way 1 = .ok (.getfield 7, 3) := by decide +kernel
theorem dX13_way_4 : decode cX13_way 4 = .ok (.iload_n 1, 1) := by decide +kernel
theorem dX13_way_5 : decode cX13_way 5 = .ok (.iaload, 1) := by decide +kernel
theorem dX13_way_6 : decode cX13_way 6 = .ok (.iload_n 2, 1) := by decide +kernel
theorem dX13_way_7 : decode cX13_way 7 = .ok (.iload_n 3, 1) := by decide +kernel
theorem dX13_way_8 : decode cX13_way 8 = .ok (.if_icmp .ge 9, 3) := by decide +kernel
theorem dX13_way_17 : decode cX13_way 17 = .ok (.iload_n 2, 1) := by decide +kernel
theorem dX13_way_18 : decode cX13_way 18 = .ok (.iload_n 3, 1) := by decide +kernel
theorem dX13_way_19 : decode cX13_way 19 = .ok (.isub, 1) := by decide +kernel
theorem dX13_way_20 : decode cX13_way 20 = .ok (.imul, 1) := by decide +kernel
theorem dX13_way_21 : decode cX13_way 21 = .ok (.ireturn, 1) := by decide +kernel
theorem dX13_way_11 : decode cX13_way 11 = .ok (.iload_n 3, 1) := by decide +kernel
theorem dX13_way_12 : decode cX13_way 12 = .ok (.iload_n 2, 1) := by decide +kernel
theorem dX13_way_13 : decode cX13_way 13 = .ok (.isub, 1) := by decide +kernel
theorem dX13_way_14 : decode cX13_way 14 = .ok (.goto 6, 3) := by decide +kernel
theorem dX13_begins_0 : decode cX13_begins 0 = .ok (.aload_n 0, 1) := by decide +kernel
theorem dX13_begins_1 : decode cX13_begins 1 = .ok (.getfield 16, 3) := by decide +kernel
theorem dX13_begins_4 : decode cX13_begins 4 = .ok (.iload_n 1, 1) := by decide +kernel
theorem dX13_begins_5 : decode cX13_begins 5 = .ok (.iaload, 1) := by decide +kernel
theorem dX13_begins_6 : decode cX13_begins 6 = .ok (.aload_n 0, 1) := by decide +kernel
theorem dX13_begins_7 : decode cX13_begins 7 = .ok (.getfield 73, 3) := by decide +kernel
theorem dX13_begins_10 : decode cX13_begins 10 = .ok (.if_icmp .le 17, 3) := by decide +kernel
theorem dX13_begins_27 : decode cX13_begins 27 = .ok (.iconst 0, 1) := by decide +kernel
theorem dX13_begins_28 : decode cX13_begins 28 = .ok (.ireturn, 1) := by decide +kernel
theorem dX13_begins_13 : decode cX13_begins 13 = .ok (.aload_n 0, 1) := by decide +kernel
theorem dX13_begins_14 : decode cX13_begins 14 = .ok (.getfield 16, 3) := by decide +kernel
theorem dX13_begins_17 : decode cX13_begins 17 = .ok (.iload_n 1, 1) := by decide +kernel
theorem dX13_begins_18 : decode cX13_begins 18 = .ok (.iaload, 1) := by decide +kernel
theorem dX13_begins_19 : decode cX13_begins 19 = .ok (.aload_n 0, 1) := by decide +kernel
theorem dX13_begins_20 : decode cX13_begins 20 = .ok (.getfield 73, 3) := by decide +kernel
theorem dX13_begins_23 : decode cX13_begins 23 = .ok (.isub, 1) := by decide +kernel
theorem dX13_begins_24 : decode cX13_begins 24 = .ok (.goto 4, 3) := by decide +kernel
theorem dX13_costOf_0 : decode cX13_costOf 0 = .ok (.lconst 0, 1) := by decide +kernel
theorem dX13_costOf_1 : decode cX13_costOf 1 = .ok (.lstore_n 2, 1) := by decide +kernel
theorem dX13_costOf_2 : decode cX13_costOf 2 = .ok (.aload_n 0, 1) := by decide +kernel
theorem dX13_costOf_3 : decode cX13_costOf 3 = .ok (.iload_n 1, 1) := by decide +kernel
theorem dX13_costOf_4 : decode cX13_costOf 4 = .ok (.invokevirtual 91, 3) := by decide +kernel
theorem dX13_costOf_7 : decode cX13_costOf 7 = .ok (.istore 4, 2) := by decide +kernel
theorem dX13_costOf_9 : decode cX13_costOf 9 = .ok (.aload_n 0, 1) := by decide +kernel
theorem dX13_costOf_10 : decode cX13_costOf 10 = .ok (.getfield 13, 3) := by decide +kernel
theorem dX13_costOf_13 : decode cX13_costOf 13 = .ok (.iload_n 1, 1) := by decide +kernel
theorem dX13_costOf_14 : decode cX13_costOf 14 = .ok (.iaload, 1) := by decide +kernel
theorem dX13_costOf_15 : decode cX13_costOf 15 = .ok (.istore 5, 2) := by decide +kernel
theorem dX13_costOf_17 : decode cX13_costOf 17 = .ok (.iconst 0, 1) := by decide +kernel
theorem dX13_costOf_18 : decode cX13_costOf 18 = .ok (.istore 6, 2) := by decide +kernel
theorem dX13_costOf_20 : decode cX13_costOf 20 = .ok (.iload 6, 2) := by decide +kernel
theorem dX13_costOf_22 : decode cX13_costOf 22 = .ok (.aload_n 0, 1) := by decide +kernel
theorem dX13_costOf_23 : decode cX13_costOf 23 = .ok (.getfield 94, 3) := by decide +kernel
theorem dX13_costOf_26 : decode cX13_costOf 26 = .ok (.if_icmp .ge 95, 3) := by decide +kernel
theorem dX13_costOf_29 : decode cX13_costOf 29 = .ok (.aload_n 0, 1) := by decide +kernel
theorem dX13_costOf_30 : decode cX13_costOf 30 = .ok (.getfield 44, 3) := by decide +kernel
theorem dX13_costOf_33 : decode cX13_costOf 33 = .ok (.iload 6, 2) := by decide +kernel
theorem dX13_costOf_35 : decode cX13_costOf 35 = .ok (.iaload, 1) := by decide +kernel
theorem dX13_costOf_36 : decode cX13_costOf 36 = .ok (.istore 7, 2) := by decide +kernel
theorem dX13_costOf_38 : decode cX13_costOf 38 = .ok (.iload 4, 2) := by decide +kernel
theorem dX13_costOf_40 : decode cX13_costOf 40 = .ok (.aload_n 0, 1) := by decide +kernel
theorem dX13_costOf_41 : decode cX13_costOf 41 = .ok (.iload_n 1, 1) := by decide +kernel
theorem dX13_costOf_42 : decode cX13_costOf 42 = .ok (.iload 5, 2) := by decide +kernel
theorem dX13_costOf_44 : decode cX13_costOf 44 = .ok (.aload_n 0, 1) := by decide +kernel
theorem dX13_costOf_45 : decode cX13_costOf 45 = .ok (.getfield 25, 3) := by decide +kernel
theorem dX13_costOf_48 : decode cX13_costOf 48 = .ok (.iload 7, 2) := by decide +kernel
theorem dX13_costOf_50 : decode cX13_costOf 50 = .ok (.iaload, 1) := by decide +kernel
theorem dX13_costOf_51 : decode cX13_costOf 51 = .ok (.invokevirtual 97, 3) := by decide +kernel
theorem dX13_costOf_54 : decode cX13_costOf 54 = .ok (.iadd, 1) := by decide +kernel
theorem dX13_costOf_55 : decode cX13_costOf 55 = .ok (.istore 4, 2) := by decide +kernel
theorem dX13_costOf_57 : decode cX13_costOf 57 = .ok (.lload_n 2, 1) := by decide +kernel
theorem dX13_costOf_58 : decode cX13_costOf 58 = .ok (.aload_n 0, 1) := by decide +kernel
theorem dX13_costOf_59 : decode cX13_costOf 59 = .ok (.iload 7, 2) := by decide +kernel
theorem dX13_costOf_61 : decode cX13_costOf 61 = .ok (.invokevirtual 101, 3) := by decide +kernel
theorem dX13_costOf_64 : decode cX13_costOf 64 = .ok (.i2l, 1) := by decide +kernel
theorem dX13_costOf_65 : decode cX13_costOf 65 = .ok (.iload 4, 2) := by decide +kernel
theorem dX13_costOf_67 : decode cX13_costOf 67 = .ok (.i2l, 1) := by decide +kernel
theorem dX13_costOf_68 : decode cX13_costOf 68 = .ok (.lmul, 1) := by decide +kernel
theorem dX13_costOf_69 : decode cX13_costOf 69 = .ok (.ladd, 1) := by decide +kernel
theorem dX13_costOf_70 : decode cX13_costOf 70 = .ok (.lstore_n 2, 1) := by decide +kernel
theorem dX13_costOf_71 : decode cX13_costOf 71 = .ok (.iload 4, 2) := by decide +kernel
theorem dX13_costOf_73 : decode cX13_costOf 73 = .ok (.iconst 3, 1) := by decide +kernel
theorem dX13_costOf_74 : decode cX13_costOf 74 = .ok (.aload_n 0, 1) := by decide +kernel
theorem dX13_costOf_75 : decode cX13_costOf 75 = .ok (.iload_n 1, 1) := by decide +kernel
theorem dX13_costOf_76 : decode cX13_costOf 76 = .ok (.aload_n 0, 1) := by decide +kernel
theorem dX13_costOf_77 : decode cX13_costOf 77 = .ok (.getfield 25, 3) := by decide +kernel
theorem dX13_costOf_80 : decode cX13_costOf 80 = .ok (.iload 7, 2) := by decide +kernel
theorem dX13_costOf_82 : decode cX13_costOf 82 = .ok (.iaload, 1) := by decide +kernel
theorem dX13_costOf_83 : decode cX13_costOf 83 = .ok (.aload_n 0, 1) := by decide +kernel
theorem dX13_costOf_84 : decode cX13_costOf 84 = .ok (.getfield 28, 3) := by decide +kernel
theorem dX13_costOf_87 : decode cX13_costOf 87 = .ok (.iload 7, 2) := by decide +kernel
theorem dX13_costOf_89 : decode cX13_costOf 89 = .ok (.iaload, 1) := by decide +kernel
theorem dX13_costOf_90 : decode cX13_costOf 90 = .ok (.invokevirtual 97, 3) := by decide +kernel
theorem dX13_costOf_93 : decode cX13_costOf 93 = .ok (.iadd, 1) := by decide +kernel
theorem dX13_costOf_94 : decode cX13_costOf 94 = .ok (.iadd, 1) := by decide +kernel
theorem dX13_costOf_95 : decode cX13_costOf 95 = .ok (.istore 4, 2) := by decide +kernel
theorem dX13_costOf_97 : decode cX13_costOf 97 = .ok (.lload_n 2, 1) := by decide +kernel
theorem dX13_costOf_98 : decode cX13_costOf 98 = .ok (.iload 4, 2) := by decide +kernel
theorem dX13_costOf_100 : decode cX13_costOf 100 = .ok (.i2l, 1) := by decide +kernel
theorem dX13_costOf_101 : decode cX13_costOf 101 = .ok (.ladd, 1) := by decide +kernel
theorem dX13_costOf_102 : decode cX13_costOf 102 = .ok (.lstore_n 2, 1) := by decide +kernel
theorem dX13_costOf_103 : decode cX13_costOf 103 = .ok (.iinc 4 3, 3) := by decide +kernel
theorem dX13_costOf_106 : decode cX13_costOf 106 = .ok (.aload_n 0, 1) := by decide +kernel
theorem dX13_costOf_107 : decode cX13_costOf 107 = .ok (.getfield 28, 3) := by decide +kernel
theorem dX13_costOf_110 : decode cX13_costOf 110 = .ok (.iload 7, 2) := by decide +kernel
theorem dX13_costOf_112 : decode cX13_costOf 112 = .ok (.iaload, 1) := by decide +kernel
theorem dX13_costOf_113 : decode cX13_costOf 113 = .ok (.istore 5, 2) := by decide +kernel
theorem dX13_costOf_115 : decode cX13_costOf 115 = .ok (.iinc 6 1, 3) := by decide +kernel
theorem dX13_costOf_118 : decode cX13_costOf 118 = .ok (.goto (-98), 3) := by decide +kernel
theorem dX13_costOf_121 : decode cX13_costOf 121 = .ok (.lload_n 2, 1) := by decide +kernel
theorem dX13_costOf_122 : decode cX13_costOf 122 = .ok (.lreturn, 1) := by decide +kernel
theorem dX13_nextRow_0 : decode cX13_nextRow 0 = .ok (.aload_n 0, 1) := by decide +kernel
theorem dX13_nextRow_1 : decode cX13_nextRow 1 = .ok (.getfield 94, 3) := by decide +kernel
theorem dX13_nextRow_4 : decode cX13_nextRow 4 = .ok (.iconst 2, 1) := by decide +kernel
theorem dX13_nextRow_5 : decode cX13_nextRow 5 = .ok (.isub, 1) := by decide +kernel
theorem dX13_nextRow_6 : decode cX13_nextRow 6 = .ok (.istore_n 1, 1) := by decide +kernel
theorem dX13_nextRow_7 : decode cX13_nextRow 7 = .ok (.iload_n 1, 1) := by decide +kernel
theorem dX13_nextRow_8 : decode cX13_nextRow 8 = .ok (.ifCond .lt 26, 3) := by decide +kernel
theorem dX13_nextRow_11 : decode cX13_nextRow 11 = .ok (.aload_n 0, 1) := by decide +kernel
theorem dX13_nextRow_12 : decode cX13_nextRow 12 = .ok (.getfield 44, 3) := by decide +kernel
theorem dX13_nextRow_15 : decode cX13_nextRow 15 = .ok (.iload_n 1, 1) := by decide +kernel
theorem dX13_nextRow_16 : decode cX13_nextRow 16 = .ok (.iaload, 1) := by decide +kernel
theorem dX13_nextRow_17 : decode cX13_nextRow 17 = .ok (.aload_n 0, 1) := by decide +kernel
theorem dX13_nextRow_18 : decode cX13_nextRow 18 = .ok (.getfield 44, 3) := by decide +kernel
theorem dX13_nextRow_21 : decode cX13_nextRow 21 = .ok (.iload_n 1, 1) := by decide +kernel
theorem dX13_nextRow_22 : decode cX13_nextRow 22 = .ok (.iconst 1, 1) := by decide +kernel
theorem dX13_nextRow_23 : decode cX13_nextRow 23 = .ok (.iadd, 1) := by decide +kernel
theorem dX13_nextRow_24 : decode cX13_nextRow 24 = .ok (.iaload, 1) := by decide +kernel
theorem dX13_nextRow_25 : decode cX13_nextRow 25 = .ok (.if_icmp .le 9, 3) := by decide +kernel
theorem dX13_nextRow_28 : decode cX13_nextRow 28 = .ok (.iinc 1 (-1), 3) := by decide +kernel
theorem dX13_nextRow_31 : decode cX13_nextRow 31 = .ok (.goto (-24), 3) := by decide +kernel
theorem dX13_nextRow_34 : decode cX13_nextRow 34 = .ok (.iload_n 1, 1) := by decide +kernel
theorem dX13_nextRow_35 : decode cX13_nextRow 35 = .ok (.ifCond .ge 5, 3) := by decide +kernel
theorem dX13_nextRow_40 : decode cX13_nextRow 40 = .ok (.aload_n 0, 1) := by decide +kernel
theorem dX13_nextRow_41 : decode cX13_nextRow 41 = .ok (.getfield 94, 3) := by decide +kernel
theorem dX13_nextRow_44 : decode cX13_nextRow 44 = .ok (.iconst 1, 1) := by decide +kernel
theorem dX13_nextRow_45 : decode cX13_nextRow 45 = .ok (.isub, 1) := by decide +kernel
theorem dX13_nextRow_46 : decode cX13_nextRow 46 = .ok (.istore_n 2, 1) := by decide +kernel
theorem dX13_nextRow_47 : decode cX13_nextRow 47 = .ok (.aload_n 0, 1) := by decide +kernel
theorem dX13_nextRow_48 : decode cX13_nextRow 48 = .ok (.getfield 44, 3) := by decide +kernel
theorem dX13_nextRow_51 : decode cX13_nextRow 51 = .ok (.iload_n 2, 1) := by decide +kernel
theorem dX13_nextRow_52 : decode cX13_nextRow 52 = .ok (.iaload, 1) := by decide +kernel
theorem dX13_nextRow_53 : decode cX13_nextRow 53 = .ok (.aload_n 0, 1) := by decide +kernel
theorem dX13_nextRow_54 : decode cX13_nextRow 54 = .ok (.getfield 44, 3) := by decide +kernel
theorem dX13_nextRow_57 : decode cX13_nextRow 57 = .ok (.iload_n 1, 1) := by decide +kernel
theorem dX13_nextRow_58 : decode cX13_nextRow 58 = .ok (.iaload, 1) := by decide +kernel
theorem dX13_nextRow_59 : decode cX13_nextRow 59 = .ok (.if_icmp .ge 9, 3) := by decide +kernel
theorem dX13_nextRow_62 : decode cX13_nextRow 62 = .ok (.iinc 2 (-1), 3) := by decide +kernel
theorem dX13_nextRow_65 : decode cX13_nextRow 65 = .ok (.goto (-18), 3) := by decide +kernel
theorem dX13_nextRow_68 : decode cX13_nextRow 68 = .ok (.aload_n 0, 1) := by decide +kernel
theorem dX13_nextRow_69 : decode cX13_nextRow 69 = .ok (.getfield 44, 3) := by decide +kernel
theorem dX13_nextRow_72 : decode cX13_nextRow 72 = .ok (.iload_n 1, 1) := by decide +kernel
theorem dX13_nextRow_73 : decode cX13_nextRow 73 = .ok (.iaload, 1) := by decide +kernel
theorem dX13_nextRow_74 : decode cX13_nextRow 74 = .ok (.istore_n 3, 1) := by decide +kernel
theorem dX13_nextRow_75 : decode cX13_nextRow 75 = .ok (.aload_n 0, 1) := by decide +kernel
theorem dX13_nextRow_76 : decode cX13_nextRow 76 = .ok (.getfield 44, 3) := by decide +kernel
theorem dX13_nextRow_79 : decode cX13_nextRow 79 = .ok (.iload_n 1, 1) := by decide +kernel
theorem dX13_nextRow_80 : decode cX13_nextRow 80 = .ok (.aload_n 0, 1) := by decide +kernel
theorem dX13_nextRow_81 : decode cX13_nextRow 81 = .ok (.getfield 44, 3) := by decide +kernel
theorem dX13_nextRow_84 : decode cX13_nextRow 84 = .ok (.iload_n 2, 1) := by decide +kernel
theorem dX13_nextRow_85 : decode cX13_nextRow 85 = .ok (.iaload, 1) := by decide +kernel
theorem dX13_nextRow_86 : decode cX13_nextRow 86 = .ok (.iastore, 1) := by decide +kernel
theorem dX13_nextRow_87 : decode cX13_nextRow 87 = .ok (.aload_n 0, 1) := by decide +kernel
theorem dX13_nextRow_88 : decode cX13_nextRow 88 = .ok (.getfield 44, 3) := by decide +kernel
theorem dX13_nextRow_91 : decode cX13_nextRow 91 = .ok (.iload_n 2, 1) := by decide +kernel
theorem dX13_nextRow_92 : decode cX13_nextRow 92 = .ok (.iload_n 3, 1) := by decide +kernel
theorem dX13_nextRow_93 : decode cX13_nextRow 93 = .ok (.iastore, 1) := by decide +kernel
theorem dX13_nextRow_94 : decode cX13_nextRow 94 = .ok (.iload_n 1, 1) := by decide +kernel
theorem dX13_nextRow_95 : decode cX13_nextRow 95 = .ok (.iconst 1, 1) := by decide +kernel
theorem dX13_nextRow_96 : decode cX13_nextRow 96 = .ok (.iadd, 1) := by decide +kernel
theorem dX13_nextRow_97 : decode cX13_nextRow 97 = .ok (.istore 4, 2) := by decide +kernel
theorem dX13_nextRow_99 : decode cX13_nextRow 99 = .ok (.aload_n 0, 1) := by decide +kernel
theorem dX13_nextRow_100 : decode cX13_nextRow 100 = .ok (.getfield 94, 3) := by decide +kernel
theorem dX13_nextRow_103 : decode cX13_nextRow 103 = .ok (.iconst 1, 1) := by decide +kernel
theorem dX13_nextRow_104 : decode cX13_nextRow 104 = .ok (.isub, 1) := by decide +kernel
theorem dX13_nextRow_105 : decode cX13_nextRow 105 = .ok (.istore 5, 2) := by decide +kernel
theorem dX13_nextRow_107 : decode cX13_nextRow 107 = .ok (.iload 4, 2) := by decide +kernel
theorem dX13_nextRow_109 : decode cX13_nextRow 109 = .ok (.iload 5, 2) := by decide +kernel
theorem dX13_nextRow_111 : decode cX13_nextRow 111 = .ok (.if_icmp .ge 42, 3) := by decide +kernel
theorem dX13_nextRow_114 : decode cX13_nextRow 114 = .ok (.aload_n 0, 1) := by decide +kernel
theorem dX13_nextRow_115 : decode cX13_nextRow 115 = .ok (.getfield 44, 3) := by decide +kernel
theorem dX13_nextRow_118 : decode cX13_nextRow 118 = .ok (.iload 4, 2) := by decide +kernel
theorem dX13_nextRow_120 : decode cX13_nextRow 120 = .ok (.iaload, 1) := by decide +kernel
theorem dX13_nextRow_121 : decode cX13_nextRow 121 = .ok (.istore_n 3, 1) := by decide +kernel
theorem dX13_nextRow_122 : decode cX13_nextRow 122 = .ok (.aload_n 0, 1) := by decide +kernel
theorem dX13_nextRow_123 : decode cX13_nextRow 123 = .ok (.getfield 44, 3) := by decide +kernel
theorem dX13_nextRow_126 : decode cX13_nextRow 126 = .ok (.iload 4, 2) := by decide +kernel
theorem dX13_nextRow_128 : decode cX13_nextRow 128 = .ok (.aload_n 0, 1) := by decide +kernel
theorem dX13_nextRow_129 : decode cX13_nextRow 129 = .ok (.getfield 44, 3) := by decide +kernel
theorem dX13_nextRow_132 : decode cX13_nextRow 132 = .ok (.iload 5, 2) := by decide +kernel
theorem dX13_nextRow_134 : decode cX13_nextRow 134 = .ok (.iaload, 1) := by decide +kernel
theorem dX13_nextRow_135 : decode cX13_nextRow 135 = .ok (.iastore, 1) := by decide +kernel
theorem dX13_nextRow_136 : decode cX13_nextRow 136 = .ok (.aload_n 0, 1) := by decide +kernel
theorem dX13_nextRow_137 : decode cX13_nextRow 137 = .ok (.getfield 44, 3) := by decide +kernel
theorem dX13_nextRow_140 : decode cX13_nextRow 140 = .ok (.iload 5, 2) := by decide +kernel
theorem dX13_nextRow_142 : decode cX13_nextRow 142 = .ok (.iload_n 3, 1) := by decide +kernel
theorem dX13_nextRow_143 : decode cX13_nextRow 143 = .ok (.iastore, 1) := by decide +kernel
theorem dX13_nextRow_144 : decode cX13_nextRow 144 = .ok (.iinc 4 1, 3) := by decide +kernel
theorem dX13_nextRow_147 : decode cX13_nextRow 147 = .ok (.iinc 5 (-1), 3) := by decide +kernel
theorem dX13_nextRow_150 : decode cX13_nextRow 150 = .ok (.goto (-43), 3) := by decide +kernel
theorem dX13_nextRow_153 : decode cX13_nextRow 153 = .ok (.iconst 1, 1) := by decide +kernel
theorem dX13_nextRow_154 : decode cX13_nextRow 154 = .ok (.ireturn, 1) := by decide +kernel
theorem dX13_nextRow_38 : decode cX13_nextRow 38 = .ok (.iconst 0, 1) := by decide +kernel
theorem dX13_nextRow_39 : decode cX13_nextRow 39 = .ok (.ireturn, 1) := by decide +kernel
theorem dX13_isRight_0 : decode cX13_isRight 0 = .ok (.iconst 1, 1) := by decide +kernel
theorem dX13_isRight_1 : decode cX13_isRight 1 = .ok (.istore_n 2, 1) := by decide +kernel
theorem dX13_isRight_2 : decode cX13_isRight 2 = .ok (.iconst 1, 1) := by decide +kernel
theorem dX13_isRight_3 : decode cX13_isRight 3 = .ok (.istore_n 3, 1) := by decide +kernel
theorem dX13_isRight_4 : decode cX13_isRight 4 = .ok (.iload_n 3, 1) := by decide +kernel
theorem dX13_isRight_5 : decode cX13_isRight 5 = .ok (.aload_n 0, 1) := by decide +kernel
theorem dX13_isRight_6 : decode cX13_isRight 6 = .ok (.getfield 94, 3) := by decide +kernel
theorem dX13_isRight_9 : decode cX13_isRight 9 = .ok (.if_icmp .ge 34, 3) := by decide +kernel
theorem dX13_isRight_12 : decode cX13_isRight 12 = .ok (.iload_n 2, 1) := by decide +kernel
theorem dX13_isRight_13 : decode cX13_isRight 13 = .ok (.ifCond .eq 22, 3) := by decide +kernel
theorem dX13_isRight_35 : decode cX13_isRight 35 = .ok (.iconst 0, 1) := by decide +kernel
theorem dX13_isRight_36 : decode cX13_isRight 36 = .ok (.istore_n 2, 1) := by decide +kernel
theorem dX13_isRight_37 : decode cX13_isRight 37 = .ok (.iinc 3 1, 3) := by decide +kernel
theorem dX13_isRight_40 : decode cX13_isRight 40 = .ok (.goto (-36), 3) := by decide +kernel
theorem dX13_isRight_16 : decode cX13_isRight 16 = .ok (.aload_n 0, 1) := by decide +kernel
theorem dX13_isRight_17 : decode cX13_isRight 17 = .ok (.getfield 38, 3) := by decide +kernel
theorem dX13_isRight_20 : decode cX13_isRight 20 = .ok (.aload_n 0, 1) := by decide +kernel
theorem dX13_isRight_21 : decode cX13_isRight 21 = .ok (.getfield 44, 3) := by decide +kernel
theorem dX13_isRight_24 : decode cX13_isRight 24 = .ok (.iload_n 3, 1) := by decide +kernel
theorem dX13_isRight_25 : decode cX13_isRight 25 = .ok (.iaload, 1) := by decide +kernel
theorem dX13_isRight_26 : decode cX13_isRight 26 = .ok (.iaload, 1) := by decide +kernel
theorem dX13_isRight_27 : decode cX13_isRight 27 = .ok (.iload_n 1, 1) := by decide +kernel
theorem dX13_isRight_28 : decode cX13_isRight 28 = .ok (.if_icmp .eq 7, 3) := by decide +kernel
theorem dX13_isRight_31 : decode cX13_isRight 31 = .ok (.iconst 1, 1) := by decide +kernel
theorem dX13_isRight_32 : decode cX13_isRight 32 = .ok (.goto 4, 3) := by decide +kernel
theorem dX13_isRight_43 : decode cX13_isRight 43 = .ok (.iload_n 2, 1) := by decide +kernel
theorem dX13_isRight_44 : decode cX13_isRight 44 = .ok (.ireturn, 1) := by decide +kernel
theorem dX13_findRow_0 : decode cX13_findRow 0 = .ok (.bipush 64, 2) := by decide +kernel
theorem dX13_findRow_2 : decode cX13_findRow 2 = .ok (.iload_n 1, 1) := by decide +kernel
theorem dX13_findRow_3 : decode cX13_findRow 3 = .ok (.imul, 1) := by decide +kernel
theorem dX13_findRow_4 : decode cX13_findRow 4 = .ok (.iload_n 2, 1) := by decide +kernel
theorem dX13_findRow_5 : decode cX13_findRow 5 = .ok (.iadd, 1) := by decide +kernel
theorem dX13_findRow_6 : decode cX13_findRow 6 = .ok (.istore_n 3, 1) := by decide +kernel
theorem dX13_findRow_7 : decode cX13_findRow 7 = .ok (.aload_n 0, 1) := by decide +kernel
theorem dX13_findRow_8 : decode cX13_findRow 8 = .ok (.getfield 47, 3) := by decide +kernel
theorem dX13_findRow_11 : decode cX13_findRow 11 = .ok (.iload_n 3, 1) := by decide +kernel
theorem dX13_findRow_12 : decode cX13_findRow 12 = .ok (.ldc2_w 104, 3) := by decide +kernel
theorem dX13_findRow_15 : decode cX13_findRow 15 = .ok (.lastore, 1) := by decide +kernel
theorem dX13_findRow_16 : decode cX13_findRow 16 = .ok (.aload_n 0, 1) := by decide +kernel
theorem dX13_findRow_17 : decode cX13_findRow 17 = .ok (.iconst 0, 1) := by decide +kernel
theorem dX13_findRow_18 : decode cX13_findRow 18 = .ok (.putfield 94, 3) := by decide +kernel
theorem dX13_findRow_21 : decode cX13_findRow 21 = .ok (.iconst 0, 1) := by decide +kernel
theorem dX13_findRow_22 : decode cX13_findRow 22 = .ok (.istore 4, 2) := by decide +kernel
theorem dX13_findRow_24 : decode cX13_findRow 24 = .ok (.iload 4, 2) := by decide +kernel
theorem dX13_findRow_26 : decode cX13_findRow 26 = .ok (.aload_n 0, 1) := by decide +kernel
theorem dX13_findRow_27 : decode cX13_findRow 27 = .ok (.getfield 84, 3) := by decide +kernel
theorem dX13_findRow_30 : decode cX13_findRow 30 = .ok (.if_icmp .ge 64, 3) := by decide +kernel
theorem dX13_findRow_33 : decode cX13_findRow 33 = .ok (.iload_n 2, 1) := by decide +kernel
theorem dX13_findRow_34 : decode cX13_findRow 34 = .ok (.iload 4, 2) := by decide +kernel
theorem dX13_findRow_36 : decode cX13_findRow 36 = .ok (.ishr, 1) := by decide +kernel
theorem dX13_findRow_37 : decode cX13_findRow 37 = .ok (.iconst 1, 1) := by decide +kernel
theorem dX13_findRow_38 : decode cX13_findRow 38 = .ok (.iand, 1) := by decide +kernel
theorem dX13_findRow_39 : decode cX13_findRow 39 = .ok (.iconst 1, 1) := by decide +kernel
theorem dX13_findRow_40 : decode cX13_findRow 40 = .ok (.if_icmp .ne 48, 3) := by decide +kernel
theorem dX13_findRow_88 : decode cX13_findRow 88 = .ok (.iinc 4 1, 3) := by decide +kernel
theorem dX13_findRow_91 : decode cX13_findRow 91 = .ok (.goto (-67), 3) := by decide +kernel
theorem dX13_findRow_43 : decode cX13_findRow 43 = .ok (.aload_n 0, 1) := by decide +kernel
theorem dX13_findRow_44 : decode cX13_findRow 44 = .ok (.getfield 44, 3) := by decide +kernel
theorem dX13_findRow_47 : decode cX13_findRow 47 = .ok (.aload_n 0, 1) := by decide +kernel
theorem dX13_findRow_48 : decode cX13_findRow 48 = .ok (.getfield 94, 3) := by decide +kernel
theorem dX13_findRow_51 : decode cX13_findRow 51 = .ok (.aload_n 0, 1) := by decide +kernel
theorem dX13_findRow_52 : decode cX13_findRow 52 = .ok (.getfield 41, 3) := by decide +kernel
theorem dX13_findRow_55 : decode cX13_findRow 55 = .ok (.iload 4, 2) := by decide +kernel
theorem dX13_findRow_57 : decode cX13_findRow 57 = .ok (.iaload, 1) := by decide +kernel
theorem dX13_findRow_58 : decode cX13_findRow 58 = .ok (.iastore, 1) := by decide +kernel
theorem dX13_findRow_59 : decode cX13_findRow 59 = .ok (.aload_n 0, 1) := by decide +kernel
theorem dX13_findRow_60 : decode cX13_findRow 60 = .ok (.dup, 1) := by decide +kernel
theorem dX13_findRow_61 : decode cX13_findRow 61 = .ok (.getfield 94, 3) := by decide +kernel
theorem dX13_findRow_64 : decode cX13_findRow 64 = .ok (.iconst 1, 1) := by decide +kernel
theorem dX13_findRow_65 : decode cX13_findRow 65 = .ok (.iadd, 1) := by decide +kernel
theorem dX13_findRow_66 : decode cX13_findRow 66 = .ok (.putfield 94, 3) := by decide +kernel
theorem dX13_findRow_69 : decode cX13_findRow 69 = .ok (.aload_n 0, 1) := by decide +kernel
theorem dX13_findRow_70 : decode cX13_findRow 70 = .ok (.aload_n 0, 1) := by decide +kernel
theorem dX13_findRow_71 : decode cX13_findRow 71 = .ok (.getfield 41, 3) := by decide +kernel
theorem dX13_findRow_74 : decode cX13_findRow 74 = .ok (.iload 4, 2) := by decide +kernel
theorem dX13_findRow_76 : decode cX13_findRow 76 = .ok (.iaload, 1) := by decide +kernel
theorem dX13_findRow_77 : decode cX13_findRow 77 = .ok (.invokevirtual 87, 3) := by decide +kernel
theorem dX13_findRow_80 : decode cX13_findRow 80 = .ok (.iload_n 1, 1) := by decide +kernel
theorem dX13_findRow_81 : decode cX13_findRow 81 = .ok (.ishr, 1) := by decide +kernel
theorem dX13_findRow_82 : decode cX13_findRow 82 = .ok (.iconst 1, 1) := by decide +kernel
theorem dX13_findRow_83 : decode cX13_findRow 83 = .ok (.iand, 1) := by decide +kernel
theorem dX13_findRow_84 : decode cX13_findRow 84 = .ok (.ifCond .ne 4, 3) := by decide +kernel
theorem dX13_findRow_87 : decode cX13_findRow 87 = .ok (.return_, 1) := by decide +kernel
theorem dX13_findRow_94 : decode cX13_findRow 94 = .ok (.iconst 1, 1) := by decide +kernel
theorem dX13_findRow_95 : decode cX13_findRow 95 = .ok (.istore 4, 2) := by decide +kernel
theorem dX13_findRow_97 : decode cX13_findRow 97 = .ok (.iload 4, 2) := by decide +kernel
theorem dX13_findRow_99 : decode cX13_findRow 99 = .ok (.ifCond .eq 84, 3) := by decide +kernel
theorem dX13_findRow_102 : decode cX13_findRow 102 = .ok (.aload_n 0, 1) := by decide +kernel
theorem dX13_findRow_103 : decode cX13_findRow 103 = .ok (.iload_n 1, 1) := by decide +kernel
theorem dX13_findRow_104 : decode cX13_findRow 104 = .ok (.invokevirtual 106, 3) := by decide +kernel
theorem dX13_findRow_107 : decode cX13_findRow 107 = .ok (.lstore 5, 2) := by decide +kernel
theorem dX13_findRow_109 : decode cX13_findRow 109 = .ok (.aload_n 0, 1) := by decide +kernel
theorem dX13_findRow_110 : decode cX13_findRow 110 = .ok (.iload_n 1, 1) := by decide +kernel
theorem dX13_findRow_111 : decode cX13_findRow 111 = .ok (.invokevirtual 110, 3) := by decide +kernel
theorem dX13_findRow_114 : decode cX13_findRow 114 = .ok (.ifCond .eq 60, 3) := by decide +kernel
theorem dX13_findRow_174 : decode cX13_findRow 174 = .ok (.aload_n 0, 1) := by decide +kernel
theorem dX13_findRow_175 : decode cX13_findRow 175 = .ok (.invokevirtual 114, 3) := by decide +kernel
theorem dX13_findRow_178 : decode cX13_findRow 178 = .ok (.istore 4, 2) := by decide +kernel
theorem dX13_findRow_180 : decode cX13_findRow 180 = .ok (.goto (-83), 3) := by decide +kernel
theorem dX13_findRow_117 : decode cX13_findRow 117 = .ok (.lload 5, 2) := by decide +kernel
theorem dX13_findRow_119 : decode cX13_findRow 119 = .ok (.aload_n 0, 1) := by decide +kernel
theorem dX13_findRow_120 : decode cX13_findRow 120 = .ok (.getfield 47, 3) := by decide +kernel
theorem dX13_findRow_123 : decode cX13_findRow 123 = .ok (.iload_n 3, 1) := by decide +kernel
theorem dX13_findRow_124 : decode cX13_findRow 124 = .ok (.laload, 1) := by decide +kernel
theorem dX13_findRow_125 : decode cX13_findRow 125 = .ok (.lcmp, 1) := by decide +kernel
theorem dX13_findRow_126 : decode cX13_findRow 126 = .ok (.ifCond .ge 48, 3) := by decide +kernel
theorem dX13_findRow_129 : decode cX13_findRow 129 = .ok (.aload_n 0, 1) := by decide +kernel
theorem dX13_findRow_130 : decode cX13_findRow 130 = .ok (.getfield 47, 3) := by decide +kernel
theorem dX13_findRow_133 : decode cX13_findRow 133 = .ok (.iload_n 3, 1) := by decide +kernel
theorem dX13_findRow_134 : decode cX13_findRow 134 = .ok (.lload 5, 2) := by decide +kernel
theorem dX13_findRow_136 : decode cX13_findRow 136 = .ok (.lastore, 1) := by decide +kernel
theorem dX13_findRow_137 : decode cX13_findRow 137 = .ok (.iconst 0, 1) := by decide +kernel
theorem dX13_findRow_138 : decode cX13_findRow 138 = .ok (.istore 7, 2) := by decide +kernel
theorem dX13_findRow_140 : decode cX13_findRow 140 = .ok (.iload 7, 2) := by decide +kernel
theorem dX13_findRow_142 : decode cX13_findRow 142 = .ok (.aload_n 0, 1) := by decide +kernel
theorem dX13_findRow_143 : decode cX13_findRow 143 = .ok (.getfield 94, 3) := by decide +kernel
theorem dX13_findRow_146 : decode cX13_findRow 146 = .ok (.if_icmp .ge 28, 3) := by decide +kernel
theorem dX13_findRow_149 : decode cX13_findRow 149 = .ok (.aload_n 0, 1) := by decide +kernel
theorem dX13_findRow_150 : decode cX13_findRow 150 = .ok (.getfield 51, 3) := by decide +kernel
theorem dX13_findRow_153 : decode cX13_findRow 153 = .ok (.bipush 6, 2) := by decide +kernel
theorem dX13_findRow_155 : decode cX13_findRow 155 = .ok (.iload_n 3, 1) := by decide +kernel
theorem dX13_findRow_156 : decode cX13_findRow 156 = .ok (.imul, 1) := by decide +kernel
theorem dX13_findRow_157 : decode cX13_findRow 157 = .ok (.iload 7, 2) := by decide +kernel
theorem dX13_findRow_159 : decode cX13_findRow 159 = .ok (.iadd, 1) := by decide +kernel
theorem dX13_findRow_160 : decode cX13_findRow 160 = .ok (.aload_n 0, 1) := by decide +kernel
theorem dX13_findRow_161 : decode cX13_findRow 161 = .ok (.getfield 44, 3) := by decide +kernel
theorem dX13_findRow_164 : decode cX13_findRow 164 = .ok (.iload 7, 2) := by decide +kernel
theorem dX13_findRow_166 : decode cX13_findRow 166 = .ok (.iaload, 1) := by decide +kernel
theorem dX13_findRow_167 : decode cX13_findRow 167 = .ok (.iastore, 1) := by decide +kernel
theorem dX13_findRow_168 : decode cX13_findRow 168 = .ok (.iinc 7 1, 3) := by decide +kernel
theorem dX13_findRow_171 : decode cX13_findRow 171 = .ok (.goto (-31), 3) := by decide +kernel
theorem dX13_findRow_183 : decode cX13_findRow 183 = .ok (.return_, 1) := by decide +kernel
theorem dX13_bitsOf_0 : decode cX13_bitsOf 0 = .ok (.iconst 0, 1) := by decide +kernel
theorem dX13_bitsOf_1 : decode cX13_bitsOf 1 = .ok (.istore_n 3, 1) := by decide +kernel
theorem dX13_bitsOf_2 : decode cX13_bitsOf 2 = .ok (.iload_n 1, 1) := by decide +kernel
theorem dX13_bitsOf_3 : decode cX13_bitsOf 3 = .ok (.istore 4, 2) := by decide +kernel
theorem dX13_bitsOf_5 : decode cX13_bitsOf 5 = .ok (.aload_n 0, 1) := by decide +kernel
theorem dX13_bitsOf_6 : decode cX13_bitsOf 6 = .ok (.getfield 84, 3) := by decide +kernel
theorem dX13_bitsOf_9 : decode cX13_bitsOf 9 = .ok (.iconst 1, 1) := by decide +kernel
theorem dX13_bitsOf_10 : decode cX13_bitsOf 10 = .ok (.isub, 1) := by decide +kernel
theorem dX13_bitsOf_11 : decode cX13_bitsOf 11 = .ok (.istore 5, 2) := by decide +kernel
theorem dX13_bitsOf_13 : decode cX13_bitsOf 13 = .ok (.iload 5, 2) := by decide +kernel
theorem dX13_bitsOf_15 : decode cX13_bitsOf 15 = .ok (.ifCond .lt 40, 3) := by decide +kernel
theorem dX13_bitsOf_18 : decode cX13_bitsOf 18 = .ok (.iload_n 3, 1) := by decide +kernel
theorem dX13_bitsOf_19 : decode cX13_bitsOf 19 = .ok (.iload 4, 2) := by decide +kernel
theorem dX13_bitsOf_21 : decode cX13_bitsOf 21 = .ok (.aload_n 0, 1) := by decide +kernel
theorem dX13_bitsOf_22 : decode cX13_bitsOf 22 = .ok (.getfield 70, 3) := by decide +kernel
theorem dX13_bitsOf_25 : decode cX13_bitsOf 25 = .ok (.irem, 1) := by decide +kernel
theorem dX13_bitsOf_26 : decode cX13_bitsOf 26 = .ok (.iload_n 2, 1) := by decide +kernel
theorem dX13_bitsOf_27 : decode cX13_bitsOf 27 = .ok (.if_icmp .ne 10, 3) := by decide +kernel
theorem dX13_bitsOf_37 : decode cX13_bitsOf 37 = .ok (.iconst 0, 1) := by decide +kernel
theorem dX13_bitsOf_38 : decode cX13_bitsOf 38 = .ok (.ior, 1) := by decide +kernel
theorem dX13_bitsOf_39 : decode cX13_bitsOf 39 = .ok (.istore_n 3, 1) := by decide +kernel
theorem dX13_bitsOf_40 : decode cX13_bitsOf 40 = .ok (.iload 4, 2) := by decide +kernel
theorem dX13_bitsOf_42 : decode cX13_bitsOf 42 = .ok (.aload_n 0, 1) := by decide +kernel
theorem dX13_bitsOf_43 : decode cX13_bitsOf 43 = .ok (.getfield 70, 3) := by decide +kernel
theorem dX13_bitsOf_46 : decode cX13_bitsOf 46 = .ok (.idiv, 1) := by decide +kernel
theorem dX13_bitsOf_47 : decode cX13_bitsOf 47 = .ok (.istore 4, 2) := by decide +kernel
theorem dX13_bitsOf_49 : decode cX13_bitsOf 49 = .ok (.iinc 5 (-1), 3) := by decide +kernel
theorem dX13_bitsOf_52 : decode cX13_bitsOf 52 = .ok (.goto (-39), 3) := by decide +kernel
theorem dX13_bitsOf_30 : decode cX13_bitsOf 30 = .ok (.iconst 1, 1) := by decide +kernel
theorem dX13_bitsOf_31 : decode cX13_bitsOf 31 = .ok (.iload 5, 2) := by decide +kernel
theorem dX13_bitsOf_33 : decode cX13_bitsOf 33 = .ok (.ishl, 1) := by decide +kernel
theorem dX13_bitsOf_34 : decode cX13_bitsOf 34 = .ok (.goto 4, 3) := by decide +kernel
theorem dX13_bitsOf_55 : decode cX13_bitsOf 55 = .ok (.iload_n 3, 1) := by decide +kernel
theorem dX13_bitsOf_56 : decode cX13_bitsOf 56 = .ok (.ireturn, 1) := by decide +kernel
theorem dX13_sumOf_0 : decode cX13_sumOf 0 = .ok (.lconst 0, 1) := by decide +kernel
theorem dX13_sumOf_1 : decode cX13_sumOf 1 = .ok (.lstore_n 2, 1) := by decide +kernel
theorem dX13_sumOf_2 : decode cX13_sumOf 2 = .ok (.iconst 0, 1) := by decide +kernel
theorem dX13_sumOf_3 : decode cX13_sumOf 3 = .ok (.istore 4, 2) := by decide +kernel
theorem dX13_sumOf_5 : decode cX13_sumOf 5 = .ok (.iload 4, 2) := by decide +kernel
theorem dX13_sumOf_7 : decode cX13_sumOf 7 = .ok (.aload_n 0, 1) := by decide +kernel
theorem dX13_sumOf_8 : decode cX13_sumOf 8 = .ok (.getfield 70, 3) := by decide +kernel
theorem dX13_sumOf_11 : decode cX13_sumOf 11 = .ok (.if_icmp .ge 30, 3) := by decide +kernel
theorem dX13_sumOf_14 : decode cX13_sumOf 14 = .ok (.lload_n 2, 1) := by decide +kernel
theorem dX13_sumOf_15 : decode cX13_sumOf 15 = .ok (.aload_n 0, 1) := by decide +kernel
theorem dX13_sumOf_16 : decode cX13_sumOf 16 = .ok (.getfield 47, 3) := by decide +kernel
theorem dX13_sumOf_19 : decode cX13_sumOf 19 = .ok (.bipush 64, 2) := by decide +kernel
theorem dX13_sumOf_21 : decode cX13_sumOf 21 = .ok (.iload 4, 2) := by decide +kernel
theorem dX13_sumOf_23 : decode cX13_sumOf 23 = .ok (.imul, 1) := by decide +kernel
theorem dX13_sumOf_24 : decode cX13_sumOf 24 = .ok (.aload_n 0, 1) := by decide +kernel
theorem dX13_sumOf_25 : decode cX13_sumOf 25 = .ok (.iload_n 1, 1) := by decide +kernel
theorem dX13_sumOf_26 : decode cX13_sumOf 26 = .ok (.iload 4, 2) := by decide +kernel
theorem dX13_sumOf_28 : decode cX13_sumOf 28 = .ok (.invokevirtual 118, 3) := by decide +kernel
theorem dX13_sumOf_31 : decode cX13_sumOf 31 = .ok (.iadd, 1) := by decide +kernel
theorem dX13_sumOf_32 : decode cX13_sumOf 32 = .ok (.laload, 1) := by decide +kernel
theorem dX13_sumOf_33 : decode cX13_sumOf 33 = .ok (.ladd, 1) := by decide +kernel
theorem dX13_sumOf_34 : decode cX13_sumOf 34 = .ok (.lstore_n 2, 1) := by decide +kernel
theorem dX13_sumOf_35 : decode cX13_sumOf 35 = .ok (.iinc 4 1, 3) := by decide +kernel
theorem dX13_sumOf_38 : decode cX13_sumOf 38 = .ok (.goto (-33), 3) := by decide +kernel
theorem dX13_sumOf_41 : decode cX13_sumOf 41 = .ok (.lload_n 2, 1) := by decide +kernel
theorem dX13_sumOf_42 : decode cX13_sumOf 42 = .ok (.lreturn, 1) := by decide +kernel
theorem dX13_tell_0 : decode cX13_tell 0 = .ok (.aload_n 0, 1) := by decide +kernel
theorem dX13_tell_1 : decode cX13_tell 1 = .ok (.iload_n 1, 1) := by decide +kernel
theorem dX13_tell_2 : decode cX13_tell 2 = .ok (.invokevirtual 91, 3) := by decide +kernel
theorem dX13_tell_5 : decode cX13_tell 5 = .ok (.istore_n 3, 1) := by decide +kernel
theorem dX13_tell_6 : decode cX13_tell 6 = .ok (.aload_n 0, 1) := by decide +kernel
theorem dX13_tell_7 : decode cX13_tell 7 = .ok (.getfield 13, 3) := by decide +kernel
theorem dX13_tell_10 : decode cX13_tell 10 = .ok (.iload_n 1, 1) := by decide +kernel
theorem dX13_tell_11 : decode cX13_tell 11 = .ok (.iaload, 1) := by decide +kernel
theorem dX13_tell_12 : decode cX13_tell 12 = .ok (.istore 4, 2) := by decide +kernel
theorem dX13_tell_14 : decode cX13_tell 14 = .ok (.iconst 0, 1) := by decide +kernel
theorem dX13_tell_15 : decode cX13_tell 15 = .ok (.istore 5, 2) := by decide +kernel
theorem dX13_tell_17 : decode cX13_tell 17 = .ok (.iconst 0, 1) := by decide +kernel
theorem dX13_tell_18 : decode cX13_tell 18 = .ok (.istore 6, 2) := by decide +kernel
theorem dX13_tell_20 : decode cX13_tell 20 = .ok (.iload 6, 2) := by decide +kernel
theorem dX13_tell_22 : decode cX13_tell 22 = .ok (.bipush 6, 2) := by decide +kernel
theorem dX13_tell_24 : decode cX13_tell 24 = .ok (.if_icmp .ge 20, 3) := by decide +kernel
theorem dX13_tell_27 : decode cX13_tell 27 = .ok (.iload 5, 2) := by decide +kernel
theorem dX13_tell_29 : decode cX13_tell 29 = .ok (.iload_n 2, 1) := by decide +kernel
theorem dX13_tell_30 : decode cX13_tell 30 = .ok (.iload 6, 2) := by decide +kernel
theorem dX13_tell_32 : decode cX13_tell 32 = .ok (.ishr, 1) := by decide +kernel
theorem dX13_tell_33 : decode cX13_tell 33 = .ok (.iconst 1, 1) := by decide +kernel
theorem dX13_tell_34 : decode cX13_tell 34 = .ok (.iand, 1) := by decide +kernel
theorem dX13_tell_35 : decode cX13_tell 35 = .ok (.iadd, 1) := by decide +kernel
theorem dX13_tell_36 : decode cX13_tell 36 = .ok (.istore 5, 2) := by decide +kernel
theorem dX13_tell_38 : decode cX13_tell 38 = .ok (.iinc 6 1, 3) := by decide +kernel
theorem dX13_tell_41 : decode cX13_tell 41 = .ok (.goto (-21), 3) := by decide +kernel
theorem dX13_tell_44 : decode cX13_tell 44 = .ok (.iconst 0, 1) := by decide +kernel
theorem dX13_tell_45 : decode cX13_tell 45 = .ok (.istore 6, 2) := by decide +kernel
theorem dX13_tell_47 : decode cX13_tell 47 = .ok (.iload 6, 2) := by decide +kernel
theorem dX13_tell_49 : decode cX13_tell 49 = .ok (.iload 5, 2) := by decide +kernel
theorem dX13_tell_51 : decode cX13_tell 51 = .ok (.if_icmp .ge 123, 3) := by decide +kernel
theorem dX13_tell_54 : decode cX13_tell 54 = .ok (.aload_n 0, 1) := by decide +kernel
theorem dX13_tell_55 : decode cX13_tell 55 = .ok (.getfield 51, 3) := by decide +kernel
theorem dX13_tell_58 : decode cX13_tell 58 = .ok (.bipush 6, 2) := by decide +kernel
theorem dX13_tell_60 : decode cX13_tell 60 = .ok (.bipush 64, 2) := by decide +kernel
theorem dX13_tell_62 : decode cX13_tell 62 = .ok (.iload_n 1, 1) := by decide +kernel
theorem dX13_tell_63 : decode cX13_tell 63 = .ok (.imul, 1) := by decide +kernel
theorem dX13_tell_64 : decode cX13_tell 64 = .ok (.iload_n 2, 1) := by decide +kernel
theorem dX13_tell_65 : decode cX13_tell 65 = .ok (.iadd, 1) := by decide +kernel
theorem dX13_tell_66 : decode cX13_tell 66 = .ok (.imul, 1) := by decide +kernel
theorem dX13_tell_67 : decode cX13_tell 67 = .ok (.iload 6, 2) := by decide +kernel
theorem dX13_tell_69 : decode cX13_tell 69 = .ok (.iadd, 1) := by decide +kernel
theorem dX13_tell_70 : decode cX13_tell 70 = .ok (.iaload, 1) := by decide +kernel
theorem dX13_tell_71 : decode cX13_tell 71 = .ok (.istore 7, 2) := by decide +kernel
theorem dX13_tell_73 : decode cX13_tell 73 = .ok (.aload_n 0, 1) := by decide +kernel
theorem dX13_tell_74 : decode cX13_tell 74 = .ok (.getfield 54, 3) := by decide +kernel
theorem dX13_tell_77 : decode cX13_tell 77 = .ok (.iload 7, 2) := by decide +kernel
theorem dX13_tell_79 : decode cX13_tell 79 = .ok (.iload_n 1, 1) := by decide +kernel
theorem dX13_tell_80 : decode cX13_tell 80 = .ok (.iastore, 1) := by decide +kernel
theorem dX13_tell_81 : decode cX13_tell 81 = .ok (.aload_n 0, 1) := by decide +kernel
theorem dX13_tell_82 : decode cX13_tell 82 = .ok (.getfield 63, 3) := by decide +kernel
theorem dX13_tell_85 : decode cX13_tell 85 = .ok (.iload 7, 2) := by decide +kernel
theorem dX13_tell_87 : decode cX13_tell 87 = .ok (.iload 6, 2) := by decide +kernel
theorem dX13_tell_89 : decode cX13_tell 89 = .ok (.iastore, 1) := by decide +kernel
theorem dX13_tell_90 : decode cX13_tell 90 = .ok (.aload_n 0, 1) := by decide +kernel
theorem dX13_tell_91 : decode cX13_tell 91 = .ok (.getfield 57, 3) := by decide +kernel
theorem dX13_tell_94 : decode cX13_tell 94 = .ok (.iload 7, 2) := by decide +kernel
theorem dX13_tell_96 : decode cX13_tell 96 = .ok (.iload_n 3, 1) := by decide +kernel
theorem dX13_tell_97 : decode cX13_tell 97 = .ok (.aload_n 0, 1) := by decide +kernel
theorem dX13_tell_98 : decode cX13_tell 98 = .ok (.iload_n 1, 1) := by decide +kernel
theorem dX13_tell_99 : decode cX13_tell 99 = .ok (.iload 4, 2) := by decide +kernel
theorem dX13_tell_101 : decode cX13_tell 101 = .ok (.aload_n 0, 1) := by decide +kernel
theorem dX13_tell_102 : decode cX13_tell 102 = .ok (.getfield 25, 3) := by decide +kernel
theorem dX13_tell_105 : decode cX13_tell 105 = .ok (.iload 7, 2) := by decide +kernel
theorem dX13_tell_107 : decode cX13_tell 107 = .ok (.iaload, 1) := by decide +kernel
theorem dX13_tell_108 : decode cX13_tell 108 = .ok (.invokevirtual 97, 3) := by decide +kernel
theorem dX13_tell_111 : decode cX13_tell 111 = .ok (.iadd, 1) := by decide +kernel
theorem dX13_tell_112 : decode cX13_tell 112 = .ok (.iastore, 1) := by decide +kernel
theorem dX13_tell_113 : decode cX13_tell 113 = .ok (.aload_n 0, 1) := by decide +kernel
theorem dX13_tell_114 : decode cX13_tell 114 = .ok (.getfield 60, 3) := by decide +kernel
theorem dX13_tell_117 : decode cX13_tell 117 = .ok (.iload 7, 2) := by decide +kernel
theorem dX13_tell_119 : decode cX13_tell 119 = .ok (.aload_n 0, 1) := by decide +kernel
theorem dX13_tell_120 : decode cX13_tell 120 = .ok (.getfield 57, 3) := by decide +kernel
theorem dX13_tell_123 : decode cX13_tell 123 = .ok (.iload 7, 2) := by decide +kernel
theorem dX13_tell_125 : decode cX13_tell 125 = .ok (.iaload, 1) := by decide +kernel
theorem dX13_tell_126 : decode cX13_tell 126 = .ok (.iconst 3, 1) := by decide +kernel
theorem dX13_tell_127 : decode cX13_tell 127 = .ok (.iadd, 1) := by decide +kernel
theorem dX13_tell_128 : decode cX13_tell 128 = .ok (.aload_n 0, 1) := by decide +kernel
theorem dX13_tell_129 : decode cX13_tell 129 = .ok (.iload_n 1, 1) := by decide +kernel
theorem dX13_tell_130 : decode cX13_tell 130 = .ok (.aload_n 0, 1) := by decide +kernel
theorem dX13_tell_131 : decode cX13_tell 131 = .ok (.getfield 25, 3) := by decide +kernel
theorem dX13_tell_134 : decode cX13_tell 134 = .ok (.iload 7, 2) := by decide +kernel
theorem dX13_tell_136 : decode cX13_tell 136 = .ok (.iaload, 1) := by decide +kernel
theorem dX13_tell_137 : decode cX13_tell 137 = .ok (.aload_n 0, 1) := by decide +kernel
theorem dX13_tell_138 : decode cX13_tell 138 = .ok (.getfield 28, 3) := by decide +kernel
theorem dX13_tell_141 : decode cX13_tell 141 = .ok (.iload 7, 2) := by decide +kernel
theorem dX13_tell_143 : decode cX13_tell 143 = .ok (.iaload, 1) := by decide +kernel
theorem dX13_tell_144 : decode cX13_tell 144 = .ok (.invokevirtual 97, 3) := by decide +kernel
theorem dX13_tell_147 : decode cX13_tell 147 = .ok (.iadd, 1) := by decide +kernel
theorem dX13_tell_148 : decode cX13_tell 148 = .ok (.iastore, 1) := by decide +kernel
theorem dX13_tell_149 : decode cX13_tell 149 = .ok (.aload_n 0, 1) := by decide +kernel
theorem dX13_tell_150 : decode cX13_tell 150 = .ok (.getfield 60, 3) := by decide +kernel
theorem dX13_tell_153 : decode cX13_tell 153 = .ok (.iload 7, 2) := by decide +kernel
theorem dX13_tell_155 : decode cX13_tell 155 = .ok (.iaload, 1) := by decide +kernel
theorem dX13_tell_156 : decode cX13_tell 156 = .ok (.iconst 3, 1) := by decide +kernel
theorem dX13_tell_157 : decode cX13_tell 157 = .ok (.iadd, 1) := by decide +kernel
theorem dX13_tell_158 : decode cX13_tell 158 = .ok (.istore_n 3, 1) := by decide +kernel
theorem dX13_tell_159 : decode cX13_tell 159 = .ok (.aload_n 0, 1) := by decide +kernel
theorem dX13_tell_160 : decode cX13_tell 160 = .ok (.getfield 28, 3) := by decide +kernel
theorem dX13_tell_163 : decode cX13_tell 163 = .ok (.iload 7, 2) := by decide +kernel
theorem dX13_tell_165 : decode cX13_tell 165 = .ok (.iaload, 1) := by decide +kernel
theorem dX13_tell_166 : decode cX13_tell 166 = .ok (.istore 4, 2) := by decide +kernel
theorem dX13_tell_168 : decode cX13_tell 168 = .ok (.iinc 6 1, 3) := by decide +kernel
theorem dX13_tell_171 : decode cX13_tell 171 = .ok (.goto (-124), 3) := by decide +kernel
theorem dX13_tell_174 : decode cX13_tell 174 = .ok (.return_, 1) := by decide +kernel
theorem dX13_give_0 : decode cX13_give 0 = .ok (.aload_n 0, 1) := by decide +kernel
theorem dX13_give_1 : decode cX13_give 1 = .ok (.invokevirtual 122, 3) := by decide +kernel
theorem dX13_give_4 : decode cX13_give 4 = .ok (.iconst 1, 1) := by decide +kernel
theorem dX13_give_5 : decode cX13_give 5 = .ok (.istore_n 1, 1) := by decide +kernel
theorem dX13_give_6 : decode cX13_give 6 = .ok (.iconst 0, 1) := by decide +kernel
theorem dX13_give_7 : decode cX13_give 7 = .ok (.istore_n 2, 1) := by decide +kernel
theorem dX13_give_8 : decode cX13_give 8 = .ok (.iload_n 2, 1) := by decide +kernel
theorem dX13_give_9 : decode cX13_give 9 = .ok (.aload_n 0, 1) := by decide +kernel
theorem dX13_give_10 : decode cX13_give 10 = .ok (.getfield 84, 3) := by decide +kernel
theorem dX13_give_13 : decode cX13_give 13 = .ok (.if_icmp .ge 16, 3) := by decide +kernel
theorem dX13_give_16 : decode cX13_give 16 = .ok (.iload_n 1, 1) := by decide +kernel
theorem dX13_give_17 : decode cX13_give 17 = .ok (.aload_n 0, 1) := by decide +kernel
theorem dX13_give_18 : decode cX13_give 18 = .ok (.getfield 70, 3) := by decide +kernel
theorem dX13_give_21 : decode cX13_give 21 = .ok (.imul, 1) := by decide +kernel
theorem dX13_give_22 : decode cX13_give 22 = .ok (.istore_n 1, 1) := by decide +kernel
theorem dX13_give_23 : decode cX13_give 23 = .ok (.iinc 2 1, 3) := by decide +kernel
theorem dX13_give_26 : decode cX13_give 26 = .ok (.goto (-18), 3) := by decide +kernel
theorem dX13_give_29 : decode cX13_give 29 = .ok (.iconst 0, 1) := by decide +kernel
theorem dX13_give_30 : decode cX13_give 30 = .ok (.istore_n 2, 1) := by decide +kernel
theorem dX13_give_31 : decode cX13_give 31 = .ok (.iload_n 2, 1) := by decide +kernel
theorem dX13_give_32 : decode cX13_give 32 = .ok (.aload_n 0, 1) := by decide +kernel
theorem dX13_give_33 : decode cX13_give 33 = .ok (.getfield 70, 3) := by decide +kernel
theorem dX13_give_36 : decode cX13_give 36 = .ok (.if_icmp .ge 33, 3) := by decide +kernel
theorem dX13_give_39 : decode cX13_give 39 = .ok (.iconst 0, 1) := by decide +kernel
theorem dX13_give_40 : decode cX13_give 40 = .ok (.istore_n 3, 1) := by decide +kernel
theorem dX13_give_41 : decode cX13_give 41 = .ok (.iload_n 3, 1) := by decide +kernel
theorem dX13_give_42 : decode cX13_give 42 = .ok (.iconst 1, 1) := by decide +kernel
theorem dX13_give_43 : decode cX13_give 43 = .ok (.aload_n 0, 1) := by decide +kernel
theorem dX13_give_44 : decode cX13_give 44 = .ok (.getfield 84, 3) := by decide +kernel
theorem dX13_give_47 : decode cX13_give 47 = .ok (.ishl, 1) := by decide +kernel
theorem dX13_give_48 : decode cX13_give 48 = .ok (.if_icmp .ge 15, 3) := by decide +kernel
theorem dX13_give_51 : decode cX13_give 51 = .ok (.aload_n 0, 1) := by decide +kernel
theorem dX13_give_52 : decode cX13_give 52 = .ok (.iload_n 2, 1) := by decide +kernel
theorem dX13_give_53 : decode cX13_give 53 = .ok (.iload_n 3, 1) := by decide +kernel
theorem dX13_give_54 : decode cX13_give 54 = .ok (.invokevirtual 125, 3) := by decide +kernel
theorem dX13_give_57 : decode cX13_give 57 = .ok (.iinc 3 1, 3) := by decide +kernel
theorem dX13_give_60 : decode cX13_give 60 = .ok (.goto (-19), 3) := by decide +kernel
theorem dX13_give_63 : decode cX13_give 63 = .ok (.iinc 2 1, 3) := by decide +kernel
theorem dX13_give_66 : decode cX13_give 66 = .ok (.goto (-35), 3) := by decide +kernel
theorem dX13_give_69 : decode cX13_give 69 = .ok (.ldc2_w 104, 3) := by decide +kernel
theorem dX13_give_72 : decode cX13_give 72 = .ok (.lstore_n 2, 1) := by decide +kernel
theorem dX13_give_73 : decode cX13_give 73 = .ok (.iconst 0, 1) := by decide +kernel
theorem dX13_give_74 : decode cX13_give 74 = .ok (.istore 4, 2) := by decide +kernel
theorem dX13_give_76 : decode cX13_give 76 = .ok (.iconst 0, 1) := by decide +kernel
theorem dX13_give_77 : decode cX13_give 77 = .ok (.istore 5, 2) := by decide +kernel
theorem dX13_give_79 : decode cX13_give 79 = .ok (.iload 5, 2) := by decide +kernel
theorem dX13_give_81 : decode cX13_give 81 = .ok (.iload_n 1, 1) := by decide +kernel
theorem dX13_give_82 : decode cX13_give 82 = .ok (.if_icmp .ge 47, 3) := by decide +kernel
theorem dX13_give_85 : decode cX13_give 85 = .ok (.aload_n 0, 1) := by decide +kernel
theorem dX13_give_86 : decode cX13_give 86 = .ok (.iload 5, 2) := by decide +kernel
theorem dX13_give_88 : decode cX13_give 88 = .ok (.invokevirtual 129, 3) := by decide +kernel
theorem dX13_give_91 : decode cX13_give 91 = .ok (.lstore 6, 2) := by decide +kernel
theorem dX13_give_93 : decode cX13_give 93 = .ok (.lload 6, 2) := by decide +kernel
theorem dX13_give_95 : decode cX13_give 95 = .ok (.lload_n 2, 1) := by decide +kernel
theorem dX13_give_96 : decode cX13_give 96 = .ok (.lcmp, 1) := by decide +kernel
theorem dX13_give_97 : decode cX13_give 97 = .ok (.ifCond .ge 8, 3) := by decide +kernel
theorem dX13_give_105 : decode cX13_give 105 = .ok (.iload 4, 2) := by decide +kernel
theorem dX13_give_107 : decode cX13_give 107 = .ok (.istore 4, 2) := by decide +kernel
theorem dX13_give_109 : decode cX13_give 109 = .ok (.lload 6, 2) := by decide +kernel
theorem dX13_give_111 : decode cX13_give 111 = .ok (.lload_n 2, 1) := by decide +kernel
theorem dX13_give_112 : decode cX13_give 112 = .ok (.lcmp, 1) := by decide +kernel
theorem dX13_give_113 : decode cX13_give 113 = .ok (.ifCond .ge 8, 3) := by decide +kernel
theorem dX13_give_121 : decode cX13_give 121 = .ok (.lload_n 2, 1) := by decide +kernel
theorem dX13_give_122 : decode cX13_give 122 = .ok (.lstore_n 2, 1) := by decide +kernel
theorem dX13_give_123 : decode cX13_give 123 = .ok (.iinc 5 1, 3) := by decide +kernel
theorem dX13_give_126 : decode cX13_give 126 = .ok (.goto (-47), 3) := by decide +kernel
theorem dX13_give_116 : decode cX13_give 116 = .ok (.lload 6, 2) := by decide +kernel
theorem dX13_give_118 : decode cX13_give 118 = .ok (.goto 4, 3) := by decide +kernel
theorem dX13_give_100 : decode cX13_give 100 = .ok (.iload 5, 2) := by decide +kernel
theorem dX13_give_102 : decode cX13_give 102 = .ok (.goto 5, 3) := by decide +kernel
theorem dX13_give_129 : decode cX13_give 129 = .ok (.iconst 0, 1) := by decide +kernel
theorem dX13_give_130 : decode cX13_give 130 = .ok (.istore 5, 2) := by decide +kernel
theorem dX13_give_132 : decode cX13_give 132 = .ok (.iload 5, 2) := by decide +kernel
theorem dX13_give_134 : decode cX13_give 134 = .ok (.aload_n 0, 1) := by decide +kernel
theorem dX13_give_135 : decode cX13_give 135 = .ok (.getfield 66, 3) := by decide +kernel
theorem dX13_give_138 : decode cX13_give 138 = .ok (.if_icmp .ge 17, 3) := by decide +kernel
theorem dX13_give_141 : decode cX13_give 141 = .ok (.aload_n 0, 1) := by decide +kernel
theorem dX13_give_142 : decode cX13_give 142 = .ok (.getfield 54, 3) := by decide +kernel
theorem dX13_give_145 : decode cX13_give 145 = .ok (.iload 5, 2) := by decide +kernel
theorem dX13_give_147 : decode cX13_give 147 = .ok (.iconst (-1), 1) := by decide +kernel
theorem dX13_give_148 : decode cX13_give 148 = .ok (.iastore, 1) := by decide +kernel
theorem dX13_give_149 : decode cX13_give 149 = .ok (.iinc 5 1, 3) := by decide +kernel
theorem dX13_give_152 : decode cX13_give 152 = .ok (.goto (-20), 3) := by decide +kernel
theorem dX13_give_155 : decode cX13_give 155 = .ok (.iconst 0, 1) := by decide +kernel
theorem dX13_give_156 : decode cX13_give 156 = .ok (.istore 5, 2) := by decide +kernel
theorem dX13_give_158 : decode cX13_give 158 = .ok (.iload 5, 2) := by decide +kernel
theorem dX13_give_160 : decode cX13_give 160 = .ok (.aload_n 0, 1) := by decide +kernel
theorem dX13_give_161 : decode cX13_give 161 = .ok (.getfield 70, 3) := by decide +kernel
theorem dX13_give_164 : decode cX13_give 164 = .ok (.if_icmp .ge 23, 3) := by decide +kernel
theorem dX13_give_167 : decode cX13_give 167 = .ok (.aload_n 0, 1) := by decide +kernel
theorem dX13_give_168 : decode cX13_give 168 = .ok (.iload 5, 2) := by decide +kernel
theorem dX13_give_170 : decode cX13_give 170 = .ok (.aload_n 0, 1) := by decide +kernel
theorem dX13_give_171 : decode cX13_give 171 = .ok (.iload 4, 2) := by decide +kernel
theorem dX13_give_173 : decode cX13_give 173 = .ok (.iload 5, 2) := by decide +kernel
theorem dX13_give_175 : decode cX13_give 175 = .ok (.invokevirtual 118, 3) := by decide +kernel
theorem dX13_give_178 : decode cX13_give 178 = .ok (.invokevirtual 132, 3) := by decide +kernel
theorem dX13_give_181 : decode cX13_give 181 = .ok (.iinc 5 1, 3) := by decide +kernel
theorem dX13_give_184 : decode cX13_give 184 = .ok (.goto (-26), 3) := by decide +kernel
theorem dX13_give_187 : decode cX13_give 187 = .ok (.lload_n 2, 1) := by decide +kernel
theorem dX13_give_188 : decode cX13_give 188 = .ok (.lreturn, 1) := by decide +kernel
theorem dX13_given_0 : decode cX13_given 0 = .ok (.aload_n 0, 1) := by decide +kernel
theorem dX13_given_1 : decode cX13_given 1 = .ok (.getfield 54, 3) := by decide +kernel
theorem dX13_given_4 : decode cX13_given 4 = .ok (.iload_n 1, 1) := by decide +kernel
theorem dX13_given_5 : decode cX13_given 5 = .ok (.iaload, 1) := by decide +kernel
theorem dX13_given_6 : decode cX13_given 6 = .ok (.ifCond .ge 7, 3) := by decide +kernel
theorem dX13_given_13 : decode cX13_given 13 = .ok (.iload_n 2, 1) := by decide +kernel
theorem dX13_given_14 : decode cX13_given 14 = .ok (.ifCond .ne 12, 3) := by decide +kernel
theorem dX13_given_26 : decode cX13_given 26 = .ok (.iload_n 2, 1) := by decide +kernel
theorem dX13_given_27 : decode cX13_given 27 = .ok (.iconst 1, 1) := by decide +kernel
theorem dX13_given_28 : decode cX13_given 28 = .ok (.if_icmp .ne 12, 3) := by decide +kernel
theorem dX13_given_40 : decode cX13_given 40 = .ok (.iload_n 2, 1) := by decide +kernel
theorem dX13_given_41 : decode cX13_given 41 = .ok (.iconst 2, 1) := by decide +kernel
theorem dX13_given_42 : decode cX13_given 42 = .ok (.if_icmp .ne 12, 3) := by decide +kernel
theorem dX13_given_54 : decode cX13_given 54 = .ok (.aload_n 0, 1) := by decide +kernel
theorem dX13_given_55 : decode cX13_given 55 = .ok (.getfield 63, 3) := by decide +kernel
theorem dX13_given_58 : decode cX13_given 58 = .ok (.iload_n 1, 1) := by decide +kernel
theorem dX13_given_59 : decode cX13_given 59 = .ok (.iaload, 1) := by decide +kernel
theorem dX13_given_60 : decode cX13_given 60 = .ok (.ireturn, 1) := by decide +kernel
theorem dX13_given_45 : decode cX13_given 45 = .ok (.aload_n 0, 1) := by decide +kernel
theorem dX13_given_46 : decode cX13_given 46 = .ok (.getfield 60, 3) := by decide +kernel
theorem dX13_given_49 : decode cX13_given 49 = .ok (.iload_n 1, 1) := by decide +kernel
theorem dX13_given_50 : decode cX13_given 50 = .ok (.iaload, 1) := by decide +kernel
theorem dX13_given_51 : decode cX13_given 51 = .ok (.goto 9, 3) := by decide +kernel
theorem dX13_given_31 : decode cX13_given 31 = .ok (.aload_n 0, 1) := by decide +kernel
theorem dX13_given_32 : decode cX13_given 32 = .ok (.getfield 57, 3) := by decide +kernel
theorem dX13_given_35 : decode cX13_given 35 = .ok (.iload_n 1, 1) := by decide +kernel
theorem dX13_given_36 : decode cX13_given 36 = .ok (.iaload, 1) := by decide +kernel
theorem dX13_given_37 : decode cX13_given 37 = .ok (.goto 23, 3) := by decide +kernel
theorem dX13_given_17 : decode cX13_given 17 = .ok (.aload_n 0, 1) := by decide +kernel
theorem dX13_given_18 : decode cX13_given 18 = .ok (.getfield 54, 3) := by decide +kernel
theorem dX13_given_21 : decode cX13_given 21 = .ok (.iload_n 1, 1) := by decide +kernel
theorem dX13_given_22 : decode cX13_given 22 = .ok (.iaload, 1) := by decide +kernel
theorem dX13_given_23 : decode cX13_given 23 = .ok (.goto 37, 3) := by decide +kernel
theorem dX13_given_9 : decode cX13_given 9 = .ok (.iconst (-1), 1) := by decide +kernel
theorem dX13_given_10 : decode cX13_given 10 = .ok (.goto 50, 3) := by decide +kernel
theorem dX14_unit_0 : decode cX14_unit 0 = .ok (.aload_n 0, 1) := by decide +kernel
theorem dX14_unit_1 : decode cX14_unit 1 = .ok (.getfield 20, 3) := by decide +kernel
theorem dX14_unit_4 : decode cX14_unit 4 = .ok (.aload_n 0, 1) := by decide +kernel
theorem dX14_unit_5 : decode cX14_unit 5 = .ok (.getfield 89, 3) := by decide +kernel
theorem dX14_unit_8 : decode cX14_unit 8 = .ok (.iload_n 1, 1) := by decide +kernel
theorem dX14_unit_9 : decode cX14_unit 9 = .ok (.iastore, 1) := by decide +kernel
theorem dX14_unit_10 : decode cX14_unit 10 = .ok (.aload_n 0, 1) := by decide +kernel
theorem dX14_unit_11 : decode cX14_unit 11 = .ok (.dup, 1) := by decide +kernel
theorem dX14_unit_12 : decode cX14_unit 12 = .ok (.getfield 89, 3) := by decide +kernel
theorem dX14_unit_15 : decode cX14_unit 15 = .ok (.iconst 1, 1) := by decide +kernel
theorem dX14_unit_16 : decode cX14_unit 16 = .ok (.iadd, 1) := by decide +kernel
theorem dX14_unit_17 : decode cX14_unit 17 = .ok (.putfield 89, 3) := by decide +kernel
theorem dX14_unit_20 : decode cX14_unit 20 = .ok (.aload_n 0, 1) := by decide +kernel
theorem dX14_unit_21 : decode cX14_unit 21 = .ok (.getfield 89, 3) := by decide +kernel
theorem dX14_unit_24 : decode cX14_unit 24 = .ok (.ireturn, 1) := by decide +kernel
theorem dX14_letter_0 : decode cX14_letter 0 = .ok (.aload_n 0, 1) := by decide +kernel
theorem dX14_letter_1 : decode cX14_letter 1 = .ok (.getfield 86, 3) := by decide +kernel
theorem dX14_letter_4 : decode cX14_letter 4 = .ok (.aload_n 0, 1) := by decide +kernel
theorem dX14_letter_5 : decode cX14_letter 5 = .ok (.getfield 93, 3) := by decide +kernel
theorem dX14_letter_8 : decode cX14_letter 8 = .ok (.iload_n 1, 1) := by decide +kernel
theorem dX14_letter_9 : decode cX14_letter 9 = .ok (.iastore, 1) := by decide +kernel
theorem dX14_letter_10 : decode cX14_letter 10 = .ok (.aload_n 0, 1) := by decide +kernel
theorem dX14_letter_11 : decode cX14_letter 11 = .ok (.dup, 1) := by decide +kernel
theorem dX14_letter_12 : decode cX14_letter 12 = .ok (.getfield 93, 3) := by decide +kernel
theorem dX14_letter_15 : decode cX14_letter 15 = .ok (.iconst 1, 1) := by decide +kernel
theorem dX14_letter_16 : decode cX14_letter 16 = .ok (.iadd, 1) := by decide +kernel
theorem dX14_letter_17 : decode cX14_letter 17 = .ok (.putfield 93, 3) := by decide +kernel
theorem dX14_letter_20 : decode cX14_letter 20 = .ok (.return_, 1) := by decide +kernel
theorem dX14_number_0 : decode cX14_number 0 = .ok (.iload_n 1, 1) := by decide +kernel
theorem dX14_number_1 : decode cX14_number 1 = .ok (.sipush 9999, 3) := by decide +kernel
theorem dX14_number_4 : decode cX14_number 4 = .ok (.if_icmp .le 15, 3) := by decide +kernel
theorem dX14_number_19 : decode cX14_number 19 = .ok (.iload_n 1, 1) := by decide +kernel
theorem dX14_number_20 : decode cX14_number 20 = .ok (.sipush 999, 3) := by decide +kernel
theorem dX14_number_23 : decode cX14_number 23 = .ok (.if_icmp .le 18, 3) := by decide +kernel
theorem dX14_number_41 : decode cX14_number 41 = .ok (.iload_n 1, 1) := by decide +kernel
theorem dX14_number_42 : decode cX14_number 42 = .ok (.bipush 99, 2) := by decide +kernel
theorem dX14_number_44 : decode cX14_number 44 = .ok (.if_icmp .le 17, 3) := by decide +kernel
theorem dX14_number_61 : decode cX14_number 61 = .ok (.iload_n 1, 1) := by decide +kernel
theorem dX14_number_62 : decode cX14_number 62 = .ok (.bipush 9, 2) := by decide +kernel
theorem dX14_number_64 : decode cX14_number 64 = .ok (.if_icmp .le 17, 3) := by decide +kernel
theorem dX14_number_81 : decode cX14_number 81 = .ok (.aload_n 0, 1) := by decide +kernel
theorem dX14_number_82 : decode cX14_number 82 = .ok (.bipush 48, 2) := by decide +kernel
theorem dX14_number_84 : decode cX14_number 84 = .ok (.iload_n 1, 1) := by decide +kernel
theorem dX14_number_85 : decode cX14_number 85 = .ok (.bipush 10, 2) := by decide +kernel
theorem dX14_number_87 : decode cX14_number 87 = .ok (.irem, 1) := by decide +kernel
theorem dX14_number_88 : decode cX14_number 88 = .ok (.iadd, 1) := by decide +kernel
theorem dX14_number_89 : decode cX14_number 89 = .ok (.invokevirtual 96, 3) := by decide +kernel
theorem dX14_number_92 : decode cX14_number 92 = .ok (.aload_n 0, 1) := by decide +kernel
theorem dX14_number_93 : decode cX14_number 93 = .ok (.bipush 32, 2) := by decide +kernel
theorem dX14_number_95 : decode cX14_number 95 = .ok (.invokevirtual 96, 3) := by decide +kernel
theorem dX14_number_98 : decode cX14_number 98 = .ok (.return_, 1) := by decide +kernel
theorem dX14_number_67 : decode cX14_number 67 = .ok (.aload_n 0, 1) := by decide +kernel
theorem dX14_number_68 : decode cX14_number 68 = .ok (.bipush 48, 2) := by decide +kernel
theorem dX14_number_70 : decode cX14_number 70 = .ok (.iload_n 1, 1) := by decide +kernel
theorem dX14_number_71 : decode cX14_number 71 = .ok (.bipush 10, 2) := by decide +kernel
theorem dX14_number_73 : decode cX14_number 73 = .ok (.idiv, 1) := by decide +kernel
theorem dX14_number_74 : decode cX14_number 74 = .ok (.bipush 10, 2) := by decide +kernel
theorem dX14_number_76 : decode cX14_number 76 = .ok (.irem, 1) := by decide +kernel
theorem dX14_number_77 : decode cX14_number 77 = .ok (.iadd, 1) := by decide +kernel
theorem dX14_number_78 : decode cX14_number 78 = .ok (.invokevirtual 96, 3) := by decide +kernel
theorem dX14_number_47 : decode cX14_number 47 = .ok (.aload_n 0, 1) := by decide +kernel
theorem dX14_number_48 : decode cX14_number 48 = .ok (.bipush 48, 2) := by decide +kernel
theorem dX14_number_50 : decode cX14_number 50 = .ok (.iload_n 1, 1) := by decide +kernel
theorem dX14_number_51 : decode cX14_number 51 = .ok (.bipush 100, 2) := by decide +kernel
theorem dX14_number_53 : decode cX14_number 53 = .ok (.idiv, 1) := by decide +kernel
theorem dX14_number_54 : decode cX14_number 54 = .ok (.bipush 10, 2) := by decide +kernel
theorem dX14_number_56 : decode cX14_number 56 = .ok (.irem, 1) := by decide +kernel
theorem dX14_number_57 : decode cX14_number 57 = .ok (.iadd, 1) := by decide +kernel
theorem dX14_number_58 : decode cX14_number 58 = .ok (.invokevirtual 96, 3) := by decide +kernel
theorem dX14_number_26 : decode cX14_number 26 = .ok (.aload_n 0, 1) := by decide +kernel
theorem dX14_number_27 : decode cX14_number 27 = .ok (.bipush 48, 2) := by decide +kernel
theorem dX14_number_29 : decode cX14_number 29 = .ok (.iload_n 1, 1) := by decide +kernel
theorem dX14_number_30 : decode cX14_number 30 = .ok (.sipush 1000, 3) := by decide +kernel
theorem dX14_number_33 : decode cX14_number 33 = .ok (.idiv, 1) := by decide +kernel
theorem dX14_number_34 : decode cX14_number 34 = .ok (.bipush 10, 2) := by decide +kernel
theorem dX14_number_36 : decode cX14_number 36 = .ok (.irem, 1) := by decide +kernel
theorem dX14_number_37 : decode cX14_number 37 = .ok (.iadd, 1) := by decide +kernel
theorem dX14_number_38 : decode cX14_number 38 = .ok (.invokevirtual 96, 3) := by decide +kernel
theorem dX14_number_7 : decode cX14_number 7 = .ok (.aload_n 0, 1) := by decide +kernel
theorem dX14_number_8 : decode cX14_number 8 = .ok (.bipush 48, 2) := by decide +kernel
theorem dX14_number_10 : decode cX14_number 10 = .ok (.iload_n 1, 1) := by decide +kernel
theorem dX14_number_11 : decode cX14_number 11 = .ok (.sipush 10000, 3) := by decide +kernel
theorem dX14_number_14 : decode cX14_number 14 = .ok (.idiv, 1) := by decide +kernel
theorem dX14_number_15 : decode cX14_number 15 = .ok (.iadd, 1) := by decide +kernel
theorem dX14_number_16 : decode cX14_number 16 = .ok (.invokevirtual 96, 3) := by decide +kernel
theorem dX14_word_0 : decode cX14_word 0 = .ok (.iload_n 1, 1) := by decide +kernel
theorem dX14_word_1 : decode cX14_word 1 = .ok (.istore_n 2, 1) := by decide +kernel
theorem dX14_word_2 : decode cX14_word 2 = .ok (.iload_n 2, 1) := by decide +kernel
theorem dX14_word_3 : decode cX14_word 3 = .ok (.ifCond .le 22, 3) := by decide +kernel
theorem dX14_word_6 : decode cX14_word 6 = .ok (.aload_n 0, 1) := by decide +kernel
theorem dX14_word_7 : decode cX14_word 7 = .ok (.bipush 96, 2) := by decide +kernel
theorem dX14_word_9 : decode cX14_word 9 = .ok (.iload_n 2, 1) := by decide +kernel
theorem dX14_word_10 : decode cX14_word 10 = .ok (.bipush 32, 2) := by decide +kernel
theorem dX14_word_12 : decode cX14_word 12 = .ok (.irem, 1) := by decide +kernel
theorem dX14_word_13 : decode cX14_word 13 = .ok (.iadd, 1) := by decide +kernel
theorem dX14_word_14 : decode cX14_word 14 = .ok (.invokevirtual 96, 3) := by decide +kernel
theorem dX14_word_17 : decode cX14_word 17 = .ok (.iload_n 2, 1) := by decide +kernel
theorem dX14_word_18 : decode cX14_word 18 = .ok (.bipush 32, 2) := by decide +kernel
theorem dX14_word_20 : decode cX14_word 20 = .ok (.idiv, 1) := by decide +kernel
theorem dX14_word_21 : decode cX14_word 21 = .ok (.istore_n 2, 1) := by decide +kernel
theorem dX14_word_22 : decode cX14_word 22 = .ok (.goto (-20), 3) := by decide +kernel
theorem dX14_word_25 : decode cX14_word 25 = .ok (.aload_n 0, 1) := by decide +kernel
theorem dX14_word_26 : decode cX14_word 26 = .ok (.bipush 32, 2) := by decide +kernel
theorem dX14_word_28 : decode cX14_word 28 = .ok (.invokevirtual 96, 3) := by decide +kernel
theorem dX14_word_31 : decode cX14_word 31 = .ok (.return_, 1) := by decide +kernel
theorem dX14_stop_0 : decode cX14_stop 0 = .ok (.aload_n 0, 1) := by decide +kernel
theorem dX14_stop_1 : decode cX14_stop 1 = .ok (.bipush 59, 2) := by decide +kernel
theorem dX14_stop_3 : decode cX14_stop 3 = .ok (.invokevirtual 96, 3) := by decide +kernel
theorem dX14_stop_6 : decode cX14_stop 6 = .ok (.aload_n 0, 1) := by decide +kernel
theorem dX14_stop_7 : decode cX14_stop 7 = .ok (.bipush 32, 2) := by decide +kernel
theorem dX14_stop_9 : decode cX14_stop 9 = .ok (.invokevirtual 96, 3) := by decide +kernel
theorem dX14_stop_12 : decode cX14_stop 12 = .ok (.return_, 1) := by decide +kernel
theorem dX14_isSaid_0 : decode cX14_isSaid 0 = .ok (.iload_n 0, 1) := by decide +kernel
theorem dX14_isSaid_1 : decode cX14_isSaid 1 = .ok (.ifCond .lt 14, 3) := by decide +kernel
theorem dX14_isSaid_15 : decode cX14_isSaid 15 = .ok (.iconst 0, 1) := by decide +kernel
theorem dX14_isSaid_16 : decode cX14_isSaid 16 = .ok (.ireturn, 1) := by decide +kernel
theorem dX14_isSaid_4 : decode cX14_isSaid 4 = .ok (.iload_n 0, 1) := by decide +kernel
theorem dX14_isSaid_5 : decode cX14_isSaid 5 = .ok (.sipush 9999, 3) := by decide +kernel
theorem dX14_isSaid_8 : decode cX14_isSaid 8 = .ok (.if_icmp .gt 7, 3) := by decide +kernel
theorem dX14_isSaid_11 : decode cX14_isSaid 11 = .ok (.iconst 1, 1) := by decide +kernel
theorem dX14_isSaid_12 : decode cX14_isSaid 12 = .ok (.goto 4, 3) := by decide +kernel
theorem dX14_sentence_0 : decode cX14_sentence 0 = .ok (.aload_n 0, 1) := by decide +kernel
theorem dX14_sentence_1 : decode cX14_sentence 1 = .ok (.iload_n 1, 1) := by decide +kernel
theorem dX14_sentence_2 : decode cX14_sentence 2 = .ok (.ifCond .ne 8, 3) := by decide +kernel
theorem dX14_sentence_10 : decode cX14_sentence 10 = .ok (.iload_n 1, 1) := by decide +kernel
theorem dX14_sentence_11 : decode cX14_sentence 11 = .ok (.iconst 1, 1) := by decide +kernel
theorem dX14_sentence_12 : decode cX14_sentence 12 = .ok (.if_icmp .ne 9, 3) := by decide +kernel
theorem dX14_sentence_21 : decode cX14_sentence 21 = .ok (.iload_n 1, 1) := by decide +kernel
theorem dX14_sentence_22 : decode cX14_sentence 22 = .ok (.iconst 4, 1) := by decide +kernel
theorem dX14_sentence_23 : decode cX14_sentence 23 = .ok (.if_icmp .ne 8, 3) := by decide +kernel
theorem dX14_sentence_31 : decode cX14_sentence 31 = .ok (.ldc 110, 2) := by decide +kernel
theorem dX14_sentence_33 : decode cX14_sentence 33 = .ok (.invokevirtual 111, 3) := by decide +kernel
theorem dX14_sentence_36 : decode cX14_sentence 36 = .ok (.aload_n 0, 1) := by decide +kernel
theorem dX14_sentence_37 : decode cX14_sentence 37 = .ok (.iload_n 2, 1) := by decide +kernel
theorem dX14_sentence_38 : decode cX14_sentence 38 = .ok (.invokevirtual 114, 3) := by decide +kernel
theorem dX14_sentence_41 : decode cX14_sentence 41 = .ok (.iload_n 1, 1) := by decide +kernel
theorem dX14_sentence_42 : decode cX14_sentence 42 = .ok (.ifCond .ne 49, 3) := by decide +kernel
theorem dX14_sentence_91 : decode cX14_sentence 91 = .ok (.iload_n 1, 1) := by decide +kernel
theorem dX14_sentence_92 : decode cX14_sentence 92 = .ok (.iconst 1, 1) := by decide +kernel
theorem dX14_sentence_93 : decode cX14_sentence 93 = .ok (.if_icmp .ne 41, 3) := by decide +kernel
theorem dX14_sentence_134 : decode cX14_sentence 134 = .ok (.iload_n 1, 1) := by decide +kernel
theorem dX14_sentence_135 : decode cX14_sentence 135 = .ok (.iconst 2, 1) := by decide +kernel
theorem dX14_sentence_136 : decode cX14_sentence 136 = .ok (.if_icmp .eq 8, 3) := by decide +kernel
theorem dX14_sentence_144 : decode cX14_sentence 144 = .ok (.iload_n 1, 1) := by decide +kernel
theorem dX14_sentence_145 : decode cX14_sentence 145 = .ok (.iconst 3, 1) := by decide +kernel
theorem dX14_sentence_146 : decode cX14_sentence 146 = .ok (.if_icmp .ne 20, 3) := by decide +kernel
theorem dX14_sentence_166 : decode cX14_sentence 166 = .ok (.aload_n 0, 1) := by decide +kernel
theorem dX14_sentence_167 : decode cX14_sentence 167 = .ok (.ldc 121, 2) := by decide +kernel
theorem dX14_sentence_169 : decode cX14_sentence 169 = .ok (.invokevirtual 111, 3) := by decide +kernel
theorem dX14_sentence_172 : decode cX14_sentence 172 = .ok (.aload_n 0, 1) := by decide +kernel
theorem dX14_sentence_173 : decode cX14_sentence 173 = .ok (.iload_n 1, 1) := by decide +kernel
theorem dX14_sentence_174 : decode cX14_sentence 174 = .ok (.iconst 2, 1) := by decide +kernel
theorem dX14_sentence_175 : decode cX14_sentence 175 = .ok (.if_icmp .ne 7, 3) := by decide +kernel
theorem dX14_sentence_182 : decode cX14_sentence 182 = .ok (.iload 4, 2) := by decide +kernel
theorem dX14_sentence_184 : decode cX14_sentence 184 = .ok (.invokevirtual 114, 3) := by decide +kernel
theorem dX14_sentence_187 : decode cX14_sentence 187 = .ok (.aload_n 0, 1) := by decide +kernel
theorem dX14_sentence_188 : decode cX14_sentence 188 = .ok (.invokevirtual 122, 3) := by decide +kernel
theorem dX14_sentence_191 : decode cX14_sentence 191 = .ok (.return_, 1) := by decide +kernel
theorem dX14_sentence_178 : decode cX14_sentence 178 = .ok (.iload_n 3, 1) := by decide +kernel
theorem dX14_sentence_179 : decode cX14_sentence 179 = .ok (.goto 5, 3) := by decide +kernel
theorem dX14_sentence_149 : decode cX14_sentence 149 = .ok (.aload_n 0, 1) := by decide +kernel
theorem dX14_sentence_150 : decode cX14_sentence 150 = .ok (.bipush 38, 2) := by decide +kernel
theorem dX14_sentence_152 : decode cX14_sentence 152 = .ok (.invokevirtual 96, 3) := by decide +kernel
theorem dX14_sentence_155 : decode cX14_sentence 155 = .ok (.aload_n 0, 1) := by decide +kernel
theorem dX14_sentence_156 : decode cX14_sentence 156 = .ok (.bipush 32, 2) := by decide +kernel
theorem dX14_sentence_158 : decode cX14_sentence 158 = .ok (.invokevirtual 96, 3) := by decide +kernel
theorem dX14_sentence_161 : decode cX14_sentence 161 = .ok (.aload_n 0, 1) := by decide +kernel
theorem dX14_sentence_162 : decode cX14_sentence 162 = .ok (.iload_n 3, 1) := by decide +kernel
theorem dX14_sentence_163 : decode cX14_sentence 163 = .ok (.invokevirtual 114, 3) := by decide +kernel
theorem dX14_sentence_139 : decode cX14_sentence 139 = .ok (.iload_n 1, 1) := by decide +kernel
theorem dX14_sentence_140 : decode cX14_sentence 140 = .ok (.iconst 3, 1) := by decide +kernel
theorem dX14_sentence_141 : decode cX14_sentence 141 = .ok (.if_icmp .ne 46, 3) := by decide +kernel
theorem dX14_sentence_96 : decode cX14_sentence 96 = .ok (.aload_n 0, 1) := by decide +kernel
theorem dX14_sentence_97 : decode cX14_sentence 97 = .ok (.ldc 118, 2) := by decide +kernel
theorem dX14_sentence_99 : decode cX14_sentence 99 = .ok (.invokevirtual 111, 3) := by decide +kernel
theorem dX14_sentence_102 : decode cX14_sentence 102 = .ok (.aload_n 0, 1) := by decide +kernel
theorem dX14_sentence_103 : decode cX14_sentence 103 = .ok (.iload_n 3, 1) := by decide +kernel
theorem dX14_sentence_104 : decode cX14_sentence 104 = .ok (.invokevirtual 114, 3) := by decide +kernel
theorem dX14_sentence_107 : decode cX14_sentence 107 = .ok (.aload_n 0, 1) := by decide +kernel
theorem dX14_sentence_108 : decode cX14_sentence 108 = .ok (.ldc 119, 2) := by decide +kernel
theorem dX14_sentence_110 : decode cX14_sentence 110 = .ok (.invokevirtual 111, 3) := by decide +kernel
theorem dX14_sentence_113 : decode cX14_sentence 113 = .ok (.aload_n 0, 1) := by decide +kernel
theorem dX14_sentence_114 : decode cX14_sentence 114 = .ok (.iload 4, 2) := by decide +kernel
theorem dX14_sentence_116 : decode cX14_sentence 116 = .ok (.invokevirtual 114, 3) := by decide +kernel
theorem dX14_sentence_119 : decode cX14_sentence 119 = .ok (.aload_n 0, 1) := by decide +kernel
theorem dX14_sentence_120 : decode cX14_sentence 120 = .ok (.ldc 120, 2) := by decide +kernel
theorem dX14_sentence_122 : decode cX14_sentence 122 = .ok (.invokevirtual 111, 3) := by decide +kernel
theorem dX14_sentence_125 : decode cX14_sentence 125 = .ok (.aload_n 0, 1) := by decide +kernel
theorem dX14_sentence_126 : decode cX14_sentence 126 = .ok (.iload 5, 2) := by decide +kernel
theorem dX14_sentence_128 : decode cX14_sentence 128 = .ok (.invokevirtual 114, 3) := by decide +kernel
theorem dX14_sentence_131 : decode cX14_sentence 131 = .ok (.goto 56, 3) := by decide +kernel
theorem dX14_sentence_45 : decode cX14_sentence 45 = .ok (.aload_n 0, 1) := by decide +kernel
theorem dX14_sentence_46 : decode cX14_sentence 46 = .ok (.ldc 117, 2) := by decide +kernel
theorem dX14_sentence_48 : decode cX14_sentence 48 = .ok (.invokevirtual 111, 3) := by decide +kernel
theorem dX14_sentence_51 : decode cX14_sentence 51 = .ok (.aload_n 0, 1) := by decide +kernel
theorem dX14_sentence_52 : decode cX14_sentence 52 = .ok (.iload_n 3, 1) := by decide +kernel
theorem dX14_sentence_53 : decode cX14_sentence 53 = .ok (.invokevirtual 114, 3) := by decide +kernel
theorem dX14_sentence_56 : decode cX14_sentence 56 = .ok (.aload_n 0, 1) := by decide +kernel
theorem dX14_sentence_57 : decode cX14_sentence 57 = .ok (.sipush 207, 3) := by decide +kernel
theorem dX14_sentence_60 : decode cX14_sentence 60 = .ok (.invokevirtual 111, 3) := by decide +kernel
theorem dX14_sentence_63 : decode cX14_sentence 63 = .ok (.iconst 0, 1) := by decide +kernel
theorem dX14_sentence_64 : decode cX14_sentence 64 = .ok (.istore 6, 2) := by decide +kernel
theorem dX14_sentence_66 : decode cX14_sentence 66 = .ok (.iload 6, 2) := by decide +kernel
theorem dX14_sentence_68 : decode cX14_sentence 68 = .ok (.iload 5, 2) := by decide +kernel
theorem dX14_sentence_70 : decode cX14_sentence 70 = .ok (.if_icmp .ge 18, 3) := by decide +kernel
theorem dX14_sentence_73 : decode cX14_sentence 73 = .ok (.aload_n 0, 1) := by decide +kernel
theorem dX14_sentence_74 : decode cX14_sentence 74 = .ok (.iload 4, 2) := by decide +kernel
theorem dX14_sentence_76 : decode cX14_sentence 76 = .ok (.iload 6, 2) := by decide +kernel
theorem dX14_sentence_78 : decode cX14_sentence 78 = .ok (.iadd, 1) := by decide +kernel
theorem dX14_sentence_79 : decode cX14_sentence 79 = .ok (.invokevirtual 114, 3) := by decide +kernel
theorem dX14_sentence_82 : decode cX14_sentence 82 = .ok (.iinc 6 1, 3) := by decide +kernel
theorem dX14_sentence_85 : decode cX14_sentence 85 = .ok (.goto (-19), 3) := by decide +kernel
theorem dX14_sentence_88 : decode cX14_sentence 88 = .ok (.goto 99, 3) := by decide +kernel
theorem dX14_sentence_26 : decode cX14_sentence 26 = .ok (.ldc 109, 2) := by decide +kernel
theorem dX14_sentence_28 : decode cX14_sentence 28 = .ok (.goto 5, 3) := by decide +kernel
theorem dX14_sentence_15 : decode cX14_sentence 15 = .ok (.sipush 20577, 3) := by decide +kernel
theorem dX14_sentence_18 : decode cX14_sentence 18 = .ok (.goto 15, 3) := by decide +kernel
theorem dX14_sentence_5 : decode cX14_sentence 5 = .ok (.ldc 108, 2) := by decide +kernel
theorem dX14_sentence_7 : decode cX14_sentence 7 = .ok (.goto 26, 3) := by decide +kernel
theorem dX14_make_0 : decode cX14_make 0 = .ok (.aload_n 0, 1) := by decide +kernel
theorem dX14_make_1 : decode cX14_make 1 = .ok (.iconst 0, 1) := by decide +kernel
theorem dX14_make_2 : decode cX14_make 2 = .ok (.putfield 93, 3) := by decide +kernel
theorem dX14_make_5 : decode cX14_make 5 = .ok (.aload_n 0, 1) := by decide +kernel
theorem dX14_make_6 : decode cX14_make 6 = .ok (.iload_n 1, 1) := by decide +kernel
theorem dX14_make_7 : decode cX14_make 7 = .ok (.iload_n 2, 1) := by decide +kernel
theorem dX14_make_8 : decode cX14_make 8 = .ok (.iload_n 3, 1) := by decide +kernel
theorem dX14_make_9 : decode cX14_make 9 = .ok (.iload 4, 2) := by decide +kernel
theorem dX14_make_11 : decode cX14_make 11 = .ok (.iload 5, 2) := by decide +kernel
theorem dX14_make_13 : decode cX14_make 13 = .ok (.invokevirtual 100, 3) := by decide +kernel
theorem dX14_make_16 : decode cX14_make 16 = .ok (.return_, 1) := by decide +kernel
theorem dX14_say_0 : decode cX14_say 0 = .ok (.iconst 0, 1) := by decide +kernel
theorem dX14_say_1 : decode cX14_say 1 = .ok (.istore_n 1, 1) := by decide +kernel
theorem dX14_say_2 : decode cX14_say 2 = .ok (.iload_n 1, 1) := by decide +kernel
theorem dX14_say_3 : decode cX14_say 3 = .ok (.aload_n 0, 1) := by decide +kernel
theorem dX14_say_4 : decode cX14_say 4 = .ok (.getfield 93, 3) := by decide +kernel
theorem dX14_say_7 : decode cX14_say 7 = .ok (.if_icmp .ge 20, 3) := by decide +kernel
theorem dX14_say_10 : decode cX14_say 10 = .ok (.aload_n 0, 1) := by decide +kernel
theorem dX14_say_11 : decode cX14_say 11 = .ok (.aload_n 0, 1) := by decide +kernel
theorem dX14_say_12 : decode cX14_say 12 = .ok (.getfield 86, 3) := by decide +kernel
theorem dX14_say_15 : decode cX14_say 15 = .ok (.iload_n 1, 1) := by decide +kernel
theorem dX14_say_16 : decode cX14_say 16 = .ok (.iaload, 1) := by decide +kernel
theorem dX14_say_17 : decode cX14_say 17 = .ok (.invokevirtual 104, 3) := by decide +kernel
theorem dX14_say_20 : decode cX14_say 20 = .ok (.istore_n 2, 1) := by decide +kernel
theorem dX14_say_21 : decode cX14_say 21 = .ok (.iinc 1 1, 3) := by decide +kernel
theorem dX14_say_24 : decode cX14_say 24 = .ok (.goto (-22), 3) := by decide +kernel
theorem dX14_say_27 : decode cX14_say 27 = .ok (.aload_n 0, 1) := by decide +kernel
theorem dX14_say_28 : decode cX14_say 28 = .ok (.getfield 89, 3) := by decide +kernel
theorem dX14_say_31 : decode cX14_say 31 = .ok (.ireturn, 1) := by decide +kernel
theorem dX14_sort_0 : decode cX14_sort 0 = .ok (.iload_n 0, 1) := by decide +kernel
theorem dX14_sort_1 : decode cX14_sort 1 = .ok (.bipush 32, 2) := by decide +kernel
theorem dX14_sort_3 : decode cX14_sort 3 = .ok (.if_icmp .eq 9, 3) := by decide +kernel
theorem dX14_sort_12 : decode cX14_sort 12 = .ok (.iconst 0, 1) := by decide +kernel
theorem dX14_sort_13 : decode cX14_sort 13 = .ok (.goto 36, 3) := by decide +kernel
theorem dX14_sort_49 : decode cX14_sort 49 = .ok (.ireturn, 1) := by decide +kernel
theorem dX14_sort_6 : decode cX14_sort 6 = .ok (.iload_n 0, 1) := by decide +kernel
theorem dX14_sort_7 : decode cX14_sort 7 = .ok (.bipush 10, 2) := by decide +kernel
theorem dX14_sort_9 : decode cX14_sort 9 = .ok (.if_icmp .ne 7, 3) := by decide +kernel
theorem dX14_sort_16 : decode cX14_sort 16 = .ok (.iload_n 0, 1) := by decide +kernel
theorem dX14_sort_17 : decode cX14_sort 17 = .ok (.bipush 96, 2) := by decide +kernel
theorem dX14_sort_19 : decode cX14_sort 19 = .ok (.if_icmp .le 13, 3) := by decide +kernel
theorem dX14_sort_32 : decode cX14_sort 32 = .ok (.iload_n 0, 1) := by decide +kernel
theorem dX14_sort_33 : decode cX14_sort 33 = .ok (.bipush 47, 2) := by decide +kernel
theorem dX14_sort_35 : decode cX14_sort 35 = .ok (.if_icmp .le 13, 3) := by decide +kernel
theorem dX14_sort_48 : decode cX14_sort 48 = .ok (.iconst 3, 1) := by decide +kernel
theorem dX14_sort_38 : decode cX14_sort 38 = .ok (.iload_n 0, 1) := by decide +kernel
theorem dX14_sort_39 : decode cX14_sort 39 = .ok (.bipush 58, 2) := by decide +kernel
theorem dX14_sort_41 : decode cX14_sort 41 = .ok (.if_icmp .ge 7, 3) := by decide +kernel
theorem dX14_sort_44 : decode cX14_sort 44 = .ok (.iconst 2, 1) := by decide +kernel
theorem dX14_sort_45 : decode cX14_sort 45 = .ok (.goto 4, 3) := by decide +kernel
theorem dX14_sort_22 : decode cX14_sort 22 = .ok (.iload_n 0, 1) := by decide +kernel
theorem dX14_sort_23 : decode cX14_sort 23 = .ok (.bipush 123, 2) := by decide +kernel
theorem dX14_sort_25 : decode cX14_sort 25 = .ok (.if_icmp .ge 7, 3) := by decide +kernel
theorem dX14_sort_28 : decode cX14_sort 28 = .ok (.iconst 1, 1) := by decide +kernel
theorem dX14_sort_29 : decode cX14_sort 29 = .ok (.goto 20, 3) := by decide +kernel
theorem dX14_list_0 : decode cX14_list 0 = .ok (.aload_n 0, 1) := by decide +kernel
theorem dX14_list_1 : decode cX14_list 1 = .ok (.iconst 0, 1) := by decide +kernel
theorem dX14_list_2 : decode cX14_list 2 = .ok (.putfield 125, 3) := by decide +kernel
theorem dX14_list_5 : decode cX14_list 5 = .ok (.iconst 0, 1) := by decide +kernel
theorem dX14_list_6 : decode cX14_list 6 = .ok (.istore_n 1, 1) := by decide +kernel
theorem dX14_list_7 : decode cX14_list 7 = .ok (.iconst 0, 1) := by decide +kernel
theorem dX14_list_8 : decode cX14_list 8 = .ok (.istore_n 2, 1) := by decide +kernel
theorem dX14_list_9 : decode cX14_list 9 = .ok (.iload_n 2, 1) := by decide +kernel
theorem dX14_list_10 : decode cX14_list 10 = .ok (.aload_n 0, 1) := by decide +kernel
theorem dX14_list_11 : decode cX14_list 11 = .ok (.getfield 89, 3) := by decide +kernel
theorem dX14_list_14 : decode cX14_list 14 = .ok (.if_icmp .ge 73, 3) := by decide +kernel
theorem dX14_list_17 : decode cX14_list 17 = .ok (.aload_n 0, 1) := by decide +kernel
theorem dX14_list_18 : decode cX14_list 18 = .ok (.getfield 20, 3) := by decide +kernel
theorem dX14_list_21 : decode cX14_list 21 = .ok (.iload_n 2, 1) := by decide +kernel
theorem dX14_list_22 : decode cX14_list 22 = .ok (.iaload, 1) := by decide +kernel
theorem dX14_list_23 : decode cX14_list 23 = .ok (.invokestatic 128, 3) := by decide +kernel
theorem dX14_list_26 : decode cX14_list 26 = .ok (.istore_n 3, 1) := by decide +kernel
theorem dX14_list_27 : decode cX14_list 27 = .ok (.iload_n 3, 1) := by decide +kernel
theorem dX14_list_28 : decode cX14_list 28 = .ok (.ifCond .le 33, 3) := by decide +kernel
theorem dX14_list_61 : decode cX14_list 61 = .ok (.iload_n 3, 1) := by decide +kernel
theorem dX14_list_62 : decode cX14_list 62 = .ok (.ifCond .le 17, 3) := by decide +kernel
theorem dX14_list_79 : decode cX14_list 79 = .ok (.iload_n 3, 1) := by decide +kernel
theorem dX14_list_80 : decode cX14_list 80 = .ok (.istore_n 1, 1) := by decide +kernel
theorem dX14_list_81 : decode cX14_list 81 = .ok (.iinc 2 1, 3) := by decide +kernel
theorem dX14_list_84 : decode cX14_list 84 = .ok (.goto (-75), 3) := by decide +kernel
theorem dX14_list_65 : decode cX14_list 65 = .ok (.aload_n 0, 1) := by decide +kernel
theorem dX14_list_66 : decode cX14_list 66 = .ok (.getfield 26, 3) := by decide +kernel
theorem dX14_list_69 : decode cX14_list 69 = .ok (.aload_n 0, 1) := by decide +kernel
theorem dX14_list_70 : decode cX14_list 70 = .ok (.getfield 125, 3) := by decide +kernel
theorem dX14_list_73 : decode cX14_list 73 = .ok (.iconst 1, 1) := by decide +kernel
theorem dX14_list_74 : decode cX14_list 74 = .ok (.isub, 1) := by decide +kernel
theorem dX14_list_75 : decode cX14_list 75 = .ok (.iload_n 2, 1) := by decide +kernel
theorem dX14_list_76 : decode cX14_list 76 = .ok (.iconst 1, 1) := by decide +kernel
theorem dX14_list_77 : decode cX14_list 77 = .ok (.iadd, 1) := by decide +kernel
theorem dX14_list_78 : decode cX14_list 78 = .ok (.iastore, 1) := by decide +kernel
theorem dX14_list_31 : decode cX14_list 31 = .ok (.iload_n 3, 1) := by decide +kernel
theorem dX14_list_32 : decode cX14_list 32 = .ok (.iconst 3, 1) := by decide +kernel
theorem dX14_list_33 : decode cX14_list 33 = .ok (.if_icmp .eq 8, 3) := by decide +kernel
theorem dX14_list_41 : decode cX14_list 41 = .ok (.aload_n 0, 1) := by decide +kernel
theorem dX14_list_42 : decode cX14_list 42 = .ok (.getfield 23, 3) := by decide +kernel
theorem dX14_list_45 : decode cX14_list 45 = .ok (.aload_n 0, 1) := by decide +kernel
theorem dX14_list_46 : decode cX14_list 46 = .ok (.getfield 125, 3) := by decide +kernel
theorem dX14_list_49 : decode cX14_list 49 = .ok (.iload_n 2, 1) := by decide +kernel
theorem dX14_list_50 : decode cX14_list 50 = .ok (.iastore, 1) := by decide +kernel
theorem dX14_list_51 : decode cX14_list 51 = .ok (.aload_n 0, 1) := by decide +kernel
theorem dX14_list_52 : decode cX14_list 52 = .ok (.dup, 1) := by decide +kernel
theorem dX14_list_53 : decode cX14_list 53 = .ok (.getfield 125, 3) := by decide +kernel
theorem dX14_list_56 : decode cX14_list 56 = .ok (.iconst 1, 1) := by decide +kernel
theorem dX14_list_57 : decode cX14_list 57 = .ok (.iadd, 1) := by decide +kernel
theorem dX14_list_58 : decode cX14_list 58 = .ok (.putfield 125, 3) := by decide +kernel
theorem dX14_list_36 : decode cX14_list 36 = .ok (.iload_n 3, 1) := by decide +kernel
theorem dX14_list_37 : decode cX14_list 37 = .ok (.iload_n 1, 1) := by decide +kernel
theorem dX14_list_38 : decode cX14_list 38 = .ok (.if_icmp .eq 23, 3) := by decide +kernel
theorem dX14_list_87 : decode cX14_list 87 = .ok (.return_, 1) := by decide +kernel
theorem dX14_letters_0 : decode cX14_letters 0 = .ok (.aload_n 0, 1) := by decide +kernel
theorem dX14_letters_1 : decode cX14_letters 1 = .ok (.getfield 131, 3) := by decide +kernel
theorem dX14_letters_4 : decode cX14_letters 4 = .ok (.aload_n 0, 1) := by decide +kernel
theorem dX14_letters_5 : decode cX14_letters 5 = .ok (.getfield 125, 3) := by decide +kernel
theorem dX14_letters_8 : decode cX14_letters 8 = .ok (.if_icmp .ge 47, 3) := by decide +kernel
theorem dX14_letters_55 : decode cX14_letters 55 = .ok (.iconst (-1), 1) := by decide +kernel
theorem dX14_letters_56 : decode cX14_letters 56 = .ok (.ireturn, 1) := by decide +kernel
theorem dX14_letters_11 : decode cX14_letters 11 = .ok (.aload_n 0, 1) := by decide +kernel
theorem dX14_letters_12 : decode cX14_letters 12 = .ok (.getfield 20, 3) := by decide +kernel
theorem dX14_letters_15 : decode cX14_letters 15 = .ok (.aload_n 0, 1) := by decide +kernel
theorem dX14_letters_16 : decode cX14_letters 16 = .ok (.getfield 23, 3) := by decide +kernel
theorem dX14_letters_19 : decode cX14_letters 19 = .ok (.aload_n 0, 1) := by decide +kernel
theorem dX14_letters_20 : decode cX14_letters 20 = .ok (.getfield 131, 3) := by decide +kernel
theorem dX14_letters_23 : decode cX14_letters 23 = .ok (.iaload, 1) := by decide +kernel
theorem dX14_letters_24 : decode cX14_letters 24 = .ok (.iaload, 1) := by decide +kernel
theorem dX14_letters_25 : decode cX14_letters 25 = .ok (.invokestatic 128, 3) := by decide +kernel
theorem dX14_letters_28 : decode cX14_letters 28 = .ok (.iconst 1, 1) := by decide +kernel
theorem dX14_letters_29 : decode cX14_letters 29 = .ok (.if_icmp .ne 26, 3) := by decide +kernel
theorem dX14_letters_32 : decode cX14_letters 32 = .ok (.aload_n 0, 1) := by decide +kernel
theorem dX14_letters_33 : decode cX14_letters 33 = .ok (.getfield 26, 3) := by decide +kernel
theorem dX14_letters_36 : decode cX14_letters 36 = .ok (.aload_n 0, 1) := by decide +kernel
theorem dX14_letters_37 : decode cX14_letters 37 = .ok (.getfield 131, 3) := by decide +kernel
theorem dX14_letters_40 : decode cX14_letters 40 = .ok (.iaload, 1) := by decide +kernel
theorem dX14_letters_41 : decode cX14_letters 41 = .ok (.aload_n 0, 1) := by decide +kernel
theorem dX14_letters_42 : decode cX14_letters 42 = .ok (.getfield 23, 3) := by decide +kernel
theorem dX14_letters_45 : decode cX14_letters 45 = .ok (.aload_n 0, 1) := by decide +kernel
theorem dX14_letters_46 : decode cX14_letters 46 = .ok (.getfield 131, 3) := by decide +kernel
theorem dX14_letters_49 : decode cX14_letters 49 = .ok (.iaload, 1) := by decide +kernel
theorem dX14_letters_50 : decode cX14_letters 50 = .ok (.isub, 1) := by decide +kernel
theorem dX14_letters_51 : decode cX14_letters 51 = .ok (.iconst 5, 1) := by decide +kernel
theorem dX14_letters_52 : decode cX14_letters 52 = .ok (.if_icmp .le 5, 3) := by decide +kernel
theorem dX14_letters_57 : decode cX14_letters 57 = .ok (.iconst 0, 1) := by decide +kernel
theorem dX14_letters_58 : decode cX14_letters 58 = .ok (.istore_n 1, 1) := by decide +kernel
theorem dX14_letters_59 : decode cX14_letters 59 = .ok (.aload_n 0, 1) := by decide +kernel
theorem dX14_letters_60 : decode cX14_letters 60 = .ok (.getfield 26, 3) := by decide +kernel
theorem dX14_letters_63 : decode cX14_letters 63 = .ok (.aload_n 0, 1) := by decide +kernel
theorem dX14_letters_64 : decode cX14_letters 64 = .ok (.getfield 131, 3) := by decide +kernel
theorem dX14_letters_67 : decode cX14_letters 67 = .ok (.iaload, 1) := by decide +kernel
theorem dX14_letters_68 : decode cX14_letters 68 = .ok (.iconst 1, 1) := by decide +kernel
theorem dX14_letters_69 : decode cX14_letters 69 = .ok (.isub, 1) := by decide +kernel
theorem dX14_letters_70 : decode cX14_letters 70 = .ok (.istore_n 2, 1) := by decide +kernel
theorem dX14_letters_71 : decode cX14_letters 71 = .ok (.iload_n 2, 1) := by decide +kernel
theorem dX14_letters_72 : decode cX14_letters 72 = .ok (.aload_n 0, 1) := by decide +kernel
theorem dX14_letters_73 : decode cX14_letters 73 = .ok (.getfield 23, 3) := by decide +kernel
theorem dX14_letters_76 : decode cX14_letters 76 = .ok (.aload_n 0, 1) := by decide +kernel
theorem dX14_letters_77 : decode cX14_letters 77 = .ok (.getfield 131, 3) := by decide +kernel
theorem dX14_letters_80 : decode cX14_letters 80 = .ok (.iaload, 1) := by decide +kernel
theorem dX14_letters_81 : decode cX14_letters 81 = .ok (.if_icmp .lt 24, 3) := by decide +kernel
theorem dX14_letters_84 : decode cX14_letters 84 = .ok (.bipush 32, 2) := by decide +kernel
theorem dX14_letters_86 : decode cX14_letters 86 = .ok (.iload_n 1, 1) := by decide +kernel
theorem dX14_letters_87 : decode cX14_letters 87 = .ok (.imul, 1) := by decide +kernel
theorem dX14_letters_88 : decode cX14_letters 88 = .ok (.aload_n 0, 1) := by decide +kernel
theorem dX14_letters_89 : decode cX14_letters 89 = .ok (.getfield 20, 3) := by decide +kernel
theorem dX14_letters_92 : decode cX14_letters 92 = .ok (.iload_n 2, 1) := by decide +kernel
theorem dX14_letters_93 : decode cX14_letters 93 = .ok (.iaload, 1) := by decide +kernel
theorem dX14_letters_94 : decode cX14_letters 94 = .ok (.iadd, 1) := by decide +kernel
theorem dX14_letters_95 : decode cX14_letters 95 = .ok (.bipush 96, 2) := by decide +kernel
theorem dX14_letters_97 : decode cX14_letters 97 = .ok (.isub, 1) := by decide +kernel
theorem dX14_letters_98 : decode cX14_letters 98 = .ok (.istore_n 1, 1) := by decide +kernel
theorem dX14_letters_99 : decode cX14_letters 99 = .ok (.iinc 2 (-1), 3) := by decide +kernel
theorem dX14_letters_102 : decode cX14_letters 102 = .ok (.goto (-31), 3) := by decide +kernel
theorem dX14_letters_105 : decode cX14_letters 105 = .ok (.iload_n 1, 1) := by decide +kernel
theorem dX14_letters_106 : decode cX14_letters 106 = .ok (.ireturn, 1) := by decide +kernel
theorem dX14_isSign_0 : decode cX14_isSign 0 = .ok (.aload_n 0, 1) := by decide +kernel
theorem dX14_isSign_1 : decode cX14_isSign 1 = .ok (.getfield 131, 3) := by decide +kernel
theorem dX14_isSign_4 : decode cX14_isSign 4 = .ok (.aload_n 0, 1) := by decide +kernel
theorem dX14_isSign_5 : decode cX14_isSign 5 = .ok (.getfield 125, 3) := by decide +kernel
theorem dX14_isSign_8 : decode cX14_isSign 8 = .ok (.if_icmp .ge 48, 3) := by decide +kernel
theorem dX14_isSign_56 : decode cX14_isSign 56 = .ok (.iconst 0, 1) := by decide +kernel
theorem dX14_isSign_57 : decode cX14_isSign 57 = .ok (.ireturn, 1) := by decide +kernel
theorem dX14_isSign_11 : decode cX14_isSign 11 = .ok (.aload_n 0, 1) := by decide +kernel
theorem dX14_isSign_12 : decode cX14_isSign 12 = .ok (.getfield 26, 3) := by decide +kernel
theorem dX14_isSign_15 : decode cX14_isSign 15 = .ok (.aload_n 0, 1) := by decide +kernel
theorem dX14_isSign_16 : decode cX14_isSign 16 = .ok (.getfield 131, 3) := by decide +kernel
theorem dX14_isSign_19 : decode cX14_isSign 19 = .ok (.iaload, 1) := by decide +kernel
theorem dX14_isSign_20 : decode cX14_isSign 20 = .ok (.aload_n 0, 1) := by decide +kernel
theorem dX14_isSign_21 : decode cX14_isSign 21 = .ok (.getfield 23, 3) := by decide +kernel
theorem dX14_isSign_24 : decode cX14_isSign 24 = .ok (.aload_n 0, 1) := by decide +kernel
theorem dX14_isSign_25 : decode cX14_isSign 25 = .ok (.getfield 131, 3) := by decide +kernel
theorem dX14_isSign_28 : decode cX14_isSign 28 = .ok (.iaload, 1) := by decide +kernel
theorem dX14_isSign_29 : decode cX14_isSign 29 = .ok (.isub, 1) := by decide +kernel
theorem dX14_isSign_30 : decode cX14_isSign 30 = .ok (.iconst 1, 1) := by decide +kernel
theorem dX14_isSign_31 : decode cX14_isSign 31 = .ok (.if_icmp .ne 25, 3) := by decide +kernel
theorem dX14_isSign_34 : decode cX14_isSign 34 = .ok (.aload_n 0, 1) := by decide +kernel
theorem dX14_isSign_35 : decode cX14_isSign 35 = .ok (.getfield 20, 3) := by decide +kernel
theorem dX14_isSign_38 : decode cX14_isSign 38 = .ok (.aload_n 0, 1) := by decide +kernel
theorem dX14_isSign_39 : decode cX14_isSign 39 = .ok (.getfield 23, 3) := by decide +kernel
theorem dX14_isSign_42 : decode cX14_isSign 42 = .ok (.aload_n 0, 1) := by decide +kernel
theorem dX14_isSign_43 : decode cX14_isSign 43 = .ok (.getfield 131, 3) := by decide +kernel
theorem dX14_isSign_46 : decode cX14_isSign 46 = .ok (.iaload, 1) := by decide +kernel
theorem dX14_isSign_47 : decode cX14_isSign 47 = .ok (.iaload, 1) := by decide +kernel
theorem dX14_isSign_48 : decode cX14_isSign 48 = .ok (.iload_n 1, 1) := by decide +kernel
theorem dX14_isSign_49 : decode cX14_isSign 49 = .ok (.if_icmp .ne 7, 3) := by decide +kernel
theorem dX14_isSign_52 : decode cX14_isSign 52 = .ok (.iconst 1, 1) := by decide +kernel
theorem dX14_isSign_53 : decode cX14_isSign 53 = .ok (.goto 4, 3) := by decide +kernel
theorem dX14_want_0 : decode cX14_want 0 = .ok (.iload_n 1, 1) := by decide +kernel
theorem dX14_want_1 : decode cX14_want 1 = .ok (.ifCond .ne 18, 3) := by decide +kernel
theorem dX14_want_19 : decode cX14_want 19 = .ok (.aload_n 0, 1) := by decide +kernel
theorem dX14_want_20 : decode cX14_want 20 = .ok (.getfield 134, 3) := by decide +kernel
theorem dX14_want_23 : decode cX14_want 23 = .ok (.ifCond .ge 7, 3) := by decide +kernel
theorem dX14_want_30 : decode cX14_want 30 = .ok (.iconst 0, 1) := by decide +kernel
theorem dX14_want_31 : decode cX14_want 31 = .ok (.ireturn, 1) := by decide +kernel
theorem dX14_want_26 : decode cX14_want 26 = .ok (.iconst 1, 1) := by decide +kernel
theorem dX14_want_27 : decode cX14_want 27 = .ok (.goto 4, 3) := by decide +kernel
theorem dX14_want_4 : decode cX14_want 4 = .ok (.aload_n 0, 1) := by decide +kernel
theorem dX14_want_5 : decode cX14_want 5 = .ok (.getfield 134, 3) := by decide +kernel
theorem dX14_want_8 : decode cX14_want 8 = .ok (.ifCond .ge 11, 3) := by decide +kernel
theorem dX14_want_11 : decode cX14_want 11 = .ok (.aload_n 0, 1) := by decide +kernel
theorem dX14_want_12 : decode cX14_want 12 = .ok (.aload_n 0, 1) := by decide +kernel
theorem dX14_want_13 : decode cX14_want 13 = .ok (.getfield 131, 3) := by decide +kernel
theorem dX14_want_16 : decode cX14_want 16 = .ok (.putfield 134, 3) := by decide +kernel
theorem dX14_take_0 : decode cX14_take 0 = .ok (.aload_n 0, 1) := by decide +kernel
theorem dX14_take_1 : decode cX14_take 1 = .ok (.aload_n 0, 1) := by decide +kernel
theorem dX14_take_2 : decode cX14_take 2 = .ok (.invokevirtual 137, 3) := by decide +kernel
theorem dX14_take_5 : decode cX14_take 5 = .ok (.iload_n 1, 1) := by decide +kernel
theorem dX14_take_6 : decode cX14_take 6 = .ok (.if_icmp .ne 7, 3) := by decide +kernel
theorem dX14_take_13 : decode cX14_take 13 = .ok (.iconst 0, 1) := by decide +kernel
theorem dX14_take_14 : decode cX14_take 14 = .ok (.invokevirtual 141, 3) := by decide +kernel
theorem dX14_take_17 : decode cX14_take 17 = .ok (.ifCond .eq 13, 3) := by decide +kernel
theorem dX14_take_30 : decode cX14_take 30 = .ok (.return_, 1) := by decide +kernel
theorem dX14_take_20 : decode cX14_take 20 = .ok (.aload_n 0, 1) := by decide +kernel
theorem dX14_take_21 : decode cX14_take 21 = .ok (.dup, 1) := by decide +kernel
theorem dX14_take_22 : decode cX14_take 22 = .ok (.getfield 131, 3) := by decide +kernel
theorem dX14_take_25 : decode cX14_take 25 = .ok (.iconst 1, 1) := by decide +kernel
theorem dX14_take_26 : decode cX14_take 26 = .ok (.iadd, 1) := by decide +kernel
theorem dX14_take_27 : decode cX14_take 27 = .ok (.putfield 131, 3) := by decide +kernel
theorem dX14_take_9 : decode cX14_take 9 = .ok (.iconst 1, 1) := by decide +kernel
theorem dX14_take_10 : decode cX14_take 10 = .ok (.goto 4, 3) := by decide +kernel
theorem dX14_takeStop_0 : decode cX14_takeStop 0 = .ok (.aload_n 0, 1) := by decide +kernel
theorem dX14_takeStop_1 : decode cX14_takeStop 1 = .ok (.aload_n 0, 1) := by decide +kernel
theorem dX14_takeStop_2 : decode cX14_takeStop 2 = .ok (.bipush 59, 2) := by decide +kernel
theorem dX14_takeStop_4 : decode cX14_takeStop 4 = .ok (.invokevirtual 145, 3) := by decide +kernel
theorem dX14_takeStop_7 : decode cX14_takeStop 7 = .ok (.invokevirtual 141, 3) := by decide +kernel
theorem dX14_takeStop_10 : decode cX14_takeStop 10 = .ok (.ifCond .eq 13, 3) := by decide +kernel
theorem dX14_takeStop_23 : decode cX14_takeStop 23 = .ok (.return_, 1) := by decide +kernel
theorem dX14_takeStop_13 : decode cX14_takeStop 13 = .ok (.aload_n 0, 1) := by decide +kernel
theorem dX14_takeStop_14 : decode cX14_takeStop 14 = .ok (.dup, 1) := by decide +kernel
theorem dX14_takeStop_15 : decode cX14_takeStop 15 = .ok (.getfield 131, 3) := by decide +kernel
theorem dX14_takeStop_18 : decode cX14_takeStop 18 = .ok (.iconst 1, 1) := by decide +kernel
theorem dX14_takeStop_19 : decode cX14_takeStop 19 = .ok (.iadd, 1) := by decide +kernel
theorem dX14_takeStop_20 : decode cX14_takeStop 20 = .ok (.putfield 131, 3) := by decide +kernel
theorem dX14_look_0 : decode cX14_look 0 = .ok (.aload_n 0, 1) := by decide +kernel
theorem dX14_look_1 : decode cX14_look 1 = .ok (.getfield 131, 3) := by decide +kernel
theorem dX14_look_4 : decode cX14_look 4 = .ok (.aload_n 0, 1) := by decide +kernel
theorem dX14_look_5 : decode cX14_look 5 = .ok (.getfield 125, 3) := by decide +kernel
theorem dX14_look_8 : decode cX14_look 8 = .ok (.if_icmp .ge 52, 3) := by decide +kernel
theorem dX14_look_60 : decode cX14_look 60 = .ok (.iconst 0, 1) := by decide +kernel
theorem dX14_look_61 : decode cX14_look 61 = .ok (.istore_n 3, 1) := by decide +kernel
theorem dX14_look_62 : decode cX14_look 62 = .ok (.iconst 0, 1) := by decide +kernel
theorem dX14_look_63 : decode cX14_look 63 = .ok (.istore 4, 2) := by decide +kernel
theorem dX14_look_65 : decode cX14_look 65 = .ok (.iload_n 3, 1) := by decide +kernel
theorem dX14_look_66 : decode cX14_look 66 = .ok (.ifCond .eq 15, 3) := by decide +kernel
theorem dX14_look_81 : decode cX14_look 81 = .ok (.iconst 0, 1) := by decide +kernel
theorem dX14_look_82 : decode cX14_look 82 = .ok (.istore 5, 2) := by decide +kernel
theorem dX14_look_84 : decode cX14_look 84 = .ok (.iload_n 3, 1) := by decide +kernel
theorem dX14_look_85 : decode cX14_look 85 = .ok (.ifCond .eq 41, 3) := by decide +kernel
theorem dX14_look_88 : decode cX14_look 88 = .ok (.iload 5, 2) := by decide +kernel
theorem dX14_look_90 : decode cX14_look 90 = .ok (.aload_n 0, 1) := by decide +kernel
theorem dX14_look_91 : decode cX14_look 91 = .ok (.getfield 26, 3) := by decide +kernel
theorem dX14_look_94 : decode cX14_look 94 = .ok (.aload_n 0, 1) := by decide +kernel
theorem dX14_look_95 : decode cX14_look 95 = .ok (.getfield 131, 3) := by decide +kernel
theorem dX14_look_98 : decode cX14_look 98 = .ok (.iaload, 1) := by decide +kernel
theorem dX14_look_99 : decode cX14_look 99 = .ok (.if_icmp .ge 27, 3) := by decide +kernel
theorem dX14_look_102 : decode cX14_look 102 = .ok (.bipush 10, 2) := by decide +kernel
theorem dX14_look_104 : decode cX14_look 104 = .ok (.iload 4, 2) := by decide +kernel
theorem dX14_look_106 : decode cX14_look 106 = .ok (.imul, 1) := by decide +kernel
theorem dX14_look_107 : decode cX14_look 107 = .ok (.aload_n 0, 1) := by decide +kernel
theorem dX14_look_108 : decode cX14_look 108 = .ok (.getfield 20, 3) := by decide +kernel
theorem dX14_look_111 : decode cX14_look 111 = .ok (.iload 5, 2) := by decide +kernel
theorem dX14_look_113 : decode cX14_look 113 = .ok (.iaload, 1) := by decide +kernel
theorem dX14_look_114 : decode cX14_look 114 = .ok (.iadd, 1) := by decide +kernel
theorem dX14_look_115 : decode cX14_look 115 = .ok (.bipush 48, 2) := by decide +kernel
theorem dX14_look_117 : decode cX14_look 117 = .ok (.isub, 1) := by decide +kernel
theorem dX14_look_118 : decode cX14_look 118 = .ok (.istore 4, 2) := by decide +kernel
theorem dX14_look_120 : decode cX14_look 120 = .ok (.iinc 5 1, 3) := by decide +kernel
theorem dX14_look_123 : decode cX14_look 123 = .ok (.goto (-39), 3) := by decide +kernel
theorem dX14_look_126 : decode cX14_look 126 = .ok (.aload_n 0, 1) := by decide +kernel
theorem dX14_look_127 : decode cX14_look 127 = .ok (.iload_n 3, 1) := by decide +kernel
theorem dX14_look_128 : decode cX14_look 128 = .ok (.ifCond .eq 19, 3) := by decide +kernel
theorem dX14_look_147 : decode cX14_look 147 = .ok (.iconst 0, 1) := by decide +kernel
theorem dX14_look_148 : decode cX14_look 148 = .ok (.invokevirtual 141, 3) := by decide +kernel
theorem dX14_look_151 : decode cX14_look 151 = .ok (.ifCond .eq 8, 3) := by decide +kernel
theorem dX14_look_159 : decode cX14_look 159 = .ok (.iconst (-1), 1) := by decide +kernel
theorem dX14_look_160 : decode cX14_look 160 = .ok (.ireturn, 1) := by decide +kernel
theorem dX14_look_154 : decode cX14_look 154 = .ok (.iload 4, 2) := by decide +kernel
theorem dX14_look_156 : decode cX14_look 156 = .ok (.goto 4, 3) := by decide +kernel
theorem dX14_look_131 : decode cX14_look 131 = .ok (.iload 4, 2) := by decide +kernel
theorem dX14_look_133 : decode cX14_look 133 = .ok (.iload_n 1, 1) := by decide +kernel
theorem dX14_look_134 : decode cX14_look 134 = .ok (.if_icmp .lt 13, 3) := by decide +kernel
theorem dX14_look_137 : decode cX14_look 137 = .ok (.iload 4, 2) := by decide +kernel
theorem dX14_look_139 : decode cX14_look 139 = .ok (.iload_n 2, 1) := by decide +kernel
theorem dX14_look_140 : decode cX14_look 140 = .ok (.if_icmp .gt 7, 3) := by decide +kernel
theorem dX14_look_143 : decode cX14_look 143 = .ok (.iconst 1, 1) := by decide +kernel
theorem dX14_look_144 : decode cX14_look 144 = .ok (.goto 4, 3) := by decide +kernel
theorem dX14_look_69 : decode cX14_look 69 = .ok (.aload_n 0, 1) := by decide +kernel
theorem dX14_look_70 : decode cX14_look 70 = .ok (.getfield 23, 3) := by decide +kernel
theorem dX14_look_73 : decode cX14_look 73 = .ok (.aload_n 0, 1) := by decide +kernel
theorem dX14_look_74 : decode cX14_look 74 = .ok (.getfield 131, 3) := by decide +kernel
theorem dX14_look_77 : decode cX14_look 77 = .ok (.iaload, 1) := by decide +kernel
theorem dX14_look_78 : decode cX14_look 78 = .ok (.goto 4, 3) := by decide +kernel
theorem dX14_look_11 : decode cX14_look 11 = .ok (.aload_n 0, 1) := by decide +kernel
theorem dX14_look_12 : decode cX14_look 12 = .ok (.getfield 20, 3) := by decide +kernel
theorem dX14_look_15 : decode cX14_look 15 = .ok (.aload_n 0, 1) := by decide +kernel
theorem dX14_look_16 : decode cX14_look 16 = .ok (.getfield 23, 3) := by decide +kernel
theorem dX14_look_19 : decode cX14_look 19 = .ok (.aload_n 0, 1) := by decide +kernel
theorem dX14_look_20 : decode cX14_look 20 = .ok (.getfield 131, 3) := by decide +kernel
theorem dX14_look_23 : decode cX14_look 23 = .ok (.iaload, 1) := by decide +kernel
theorem dX14_look_24 : decode cX14_look 24 = .ok (.iaload, 1) := by decide +kernel
theorem dX14_look_25 : decode cX14_look 25 = .ok (.invokestatic 128, 3) := by decide +kernel
theorem dX14_look_28 : decode cX14_look 28 = .ok (.iconst 2, 1) := by decide +kernel
theorem dX14_look_29 : decode cX14_look 29 = .ok (.if_icmp .ne 31, 3) := by decide +kernel
theorem dX14_look_32 : decode cX14_look 32 = .ok (.aload_n 0, 1) := by decide +kernel
theorem dX14_look_33 : decode cX14_look 33 = .ok (.getfield 26, 3) := by decide +kernel
theorem dX14_look_36 : decode cX14_look 36 = .ok (.aload_n 0, 1) := by decide +kernel
theorem dX14_look_37 : decode cX14_look 37 = .ok (.getfield 131, 3) := by decide +kernel
theorem dX14_look_40 : decode cX14_look 40 = .ok (.iaload, 1) := by decide +kernel
theorem dX14_look_41 : decode cX14_look 41 = .ok (.aload_n 0, 1) := by decide +kernel
theorem dX14_look_42 : decode cX14_look 42 = .ok (.getfield 23, 3) := by decide +kernel
theorem dX14_look_45 : decode cX14_look 45 = .ok (.aload_n 0, 1) := by decide +kernel
theorem dX14_look_46 : decode cX14_look 46 = .ok (.getfield 131, 3) := by decide +kernel
theorem dX14_look_49 : decode cX14_look 49 = .ok (.iaload, 1) := by decide +kernel
theorem dX14_look_50 : decode cX14_look 50 = .ok (.isub, 1) := by decide +kernel
theorem dX14_look_51 : decode cX14_look 51 = .ok (.bipush 6, 2) := by decide +kernel
theorem dX14_look_53 : decode cX14_look 53 = .ok (.if_icmp .gt 7, 3) := by decide +kernel
theorem dX14_look_56 : decode cX14_look 56 = .ok (.iconst 1, 1) := by decide +kernel
theorem dX14_look_57 : decode cX14_look 57 = .ok (.goto 4, 3) := by decide +kernel
theorem zl_X13_80 : zm_F zk_E RX13 80 13 13 := ⟨RX13, TX13, 24, rfl, zk_i13, by decide, zk_b15 206 (by decide +kernel) rfl⟩
theorem zl_X13_84 : zm_F zk_E RX13 84 13 14 := ⟨RX13, TX13, 24, rfl, zk_i13, by decide, zk_b15 208 (by decide +kernel) rfl⟩
theorem zt_13_14 : zm_T zk_E RX13 13 14 .int false := ⟨RX13, TX13, 24, tyX13, rfl, tyX13_ok, nmX13, rfl, rfl, rfl⟩
theorem zl_X13_87 : zm_L zk_E RX13 87 yX13_carsOf (.code yX13_carsOf cX13_carsOf 4 (some .int)) 1 ∧ Cond.instanceMethod yX13_carsOf ∈ zk_E.2.2.1 ∧ Cond.selects yX13_carsOf.cls yX13_carsOf yX13_carsOf ∈ zk_E.2.2.1 := ⟨⟨zk_b21 15 (by decide +kernel) rfl, zk_b1 19 (by decide +kernel) rfl, zk_b21 12 (by decide +kernel) rfl, by decide +kernel, by decide +kernel, by decide +kernel⟩, zk_b21 14 (by decide +kernel) rfl, zk_s17 (q := (yX13_carsOf, 24)) 9 (by decide +kernel)⟩
theorem zl_X13_41 : zm_F zk_E RX13 41 13 15 := ⟨RX13, TX13, 24, rfl, zk_i13, by decide, zk_b15 209 (by decide +kernel) rfl⟩
theorem zl_X13_91 : zm_L zk_E RX13 91 yX13_begins (.code yX13_begins cX13_begins 2 (some .int)) 1 ∧ Cond.instanceMethod yX13_begins ∈ zk_E.2.2.1 ∧ Cond.selects yX13_begins.cls yX13_begins yX13_begins ∈ zk_E.2.2.1 := ⟨⟨zk_b21 28 (by decide +kernel) rfl, zk_b1 19 (by decide +kernel) rfl, zk_b21 25 (by decide +kernel) rfl, by decide +kernel, by decide +kernel, by decide +kernel⟩, zk_b21 27 (by decide +kernel) rfl, zk_s17 (q := (yX13_begins, 24)) 12 (by decide +kernel)⟩
theorem zl_X13_94 : zm_F zk_E RX13 94 13 16 := ⟨RX13, TX13, 24, rfl, zk_i13, by decide, zk_b15 210 (by decide +kernel) rfl⟩
theorem zl_X13_44 : zm_F zk_E RX13 44 13 17 := ⟨RX13, TX13, 24, rfl, zk_i13, by decide, zk_b15 211 (by decide +kernel) rfl⟩
theorem zl_X13_97 : zm_L zk_E RX13 97 yX13_way (.code yX13_way cX13_way 4 (some .int)) 3 ∧ Cond.instanceMethod yX13_way ∈ zk_E.2.2.1 ∧ Cond.selects yX13_way.cls yX13_way yX13_way ∈ zk_E.2.2.1 := ⟨⟨zk_b21 32 (by decide +kernel) rfl, zk_b1 19 (by decide +kernel) rfl, zk_b21 29 (by decide +kernel) rfl, by decide +kernel, by decide +kernel, by decide +kernel⟩, zk_b21 31 (by decide +kernel) rfl, zk_s17 (q := (yX13_way, 24)) 13 (by decide +kernel)⟩
theorem zl_X13_101 : zm_L zk_E RX13 101 yX13_weightOf (.code yX13_weightOf cX13_weightOf 2 (some .int)) 1 ∧ Cond.instanceMethod yX13_weightOf ∈ zk_E.2.2.1 ∧ Cond.selects yX13_weightOf.cls yX13_weightOf yX13_weightOf ∈ zk_E.2.2.1 := ⟨⟨zk_b21 36 (by decide +kernel) rfl, zk_b1 19 (by decide +kernel) rfl, zk_b21 33 (by decide +kernel) rfl, by decide +kernel, by decide +kernel, by decide +kernel⟩, zk_b21 35 (by decide +kernel) rfl, zk_s17 (q := (yX13_weightOf, 24)) 14 (by decide +kernel)⟩
theorem zl_X13_47 : zm_F zk_E RX13 47 13 18 := ⟨RX13, TX13, 24, rfl, zk_i13, by decide, zk_b15 212 (by decide +kernel) rfl⟩
theorem zl_X13_104 : Cond.constantLong RX13 104 (1152921504606846976 : Int64) ∈ zk_E.2.2.1 := zk_b21 20 (by decide +kernel) rfl
theorem zt_13_16 : zm_T zk_E RX13 13 16 .int false := ⟨RX13, TX13, 24, tyX13, rfl, tyX13_ok, nmX13, rfl, rfl, rfl⟩
theorem zl_X13_106 : zm_L zk_E RX13 106 yX13_costOf (.code yX13_costOf cX13_costOf 8 (some .long)) 1 ∧ Cond.instanceMethod yX13_costOf ∈ zk_E.2.2.1 ∧ Cond.selects yX13_costOf.cls yX13_costOf yX13_costOf ∈ zk_E.2.2.1 := ⟨⟨zk_b21 24 (by decide +kernel) rfl, zk_b1 19 (by decide +kernel) rfl, zk_b21 21 (by decide +kernel) rfl, by decide +kernel, by decide +kernel, by decide +kernel⟩, zk_b21 23 (by decide +kernel) rfl, zk_s17 (q := (yX13_costOf, 24)) 11 (by decide +kernel)⟩
theorem zl_X13_110 : zm_L zk_E RX13 110 yX13_isRight (.code yX13_isRight cX13_isRight 4 (some .boolean)) 1 ∧ Cond.instanceMethod yX13_isRight ∈ zk_E.2.2.1 ∧ Cond.selects yX13_isRight.cls yX13_isRight yX13_isRight ∈ zk_E.2.2.1 := ⟨⟨zk_b21 40 (by decide +kernel) rfl, zk_b1 19 (by decide +kernel) rfl, zk_b21 37 (by decide +kernel) rfl, by decide +kernel, by decide +kernel, by decide +kernel⟩, zk_b21 39 (by decide +kernel) rfl, zk_s17 (q := (yX13_isRight, 24)) 15 (by decide +kernel)⟩
theorem zl_X13_114 : zm_L zk_E RX13 114 yX13_nextRow (.code yX13_nextRow cX13_nextRow 6 (some .boolean)) 0 ∧ Cond.instanceMethod yX13_nextRow ∈ zk_E.2.2.1 ∧ Cond.selects yX13_nextRow.cls yX13_nextRow yX13_nextRow ∈ zk_E.2.2.1 := ⟨⟨zk_b21 44 (by decide +kernel) rfl, zk_b1 19 (by decide +kernel) rfl, zk_b21 41 (by decide +kernel) rfl, by decide +kernel, by decide +kernel, by decide +kernel⟩, zk_b21 43 (by decide +kernel) rfl, zk_s18 (q := (yX13_nextRow, 24)) 0 (by decide +kernel)⟩
theorem zl_X13_51 : zm_F zk_E RX13 51 13 19 := ⟨RX13, TX13, 24, rfl, zk_i13, by decide, zk_b15 213 (by decide +kernel) rfl⟩
theorem zl_X13_118 : zm_L zk_E RX13 118 yX13_bitsOf (.code yX13_bitsOf cX13_bitsOf 6 (some .int)) 2 ∧ Cond.instanceMethod yX13_bitsOf ∈ zk_E.2.2.1 ∧ Cond.selects yX13_bitsOf.cls yX13_bitsOf yX13_bitsOf ∈ zk_E.2.2.1 := ⟨⟨zk_b21 52 (by decide +kernel) rfl, zk_b1 19 (by decide +kernel) rfl, zk_b21 49 (by decide +kernel) rfl, by decide +kernel, by decide +kernel, by decide +kernel⟩, zk_b21 51 (by decide +kernel) rfl, zk_s18 (q := (yX13_bitsOf, 24)) 2 (by decide +kernel)⟩
theorem zl_X13_54 : zm_F zk_E RX13 54 13 20 := ⟨RX13, TX13, 24, rfl, zk_i13, by decide, zk_b15 214 (by decide +kernel) rfl⟩
theorem zl_X13_63 : zm_F zk_E RX13 63 13 23 := ⟨RX13, TX13, 24, rfl, zk_i13, by decide, zk_b15 217 (by decide +kernel) rfl⟩
theorem zl_X13_57 : zm_F zk_E RX13 57 13 21 := ⟨RX13, TX13, 24, rfl, zk_i13, by decide, zk_b15 215 (by decide +kernel) rfl⟩
theorem zl_X13_60 : zm_F zk_E RX13 60 13 22 := ⟨RX13, TX13, 24, rfl, zk_i13, by decide, zk_b15 216 (by decide +kernel) rfl⟩
theorem zl_X13_122 : zm_L zk_E RX13 122 yX13_choose (.code yX13_choose cX13_choose 2 none) 0 ∧ Cond.instanceMethod yX13_choose ∈ zk_E.2.2.1 ∧ Cond.selects yX13_choose.cls yX13_choose yX13_choose ∈ zk_E.2.2.1 := ⟨⟨zk_b21 11 (by decide +kernel) rfl, zk_b1 19 (by decide +kernel) rfl, zk_b21 8 (by decide +kernel) rfl, by decide +kernel, by decide +kernel, by decide +kernel⟩, zk_b21 10 (by decide +kernel) rfl, zk_s17 (q := (yX13_choose, 24)) 8 (by decide +kernel)⟩
theorem zl_X13_125 : zm_L zk_E RX13 125 yX13_findRow (.code yX13_findRow cX13_findRow 8 none) 2 ∧ Cond.instanceMethod yX13_findRow ∈ zk_E.2.2.1 ∧ Cond.selects yX13_findRow.cls yX13_findRow yX13_findRow ∈ zk_E.2.2.1 := ⟨⟨zk_b21 19 (by decide +kernel) rfl, zk_b1 19 (by decide +kernel) rfl, zk_b21 16 (by decide +kernel) rfl, by decide +kernel, by decide +kernel, by decide +kernel⟩, zk_b21 18 (by decide +kernel) rfl, zk_s17 (q := (yX13_findRow, 24)) 10 (by decide +kernel)⟩
theorem zl_X13_129 : zm_L zk_E RX13 129 yX13_sumOf (.code yX13_sumOf cX13_sumOf 5 (some .long)) 1 ∧ Cond.instanceMethod yX13_sumOf ∈ zk_E.2.2.1 ∧ Cond.selects yX13_sumOf.cls yX13_sumOf yX13_sumOf ∈ zk_E.2.2.1 := ⟨⟨zk_b21 48 (by decide +kernel) rfl, zk_b1 19 (by decide +kernel) rfl, zk_b21 45 (by decide +kernel) rfl, by decide +kernel, by decide +kernel, by decide +kernel⟩, zk_b21 47 (by decide +kernel) rfl, zk_s18 (q := (yX13_sumOf, 24)) 1 (by decide +kernel)⟩
theorem zl_X13_132 : zm_L zk_E RX13 132 yX13_tell (.code yX13_tell cX13_tell 8 none) 2 ∧ Cond.instanceMethod yX13_tell ∈ zk_E.2.2.1 ∧ Cond.selects yX13_tell.cls yX13_tell yX13_tell ∈ zk_E.2.2.1 := ⟨⟨zk_b21 56 (by decide +kernel) rfl, zk_b1 19 (by decide +kernel) rfl, zk_b21 53 (by decide +kernel) rfl, by decide +kernel, by decide +kernel, by decide +kernel⟩, zk_b21 55 (by decide +kernel) rfl, zk_s18 (q := (yX13_tell, 24)) 3 (by decide +kernel)⟩
theorem zl_X14_20 : zm_F zk_E RX14 20 14 5 := ⟨RX14, TX14, 36, rfl, zk_i14, by decide, zk_b14 124 (by decide +kernel) rfl⟩
theorem zl_X14_89 : zm_F zk_E RX14 89 14 6 := ⟨RX14, TX14, 36, rfl, zk_i14, by decide, zk_b14 125 (by decide +kernel) rfl⟩
theorem zt_14_6 : zm_T zk_E RX14 14 6 .int false := ⟨RX14, TX14, 36, tyX14, rfl, tyX14_ok, nmX14, rfl, rfl, rfl⟩
theorem zl_X14_86 : zm_F zk_E RX14 86 14 34 := ⟨RX14, TX14, 36, rfl, zk_i14, by decide, zk_b14 159 (by decide +kernel) rfl⟩
theorem zl_X14_93 : zm_F zk_E RX14 93 14 35 := ⟨RX14, TX14, 36, rfl, zk_i14, by decide, zk_b14 160 (by decide +kernel) rfl⟩
theorem zt_14_35 : zm_T zk_E RX14 14 35 .int false := ⟨RX14, TX14, 36, tyX14, rfl, tyX14_ok, nmX14, rfl, rfl, rfl⟩
theorem zl_X14_96 : zm_L zk_E RX14 96 yX14_letter (.code yX14_letter cX14_letter 2 none) 1 ∧ Cond.instanceMethod yX14_letter ∈ zk_E.2.2.1 ∧ Cond.selects yX14_letter.cls yX14_letter yX14_letter ∈ zk_E.2.2.1 := ⟨⟨zk_b19 118 (by decide +kernel) rfl, zk_b1 16 (by decide +kernel) rfl, zk_b19 115 (by decide +kernel) rfl, by decide +kernel, by decide +kernel, by decide +kernel⟩, zk_b19 117 (by decide +kernel) rfl, zk_s15 (q := (yX14_letter, 36)) 12 (by decide +kernel)⟩
theorem zl_X14_110 : Cond.constant RX14 110 (464151 : Int32) ∈ zk_E.2.2.1 := zk_b19 110 (by decide +kernel) rfl
theorem zl_X14_111 : zm_L zk_E RX14 111 yX14_word (.code yX14_word cX14_word 3 none) 1 ∧ Cond.instanceMethod yX14_word ∈ zk_E.2.2.1 ∧ Cond.selects yX14_word.cls yX14_word yX14_word ∈ zk_E.2.2.1 := ⟨⟨zk_b19 114 (by decide +kernel) rfl, zk_b1 16 (by decide +kernel) rfl, zk_b19 111 (by decide +kernel) rfl, by decide +kernel, by decide +kernel, by decide +kernel⟩, zk_b19 113 (by decide +kernel) rfl, zk_s15 (q := (yX14_word, 36)) 11 (by decide +kernel)⟩
theorem zl_X14_114 : zm_L zk_E RX14 114 yX14_number (.code yX14_number cX14_number 2 none) 1 ∧ Cond.instanceMethod yX14_number ∈ zk_E.2.2.1 ∧ Cond.selects yX14_number.cls yX14_number yX14_number ∈ zk_E.2.2.1 := ⟨⟨zk_b19 122 (by decide +kernel) rfl, zk_b1 16 (by decide +kernel) rfl, zk_b19 119 (by decide +kernel) rfl, by decide +kernel, by decide +kernel, by decide +kernel⟩, zk_b19 121 (by decide +kernel) rfl, zk_s15 (q := (yX14_number, 36)) 13 (by decide +kernel)⟩
theorem zl_X14_121 : Cond.constant RX14 121 (628196 : Int32) ∈ zk_E.2.2.1 := zk_b19 127 (by decide +kernel) rfl
theorem zl_X14_122 : zm_L zk_E RX14 122 yX14_stop (.code yX14_stop cX14_stop 1 none) 0 ∧ Cond.instanceMethod yX14_stop ∈ zk_E.2.2.1 ∧ Cond.selects yX14_stop.cls yX14_stop yX14_stop ∈ zk_E.2.2.1 := ⟨⟨zk_b19 131 (by decide +kernel) rfl, zk_b1 16 (by decide +kernel) rfl, zk_b19 128 (by decide +kernel) rfl, by decide +kernel, by decide +kernel, by decide +kernel⟩, zk_b19 130 (by decide +kernel) rfl, zk_s15 (q := (yX14_stop, 36)) 14 (by decide +kernel)⟩
theorem zl_X14_118 : Cond.constant RX14 118 (145707 : Int32) ∈ zk_E.2.2.1 := zk_b19 124 (by decide +kernel) rfl
theorem zl_X14_119 : Cond.constant RX14 119 (374834 : Int32) ∈ zk_E.2.2.1 := zk_b19 125 (by decide +kernel) rfl
theorem zl_X14_120 : Cond.constant RX14 120 (26259620 : Int32) ∈ zk_E.2.2.1 := zk_b19 126 (by decide +kernel) rfl
theorem zl_X14_117 : Cond.constant RX14 117 (20059310 : Int32) ∈ zk_E.2.2.1 := zk_b19 123 (by decide +kernel) rfl
theorem zl_X14_109 : Cond.constant RX14 109 (143848 : Int32) ∈ zk_E.2.2.1 := zk_b19 109 (by decide +kernel) rfl
theorem zl_X14_108 : Cond.constant RX14 108 (178682 : Int32) ∈ zk_E.2.2.1 := zk_b19 108 (by decide +kernel) rfl
theorem zl_X14_100 : zm_L zk_E RX14 100 yX14_sentence (.code yX14_sentence cX14_sentence 7 none) 5 ∧ Cond.instanceMethod yX14_sentence ∈ zk_E.2.2.1 ∧ Cond.selects yX14_sentence.cls yX14_sentence yX14_sentence ∈ zk_E.2.2.1 := ⟨⟨zk_b19 107 (by decide +kernel) rfl, zk_b1 16 (by decide +kernel) rfl, zk_b19 104 (by decide +kernel) rfl, by decide +kernel, by decide +kernel, by decide +kernel⟩, zk_b19 106 (by decide +kernel) rfl, zk_s15 (q := (yX14_sentence, 36)) 10 (by decide +kernel)⟩
theorem zl_X14_104 : zm_L zk_E RX14 104 yX14_unit (.code yX14_unit cX14_unit 2 (some .int)) 1 ∧ Cond.instanceMethod yX14_unit ∈ zk_E.2.2.1 ∧ Cond.selects yX14_unit.cls yX14_unit yX14_unit ∈ zk_E.2.2.1 := ⟨⟨zk_b19 92 (by decide +kernel) rfl, zk_b1 16 (by decide +kernel) rfl, zk_b19 136 (by decide +kernel) rfl, by decide +kernel, by decide +kernel, by decide +kernel⟩, zk_b19 90 (by decide +kernel) rfl, zk_b19 91 (by decide +kernel) rfl⟩
theorem zl_X14_125 : zm_F zk_E RX14 125 14 7 := ⟨RX14, TX14, 36, rfl, zk_i14, by decide, zk_b14 127 (by decide +kernel) rfl⟩
theorem zt_14_7 : zm_T zk_E RX14 14 7 .int false := ⟨RX14, TX14, 36, tyX14, rfl, tyX14_ok, nmX14, rfl, rfl, rfl⟩
theorem zl_X14_128 : zm_L zk_E RX14 128 yX14_sort (.code yX14_sort cX14_sort 1 (some .int)) 1 ∧ Cond.static yX14_sort ∈ zk_E.2.2.1 := ⟨⟨zk_b19 155 (by decide +kernel) rfl, zk_b1 16 (by decide +kernel) rfl, zk_b19 153 (by decide +kernel) rfl, by decide +kernel, by decide +kernel, by decide +kernel⟩, zk_b19 154 (by decide +kernel) rfl⟩
theorem zl_X14_26 : zm_F zk_E RX14 26 14 9 := ⟨RX14, TX14, 36, rfl, zk_i14, by decide, zk_b14 129 (by decide +kernel) rfl⟩
theorem zl_X14_23 : zm_F zk_E RX14 23 14 8 := ⟨RX14, TX14, 36, rfl, zk_i14, by decide, zk_b14 128 (by decide +kernel) rfl⟩
theorem zl_X14_131 : zm_F zk_E RX14 131 14 10 := ⟨RX14, TX14, 36, rfl, zk_i14, by decide, zk_b14 130 (by decide +kernel) rfl⟩
theorem zl_X14_134 : zm_F zk_E RX14 134 14 11 := ⟨RX14, TX14, 36, rfl, zk_i14, by decide, zk_b14 131 (by decide +kernel) rfl⟩
theorem zt_14_11 : zm_T zk_E RX14 14 11 .int false := ⟨RX14, TX14, 36, tyX14, rfl, tyX14_ok, nmX14, rfl, rfl, rfl⟩
theorem zl_X14_137 : zm_L zk_E RX14 137 yX14_letters (.code yX14_letters cX14_letters 3 (some .int)) 0 ∧ Cond.instanceMethod yX14_letters ∈ zk_E.2.2.1 ∧ Cond.selects yX14_letters.cls yX14_letters yX14_letters ∈ zk_E.2.2.1 := ⟨⟨zk_b19 163 (by decide +kernel) rfl, zk_b1 16 (by decide +kernel) rfl, zk_b19 160 (by decide +kernel) rfl, by decide +kernel, by decide +kernel, by decide +kernel⟩, zk_b19 162 (by decide +kernel) rfl, zk_s16 (q := (yX14_letters, 36)) 1 (by decide +kernel)⟩
theorem zl_X14_141 : zm_L zk_E RX14 141 yX14_want (.code yX14_want cX14_want 2 (some .boolean)) 1 ∧ Cond.instanceMethod yX14_want ∈ zk_E.2.2.1 ∧ Cond.selects yX14_want.cls yX14_want yX14_want ∈ zk_E.2.2.1 := ⟨⟨zk_b19 175 (by decide +kernel) rfl, zk_b1 16 (by decide +kernel) rfl, zk_b19 172 (by decide +kernel) rfl, by decide +kernel, by decide +kernel, by decide +kernel⟩, zk_b19 174 (by decide +kernel) rfl, zk_s16 (q := (yX14_want, 36)) 4 (by decide +kernel)⟩
theorem zt_14_10 : zm_T zk_E RX14 14 10 .int false := ⟨RX14, TX14, 36, tyX14, rfl, tyX14_ok, nmX14, rfl, rfl, rfl⟩
theorem zl_X14_145 : zm_L zk_E RX14 145 yX14_isSign (.code yX14_isSign cX14_isSign 2 (some .boolean)) 1 ∧ Cond.instanceMethod yX14_isSign ∈ zk_E.2.2.1 ∧ Cond.selects yX14_isSign.cls yX14_isSign yX14_isSign ∈ zk_E.2.2.1 := ⟨⟨zk_b19 191 (by decide +kernel) rfl, zk_b1 16 (by decide +kernel) rfl, zk_b19 188 (by decide +kernel) rfl, by decide +kernel, by decide +kernel, by decide +kernel⟩, zk_b19 190 (by decide +kernel) rfl, zk_s16 (q := (yX14_isSign, 36)) 8 (by decide +kernel)⟩
def zf_X13_carsOf_J55 (N : Nat) (k : Nat → Int32 → Int32 → Int32 → zm_S → Option ((Int32 × zm_S) ⊕ ((Int32) × zm_S))) (a0 : Nat) (i1 : Int32) (i3 : Int32) (t0 : Int32) (t1 : Int32) (S : zm_S) : Option ((Int32 × zm_S) ⊕ ((Int32) × zm_S)) := k a0 i1 (t0 ||| t1) (i3 + (1 : Int32)) S
set_option maxHeartbeats 4000000 in
set_option maxRecDepth 100000 in
theorem zt_X13_carsOf_J55 {p : Program} {l : Launch} {e : Env} {R : Room} {s : State} {m : MethodId} {args : Array Value} {below : List Frame} {meth : Method} {c : Code} {V : zm_V} {mc ms d rc rs : Nat} (hX : zm_X p R s m args meth c RX13 "carsOf" cX13_carsOf 4 zk_E V mc ms) (hr : meth.sig.returnType = (some .int)) (hR : R.frames = d ∧ R.locals = 64 * d) (hd : 2 ≤ d) {N : Nat} {k : Nat → Int32 → Int32 → Int32 → zm_S → Option ((Int32 × zm_S) ⊕ ((Int32) × zm_S))} {a0 : Nat} {i1 : Int32} {i3 : Int32} {t0 : Int32} {t1 : Int32} {res : (Int32 × zm_S) ⊕ ((Int32) × zm_S)} {out : (Int32 × zm_S)}   (hf : ∀ o, res = .inl o → o = out) (hk : ∀ (x2 : Int32) (S' : zm_S), res = .inr (x2, S') → zw p l e R s m args below meth c (vx_MQ below (zm_Qc zk_E V (zo_i out)) (zm_XC zk_E V zo_x) args s mc ms (fun q => V.2.2.2.1 ≤ q)) 4 zk_E V mc ms 63 [(2, .int x2)] [] S' rc rs) (hrec : ∀ (i2' : Int32) (i3' : Int32) (S : zm_S), k a0 i1 i2' i3' S = some res → zw p l e R s m args below meth c (vx_MQ below (zm_Qc zk_E V (zo_i out)) (zm_XC zk_E V zo_x) args s mc ms (fun q => V.2.2.2.1 ≤ q)) 4 zk_E V mc ms 4 [(0, .ref a0), (1, .int i1), (2, .int i2'), (3, .int i3')] [] S rc rs) {S : zm_S} (h : zf_X13_carsOf_J55 N k a0 i1 i3 t0 t1 S = some res) : zw p l e R s m args below meth c (vx_MQ below (zm_Qc zk_E V (zo_i out)) (zm_XC zk_E V zo_x) args s mc ms (fun q => V.2.2.2.1 ≤ q)) 4 zk_E V mc ms 55 [(0, .ref a0), (1, .int i1), (3, .int i3)] [.int t1, .int t0] S rc rs := by
  unfold zf_X13_carsOf_J55 at h
  refine zw_ior hX dX13_carsOf_55 ?_
  refine zw_istore_n hX dX13_carsOf_56 (by decide) ?_
  refine zw_iinc (v := (i3 + (1 : Int32))) hX dX13_carsOf_57 rfl rfl (by decide) ?_
  refine zw_goto (tgt := 4) hX dX13_carsOf_60 (by decide) ?_
  refine zw_sub (lv' := [(0, .ref a0), (1, .int i1), (2, .int (t0 ||| t1)), (3, .int (i3 + (1 : Int32)))]) (List.forall_mem_cons.mpr ⟨rfl, (List.forall_mem_cons.mpr ⟨rfl, (List.forall_mem_cons.mpr ⟨rfl, (List.forall_mem_cons.mpr ⟨rfl, zs_nil⟩)⟩)⟩)⟩) ?_
  exact hrec _ _ _ h
def zf_X13_carsOf_J54 (N : Nat) (k : Nat → Int32 → Int32 → Int32 → zm_S → Option ((Int32 × zm_S) ⊕ ((Int32) × zm_S))) (a0 : Nat) (i1 : Int32) (i3 : Int32) (t0 : Int32) (S : zm_S) : Option ((Int32 × zm_S) ⊕ ((Int32) × zm_S)) := zf_X13_carsOf_J55 N (k) a0 i1 i3 t0 (0 : Int32) S
set_option maxHeartbeats 4000000 in
set_option maxRecDepth 100000 in
theorem zt_X13_carsOf_J54 {p : Program} {l : Launch} {e : Env} {R : Room} {s : State} {m : MethodId} {args : Array Value} {below : List Frame} {meth : Method} {c : Code} {V : zm_V} {mc ms d rc rs : Nat} (hX : zm_X p R s m args meth c RX13 "carsOf" cX13_carsOf 4 zk_E V mc ms) (hr : meth.sig.returnType = (some .int)) (hR : R.frames = d ∧ R.locals = 64 * d) (hd : 2 ≤ d) {N : Nat} {k : Nat → Int32 → Int32 → Int32 → zm_S → Option ((Int32 × zm_S) ⊕ ((Int32) × zm_S))} {a0 : Nat} {i1 : Int32} {i3 : Int32} {t0 : Int32} {res : (Int32 × zm_S) ⊕ ((Int32) × zm_S)} {out : (Int32 × zm_S)}   (hf : ∀ o, res = .inl o → o = out) (hk : ∀ (x2 : Int32) (S' : zm_S), res = .inr (x2, S') → zw p l e R s m args below meth c (vx_MQ below (zm_Qc zk_E V (zo_i out)) (zm_XC zk_E V zo_x) args s mc ms (fun q => V.2.2.2.1 ≤ q)) 4 zk_E V mc ms 63 [(2, .int x2)] [] S' rc rs) (hrec : ∀ (i2' : Int32) (i3' : Int32) (S : zm_S), k a0 i1 i2' i3' S = some res → zw p l e R s m args below meth c (vx_MQ below (zm_Qc zk_E V (zo_i out)) (zm_XC zk_E V zo_x) args s mc ms (fun q => V.2.2.2.1 ≤ q)) 4 zk_E V mc ms 4 [(0, .ref a0), (1, .int i1), (2, .int i2'), (3, .int i3')] [] S rc rs) {S : zm_S} (h : zf_X13_carsOf_J54 N k a0 i1 i3 t0 S = some res) : zw p l e R s m args below meth c (vx_MQ below (zm_Qc zk_E V (zo_i out)) (zm_XC zk_E V zo_x) args s mc ms (fun q => V.2.2.2.1 ≤ q)) 4 zk_E V mc ms 54 [(0, .ref a0), (1, .int i1), (3, .int i3)] [.int t0] S rc rs := by
  unfold zf_X13_carsOf_J54 at h
  refine zw_iconst (v := (0 : Int32)) hX dX13_carsOf_54 (by decide) ?_
  refine zw_sub (lv' := [(0, .ref a0), (1, .int i1), (3, .int i3)]) (List.forall_mem_cons.mpr ⟨rfl, (List.forall_mem_cons.mpr ⟨rfl, (List.forall_mem_cons.mpr ⟨rfl, zs_nil⟩)⟩)⟩) ?_
  exact zt_X13_carsOf_J55 hX hr hR hd hf hk hrec h
def zf_X13_carsOf_J48 (N : Nat) (k : Nat → Int32 → Int32 → Int32 → zm_S → Option ((Int32 × zm_S) ⊕ ((Int32) × zm_S))) (a0 : Nat) (i1 : Int32) (i3 : Int32) (t0 : Int32) (S : zm_S) : Option ((Int32 × zm_S) ⊕ ((Int32) × zm_S)) := zf_X13_carsOf_J55 N (k) a0 i1 i3 t0 ((1 : Int32) <<< (i3 &&& 31)) S
set_option maxHeartbeats 4000000 in
set_option maxRecDepth 100000 in
theorem zt_X13_carsOf_J48 {p : Program} {l : Launch} {e : Env} {R : Room} {s : State} {m : MethodId} {args : Array Value} {below : List Frame} {meth : Method} {c : Code} {V : zm_V} {mc ms d rc rs : Nat} (hX : zm_X p R s m args meth c RX13 "carsOf" cX13_carsOf 4 zk_E V mc ms) (hr : meth.sig.returnType = (some .int)) (hR : R.frames = d ∧ R.locals = 64 * d) (hd : 2 ≤ d) {N : Nat} {k : Nat → Int32 → Int32 → Int32 → zm_S → Option ((Int32 × zm_S) ⊕ ((Int32) × zm_S))} {a0 : Nat} {i1 : Int32} {i3 : Int32} {t0 : Int32} {res : (Int32 × zm_S) ⊕ ((Int32) × zm_S)} {out : (Int32 × zm_S)}   (hf : ∀ o, res = .inl o → o = out) (hk : ∀ (x2 : Int32) (S' : zm_S), res = .inr (x2, S') → zw p l e R s m args below meth c (vx_MQ below (zm_Qc zk_E V (zo_i out)) (zm_XC zk_E V zo_x) args s mc ms (fun q => V.2.2.2.1 ≤ q)) 4 zk_E V mc ms 63 [(2, .int x2)] [] S' rc rs) (hrec : ∀ (i2' : Int32) (i3' : Int32) (S : zm_S), k a0 i1 i2' i3' S = some res → zw p l e R s m args below meth c (vx_MQ below (zm_Qc zk_E V (zo_i out)) (zm_XC zk_E V zo_x) args s mc ms (fun q => V.2.2.2.1 ≤ q)) 4 zk_E V mc ms 4 [(0, .ref a0), (1, .int i1), (2, .int i2'), (3, .int i3')] [] S rc rs) {S : zm_S} (h : zf_X13_carsOf_J48 N k a0 i1 i3 t0 S = some res) : zw p l e R s m args below meth c (vx_MQ below (zm_Qc zk_E V (zo_i out)) (zm_XC zk_E V zo_x) args s mc ms (fun q => V.2.2.2.1 ≤ q)) 4 zk_E V mc ms 48 [(0, .ref a0), (1, .int i1), (3, .int i3)] [.int t0] S rc rs := by
  unfold zf_X13_carsOf_J48 at h
  refine zw_iconst (v := (1 : Int32)) hX dX13_carsOf_48 (by decide) ?_
  refine zw_iload_n hX dX13_carsOf_49 rfl ?_
  refine zw_ishl hX dX13_carsOf_50 ?_
  refine zw_goto (tgt := 55) hX dX13_carsOf_51 (by decide) ?_
  refine zw_sub (lv' := [(0, .ref a0), (1, .int i1), (3, .int i3)]) (List.forall_mem_cons.mpr ⟨rfl, (List.forall_mem_cons.mpr ⟨rfl, (List.forall_mem_cons.mpr ⟨rfl, zs_nil⟩)⟩)⟩) ?_
  exact zt_X13_carsOf_J55 hX hr hR hd hf hk hrec h
def zf_X13_carsOf_L4 (N : Nat) : Nat → Nat → Int32 → Int32 → Int32 → zm_S → Option ((Int32 × zm_S) ⊕ ((Int32) × zm_S))
  | 0, _, _, _, _, _ => none
  | n + 1, a0, i1, i2, i3, S => (zg_i S a0 13 0).bind (fun v1 => if v1 ≤ i3 then some (.inr (i2, S)) else (zg_i S a0 13 13).bind (fun v2 => if v2 = 0 then (zi S a0 13).bind (fun _ => (zf_X13_reaches N a0 i3 i1 S).bind (fun r5 => if r5.1 = 0 then zf_X13_carsOf_J54 N (zf_X13_carsOf_L4 N n) a0 i1 i3 i2 r5.2 else (zg_r r5.2 a0 13 11).bind (fun b6 => (za_x r5.2 0 b6 i1).bind (fun v7 => if v7 < 0 then zf_X13_carsOf_J48 N (zf_X13_carsOf_L4 N n) a0 i1 i3 i2 r5.2 else (zg_r r5.2 a0 13 11).bind (fun b8 => (za_x r5.2 0 b8 i1).bind (fun v9 => if v9 = i3 then zf_X13_carsOf_J48 N (zf_X13_carsOf_L4 N n) a0 i1 i3 i2 r5.2 else zf_X13_carsOf_J54 N (zf_X13_carsOf_L4 N n) a0 i1 i3 i2 r5.2)))))) else some (.inr (i2, S))))
set_option maxHeartbeats 4000000 in
set_option maxRecDepth 100000 in
theorem zt_X13_carsOf_L4 {p : Program} {l : Launch} {e : Env} {R : Room} {s : State} {m : MethodId} {args : Array Value} {below : List Frame} {meth : Method} {c : Code} {V : zm_V} {mc ms d rc rs : Nat} (hX : zm_X p R s m args meth c RX13 "carsOf" cX13_carsOf 4 zk_E V mc ms) (hr : meth.sig.returnType = (some .int)) (hR : R.frames = d ∧ R.locals = 64 * d) (hd : 2 ≤ d) {N : Nat} {res : (Int32 × zm_S) ⊕ ((Int32) × zm_S)} {out : (Int32 × zm_S)} (a0 : Nat) (i1 : Int32) (hf : ∀ o, res = .inl o → o = out) (hk : ∀ (x2 : Int32) (S' : zm_S), res = .inr (x2, S') → zw p l e R s m args below meth c (vx_MQ below (zm_Qc zk_E V (zo_i out)) (zm_XC zk_E V zo_x) args s mc ms (fun q => V.2.2.2.1 ≤ q)) 4 zk_E V mc ms 63 [(2, .int x2)] [] S' rc rs) : ∀ (n : Nat) (i2 : Int32) (i3 : Int32) (S : zm_S), zf_X13_carsOf_L4 N n a0 i1 i2 i3 S = some res → zw p l e R s m args below meth c (vx_MQ below (zm_Qc zk_E V (zo_i out)) (zm_XC zk_E V zo_x) args s mc ms (fun q => V.2.2.2.1 ≤ q)) 4 zk_E V mc ms 4 [(0, .ref a0), (1, .int i1), (2, .int i2), (3, .int i3)] [] S rc rs := by
  intro n
  induction n with
  | zero => intro i2 i3 S h; cases h
  | succ n ih =>
    intro i2 i3 S h
    rw [zf_X13_carsOf_L4] at h
    refine zw_iload_n hX dX13_carsOf_4 rfl ?_
    refine zw_aload_n hX dX13_carsOf_5 rfl ?_
    obtain ⟨v1, g, h⟩ := zb_some h
    refine zw_geti hX zl_X13_70 dX13_carsOf_6 g ?_
    refine zw_icmp_ge (tgt := 63) hX dX13_carsOf_9 (by decide) (fun c9 => ?_) (fun c9 => ?_)
    · rw [if_pos c9] at h
      refine zw_sub (lv' := [(2, .int i2)]) (List.forall_mem_cons.mpr ⟨rfl, zs_nil⟩) ?_
      exact hk _ _ (Option.some.inj h).symm
    · rw [if_neg c9] at h
      refine zw_aload_n hX dX13_carsOf_12 rfl ?_
      obtain ⟨v2, g, h⟩ := zb_some h
      refine zw_geti hX zl_X13_80 dX13_carsOf_13 g ?_
      refine zw_if_ne (tgt := 63) hX dX13_carsOf_16 (by decide) (fun c16 => ?_) (fun c16 => ?_)
      · rw [if_neg c16] at h
        refine zw_sub (lv' := [(2, .int i2)]) (List.forall_mem_cons.mpr ⟨rfl, zs_nil⟩) ?_
        exact hk _ _ (Option.some.inj h).symm
      · rw [if_pos c16] at h
        refine zw_iload_n hX dX13_carsOf_19 rfl ?_
        refine zw_aload_n hX dX13_carsOf_20 rfl ?_
        refine zw_iload_n hX dX13_carsOf_21 rfl ?_
        refine zw_iload_n hX dX13_carsOf_22 rfl ?_
        obtain ⟨_, gi, h⟩ := zb_some h
        obtain ⟨r5, g, h⟩ := zb_some h
        refine zc_Vi (as := [.int i3, .int i1]) hX gi (zt_X13_reaches (d := d - 1) (by omega) g) zl_X13_76 rfl dX13_carsOf_23 ⟨rfl, rfl, Nat.le_of_ble_eq_true rfl⟩ ⟨by omega, by omega⟩ ?_
        refine zw_if_eq (tgt := 54) hX dX13_carsOf_26 (by decide) (fun c26 => ?_) (fun c26 => ?_)
        · rw [if_pos c26] at h
          refine zw_sub (lv' := [(0, .ref a0), (1, .int i1), (3, .int i3)]) (List.forall_mem_cons.mpr ⟨rfl, (List.forall_mem_cons.mpr ⟨rfl, (List.forall_mem_cons.mpr ⟨rfl, zs_nil⟩)⟩)⟩) ?_
          exact zt_X13_carsOf_J54 hX hr hR hd hf hk ih h
        · rw [if_neg c26] at h
          refine zw_aload_n hX dX13_carsOf_29 rfl ?_
          obtain ⟨b6, g, h⟩ := zb_some h
          refine zw_getr hX zl_X13_38 dX13_carsOf_30 g ?_
          refine zw_iload_n hX dX13_carsOf_33 rfl ?_
          obtain ⟨v7, g, h⟩ := zb_some h
          refine zw_xi hX dX13_carsOf_34 g ?_
          refine zw_if_lt (tgt := 48) hX dX13_carsOf_35 (by decide) (fun c35 => ?_) (fun c35 => ?_)
          · rw [if_pos c35] at h
            refine zw_sub (lv' := [(0, .ref a0), (1, .int i1), (3, .int i3)]) (List.forall_mem_cons.mpr ⟨rfl, (List.forall_mem_cons.mpr ⟨rfl, (List.forall_mem_cons.mpr ⟨rfl, zs_nil⟩)⟩)⟩) ?_
            exact zt_X13_carsOf_J48 hX hr hR hd hf hk ih h
          · rw [if_neg c35] at h
            refine zw_aload_n hX dX13_carsOf_38 rfl ?_
            obtain ⟨b8, g, h⟩ := zb_some h
            refine zw_getr hX zl_X13_38 dX13_carsOf_39 g ?_
            refine zw_iload_n hX dX13_carsOf_42 rfl ?_
            obtain ⟨v9, g, h⟩ := zb_some h
            refine zw_xi hX dX13_carsOf_43 g ?_
            refine zw_iload_n hX dX13_carsOf_44 rfl ?_
            refine zw_icmp_ne (tgt := 54) hX dX13_carsOf_45 (by decide) (fun c45 => ?_) (fun c45 => ?_)
            · rw [if_neg c45] at h
              refine zw_sub (lv' := [(0, .ref a0), (1, .int i1), (3, .int i3)]) (List.forall_mem_cons.mpr ⟨rfl, (List.forall_mem_cons.mpr ⟨rfl, (List.forall_mem_cons.mpr ⟨rfl, zs_nil⟩)⟩)⟩) ?_
              exact zt_X13_carsOf_J54 hX hr hR hd hf hk ih h
            · rw [if_pos c45] at h
              refine zw_sub (lv' := [(0, .ref a0), (1, .int i1), (3, .int i3)]) (List.forall_mem_cons.mpr ⟨rfl, (List.forall_mem_cons.mpr ⟨rfl, (List.forall_mem_cons.mpr ⟨rfl, zs_nil⟩)⟩)⟩) ?_
              exact zt_X13_carsOf_J48 hX hr hR hd hf hk ih h
def zf_X13_carsOf (N : Nat) (a0 : Nat) (i1 : Int32) (S : zm_S) : Option (Int32 × zm_S) := (zf_X13_carsOf_L4 N N a0 i1 (0 : Int32) (0 : Int32) S).bind (fun r => match r with | .inl o => some o | .inr (v11, S10) => some (v11, S10))
set_option maxHeartbeats 4000000 in
set_option maxRecDepth 100000 in
theorem zt_X13_carsOf {l : Launch} {V : zm_V} {N : Nat} {S : zm_S} {out : (Int32 × zm_S)} {d : Nat} {a0 : Nat} {i1 : Int32} (hd : 2 ≤ d) (h : zf_X13_carsOf N a0 i1 S = some out) : zm_Met l zk_E V yX13_carsOf (.code yX13_carsOf cX13_carsOf 4 (some .int)) d [.ref a0, .int i1] S 0 0 (zo_i out) zo_x := by
  refine zm_of (by decide +kernel) (Nat.le_of_ble_eq_true rfl) ?_
  intro p e R s m args below meth c hRR hX hr hxt
  have hR : R.frames = d ∧ R.locals = 64 * d := by rw [hRR]; exact ⟨rfl, rfl⟩
  have hX : zm_X p R s m args meth c RX13 "carsOf" cX13_carsOf 4 zk_E V 0 0 := hX
  unfold zf_X13_carsOf at h
  refine zw_sub (lv' := [(0, .ref a0), (1, .int i1)]) (List.forall_mem_cons.mpr ⟨rfl, (List.forall_mem_cons.mpr ⟨rfl, zs_nil⟩)⟩) ?_
  refine zw_iconst (v := (0 : Int32)) hX dX13_carsOf_0 (by decide) ?_
  refine zw_istore_n hX dX13_carsOf_1 (by decide) ?_
  refine zw_iconst (v := (0 : Int32)) hX dX13_carsOf_2 (by decide) ?_
  refine zw_istore_n hX dX13_carsOf_3 (by decide) ?_
  obtain ⟨r, g, h⟩ := zb_some h
  refine zw_sub (lv' := [(0, .ref a0), (1, .int i1), (2, .int (0 : Int32)), (3, .int (0 : Int32))]) (List.forall_mem_cons.mpr ⟨rfl, (List.forall_mem_cons.mpr ⟨rfl, (List.forall_mem_cons.mpr ⟨rfl, (List.forall_mem_cons.mpr ⟨rfl, zs_nil⟩)⟩)⟩)⟩) ?_
  refine zt_X13_carsOf_L4 hX hr hR hd (res := r) (out := out) a0 i1 ?_ ?_ N _ _ _ g
  · intro o ho
    subst ho
    exact Option.some.inj h
  · intro v11 S10 hx
    subst hx
    try dsimp only at h
    refine zw_iload_n hX dX13_carsOf_63 rfl ?_
    obtain rfl := Option.some.inj h
    exact zw_iret hX hr dX13_carsOf_64 rfl ⟨rfl, rfl⟩
def zf_X13_weightOf (N : Nat) (a0 : Nat) (i1 : Int32) (S : zm_S) : Option (Int32 × zm_S) := (zg_i S a0 13 12).bind (fun v1 => (zg_r S a0 13 9).bind (fun b2 => (za_x S 0 b2 i1).bind (fun v3 => some (((1 : Int32) + ((v1 - v3) / (30 : Int32))), S))))
set_option maxHeartbeats 4000000 in
set_option maxRecDepth 100000 in
theorem zt_X13_weightOf {l : Launch} {V : zm_V} {N : Nat} {S : zm_S} {out : (Int32 × zm_S)} {d : Nat} {a0 : Nat} {i1 : Int32} (hd : 1 ≤ d) (h : zf_X13_weightOf N a0 i1 S = some out) : zm_Met l zk_E V yX13_weightOf (.code yX13_weightOf cX13_weightOf 2 (some .int)) d [.ref a0, .int i1] S 0 0 (zo_i out) zo_x := by
  refine zm_of (by decide +kernel) (Nat.le_of_ble_eq_true rfl) ?_
  intro p e R s m args below meth c hRR hX hr hxt
  have hR : R.frames = d ∧ R.locals = 64 * d := by rw [hRR]; exact ⟨rfl, rfl⟩
  have hX : zm_X p R s m args meth c RX13 "weightOf" cX13_weightOf 2 zk_E V 0 0 := hX
  unfold zf_X13_weightOf at h
  refine zw_sub (lv' := [(0, .ref a0), (1, .int i1)]) (List.forall_mem_cons.mpr ⟨rfl, (List.forall_mem_cons.mpr ⟨rfl, zs_nil⟩)⟩) ?_
  refine zw_iconst (v := (1 : Int32)) hX dX13_weightOf_0 (by decide) ?_
  refine zw_aload_n hX dX13_weightOf_1 rfl ?_
  obtain ⟨v1, g, h⟩ := zb_some h
  refine zw_geti hX zl_X13_73 dX13_weightOf_2 g ?_
  refine zw_aload_n hX dX13_weightOf_5 rfl ?_
  obtain ⟨b2, g, h⟩ := zb_some h
  refine zw_getr hX zl_X13_31 dX13_weightOf_6 g ?_
  refine zw_iload_n hX dX13_weightOf_9 rfl ?_
  obtain ⟨v3, g, h⟩ := zb_some h
  refine zw_xi hX dX13_weightOf_10 g ?_
  refine zw_isub hX dX13_weightOf_11 ?_
  refine zw_bipush (v := (30 : Int32)) hX dX13_weightOf_12 (by decide) ?_
  refine zw_idiv hX dX13_weightOf_14 (by decide) ?_
  refine zw_iadd hX dX13_weightOf_15 ?_
  obtain rfl := Option.some.inj h
  exact zw_iret hX hr dX13_weightOf_16 rfl ⟨rfl, rfl⟩
def zf_X13_choose_L7 (N : Nat) : Nat → Nat → Int32 → zm_S → Option ((Unit × zm_S) ⊕ ((Unit) × zm_S))
  | 0, _, _, _ => none
  | n + 1, a0, i1, S => (zg_i S a0 13 6).bind (fun v2 => if v2 ≤ i1 then some (.inr ((), S)) else (zg_r S a0 13 10).bind (fun b3 => (za_x S 2 b3 i1).bind (fun v4 => if v4 = 0 then zf_X13_choose_L7 N n a0 (i1 + (1 : Int32)) S else (zi S a0 13).bind (fun _ => (zf_X13_carsOf N a0 i1 S).bind (fun r7 => if r7.1 ≤ 0 then zf_X13_choose_L7 N n a0 (i1 + (1 : Int32)) r7.2 else (zg_r r7.2 a0 13 15).bind (fun b8 => (zg_i r7.2 a0 13 14).bind (fun v9 => (zs_i r7.2 b8 v9 i1).bind (fun S10 => (zg_i S10 a0 13 14).bind (fun v11 => (zp S10 a0 13 14 (.int (v11 + (1 : Int32)))).bind (fun S12 => zf_X13_choose_L7 N n a0 (i1 + (1 : Int32)) S12))))))))))
set_option maxHeartbeats 4000000 in
set_option maxRecDepth 100000 in
theorem zt_X13_choose_L7 {p : Program} {l : Launch} {e : Env} {R : Room} {s : State} {m : MethodId} {args : Array Value} {below : List Frame} {meth : Method} {c : Code} {V : zm_V} {mc ms d rc rs : Nat} (hX : zm_X p R s m args meth c RX13 "choose" cX13_choose 2 zk_E V mc ms) (hr : meth.sig.returnType = none) (hR : R.frames = d ∧ R.locals = 64 * d) (hd : 3 ≤ d) {N : Nat} {res : (Unit × zm_S) ⊕ ((Unit) × zm_S)} {out : (Unit × zm_S)} (a0 : Nat) (hf : ∀ o, res = .inl o → o = out) (hk : ∀ (S' : zm_S), res = .inr ((), S') → zw p l e R s m args below meth c (vx_MQ below (zm_Qc zk_E V (zo_v out)) (zm_XC zk_E V zo_x) args s mc ms (fun q => V.2.2.2.1 ≤ q)) 2 zk_E V mc ms 58 [] [] S' rc rs) : ∀ (n : Nat) (i1 : Int32) (S : zm_S), zf_X13_choose_L7 N n a0 i1 S = some res → zw p l e R s m args below meth c (vx_MQ below (zm_Qc zk_E V (zo_v out)) (zm_XC zk_E V zo_x) args s mc ms (fun q => V.2.2.2.1 ≤ q)) 2 zk_E V mc ms 7 [(0, .ref a0), (1, .int i1)] [] S rc rs := by
  intro n
  induction n with
  | zero => intro i1 S h; cases h
  | succ n ih =>
    intro i1 S h
    rw [zf_X13_choose_L7] at h
    refine zw_iload_n hX dX13_choose_7 rfl ?_
    refine zw_aload_n hX dX13_choose_8 rfl ?_
    obtain ⟨v2, g, h⟩ := zb_some h
    refine zw_geti hX zl_X13_66 dX13_choose_9 g ?_
    refine zw_icmp_ge (tgt := 58) hX dX13_choose_12 (by decide) (fun c12 => ?_) (fun c12 => ?_)
    · rw [if_pos c12] at h
      refine zw_sub (lv' := []) zs_nil ?_
      exact hk  _ (Option.some.inj h).symm
    · rw [if_neg c12] at h
      refine zw_aload_n hX dX13_choose_15 rfl ?_
      obtain ⟨b3, g, h⟩ := zb_some h
      refine zw_getr hX zl_X13_34 dX13_choose_16 g ?_
      refine zw_iload_n hX dX13_choose_19 rfl ?_
      obtain ⟨v4, g, h⟩ := zb_some h
      refine zw_xz hX dX13_choose_20 g ?_
      refine zw_if_eq (tgt := 52) hX dX13_choose_21 (by decide) (fun c21 => ?_) (fun c21 => ?_)
      · rw [if_pos c21] at h
        refine zw_iinc (v := (i1 + (1 : Int32))) hX dX13_choose_52 rfl rfl (by decide) ?_
        refine zw_goto (tgt := 7) hX dX13_choose_55 (by decide) ?_
        refine zw_sub (lv' := [(0, .ref a0), (1, .int (i1 + (1 : Int32)))]) (List.forall_mem_cons.mpr ⟨rfl, (List.forall_mem_cons.mpr ⟨rfl, zs_nil⟩)⟩) ?_
        exact ih _ _ h
      · rw [if_neg c21] at h
        refine zw_aload_n hX dX13_choose_24 rfl ?_
        refine zw_iload_n hX dX13_choose_25 rfl ?_
        obtain ⟨_, gi, h⟩ := zb_some h
        obtain ⟨r7, g, h⟩ := zb_some h
        refine zc_Vi (as := [.int i1]) hX gi (zt_X13_carsOf (d := d - 1) (by omega) g) zl_X13_87 rfl dX13_choose_26 ⟨rfl, rfl, Nat.le_of_ble_eq_true rfl⟩ ⟨by omega, by omega⟩ ?_
        refine zw_if_le (tgt := 52) hX dX13_choose_29 (by decide) (fun c29 => ?_) (fun c29 => ?_)
        · rw [if_pos c29] at h
          refine zw_iinc (v := (i1 + (1 : Int32))) hX dX13_choose_52 rfl rfl (by decide) ?_
          refine zw_goto (tgt := 7) hX dX13_choose_55 (by decide) ?_
          refine zw_sub (lv' := [(0, .ref a0), (1, .int (i1 + (1 : Int32)))]) (List.forall_mem_cons.mpr ⟨rfl, (List.forall_mem_cons.mpr ⟨rfl, zs_nil⟩)⟩) ?_
          exact ih _ _ h
        · rw [if_neg c29] at h
          refine zw_aload_n hX dX13_choose_32 rfl ?_
          obtain ⟨b8, g, h⟩ := zb_some h
          refine zw_getr hX zl_X13_41 dX13_choose_33 g ?_
          refine zw_aload_n hX dX13_choose_36 rfl ?_
          obtain ⟨v9, g, h⟩ := zb_some h
          refine zw_geti hX zl_X13_84 dX13_choose_37 g ?_
          refine zw_iload_n hX dX13_choose_40 rfl ?_
          obtain ⟨S10, g, h⟩ := zb_some h
          refine zw_si hX dX13_choose_41 g ?_
          refine zw_aload_n hX dX13_choose_42 rfl ?_
          refine zw_dup hX dX13_choose_43 rfl ?_
          obtain ⟨v11, g, h⟩ := zb_some h
          refine zw_geti hX zl_X13_84 dX13_choose_44 g ?_
          refine zw_iconst (v := (1 : Int32)) hX dX13_choose_47 (by decide) ?_
          refine zw_iadd hX dX13_choose_48 ?_
          obtain ⟨S12, g, h⟩ := zb_some h
          refine zw_putv hX zl_X13_84 zt_13_14 dX13_choose_49 rfl rfl g ?_
          refine zw_iinc (v := (i1 + (1 : Int32))) hX dX13_choose_52 rfl rfl (by decide) ?_
          refine zw_goto (tgt := 7) hX dX13_choose_55 (by decide) ?_
          refine zw_sub (lv' := [(0, .ref a0), (1, .int (i1 + (1 : Int32)))]) (List.forall_mem_cons.mpr ⟨rfl, (List.forall_mem_cons.mpr ⟨rfl, zs_nil⟩)⟩) ?_
          exact ih _ _ h
def zf_X13_choose (N : Nat) (a0 : Nat) (S : zm_S) : Option (Unit × zm_S) := (zp S a0 13 14 (.int (0 : Int32))).bind (fun S1 => (zf_X13_choose_L7 N N a0 (0 : Int32) S1).bind (fun r => match r with | .inl o => some o | .inr (_, S13) => some ((), S13)))
set_option maxHeartbeats 4000000 in
set_option maxRecDepth 100000 in
theorem zt_X13_choose {l : Launch} {V : zm_V} {N : Nat} {S : zm_S} {out : (Unit × zm_S)} {d : Nat} {a0 : Nat} (hd : 3 ≤ d) (h : zf_X13_choose N a0 S = some out) : zm_Met l zk_E V yX13_choose (.code yX13_choose cX13_choose 2 none) d [.ref a0] S 0 0 (zo_v out) zo_x := by
  refine zm_of (by decide +kernel) (Nat.le_of_ble_eq_true rfl) ?_
  intro p e R s m args below meth c hRR hX hr hxt
  have hR : R.frames = d ∧ R.locals = 64 * d := by rw [hRR]; exact ⟨rfl, rfl⟩
  have hX : zm_X p R s m args meth c RX13 "choose" cX13_choose 2 zk_E V 0 0 := hX
  unfold zf_X13_choose at h
  refine zw_sub (lv' := [(0, .ref a0)]) (List.forall_mem_cons.mpr ⟨rfl, zs_nil⟩) ?_
  refine zw_aload_n hX dX13_choose_0 rfl ?_
  refine zw_iconst (v := (0 : Int32)) hX dX13_choose_1 (by decide) ?_
  obtain ⟨S1, g, h⟩ := zb_some h
  refine zw_putv hX zl_X13_84 zt_13_14 dX13_choose_2 rfl rfl g ?_
  refine zw_iconst (v := (0 : Int32)) hX dX13_choose_5 (by decide) ?_
  refine zw_istore_n hX dX13_choose_6 (by decide) ?_
  obtain ⟨r, g, h⟩ := zb_some h
  refine zw_sub (lv' := [(0, .ref a0), (1, .int (0 : Int32))]) (List.forall_mem_cons.mpr ⟨rfl, (List.forall_mem_cons.mpr ⟨rfl, zs_nil⟩)⟩) ?_
  refine zt_X13_choose_L7 hX hr hR hd (res := r) (out := out) a0 ?_ ?_ N _ _ g
  · intro o ho
    subst ho
    exact Option.some.inj h
  · intro  S13 hx
    subst hx
    try dsimp only at h
    obtain rfl := Option.some.inj h
    exact zw_vret hX hr dX13_choose_58 ⟨rfl, rfl⟩
def zf_X13_way (N : Nat) (a0 : Nat) (i1 : Int32) (i2 : Int32) (i3 : Int32) (S : zm_S) : Option (Int32 × zm_S) := (zg_r S a0 13 1).bind (fun b1 => (za_x S 0 b1 i1).bind (fun v2 => if i3 ≤ i2 then some ((v2 * (i2 - i3)), S) else some ((v2 * (i3 - i2)), S)))
set_option maxHeartbeats 4000000 in
set_option maxRecDepth 100000 in
theorem zt_X13_way {l : Launch} {V : zm_V} {N : Nat} {S : zm_S} {out : (Int32 × zm_S)} {d : Nat} {a0 : Nat} {i1 : Int32} {i2 : Int32} {i3 : Int32} (hd : 1 ≤ d) (h : zf_X13_way N a0 i1 i2 i3 S = some out) : zm_Met l zk_E V yX13_way (.code yX13_way cX13_way 4 (some .int)) d [.ref a0, .int i1, .int i2, .int i3] S 0 0 (zo_i out) zo_x := by
  refine zm_of (by decide +kernel) (Nat.le_of_ble_eq_true rfl) ?_
  intro p e R s m args below meth c hRR hX hr hxt
  have hR : R.frames = d ∧ R.locals = 64 * d := by rw [hRR]; exact ⟨rfl, rfl⟩
  have hX : zm_X p R s m args meth c RX13 "way" cX13_way 4 zk_E V 0 0 := hX
  unfold zf_X13_way at h
  refine zw_sub (lv' := [(0, .ref a0), (1, .int i1), (2, .int i2), (3, .int i3)]) (List.forall_mem_cons.mpr ⟨rfl, (List.forall_mem_cons.mpr ⟨rfl, (List.forall_mem_cons.mpr ⟨rfl, (List.forall_mem_cons.mpr ⟨rfl, zs_nil⟩)⟩)⟩)⟩) ?_
  refine zw_aload_n hX dX13_way_0 rfl ?_
  obtain ⟨b1, g, h⟩ := zb_some h
  refine zw_getr hX zl_X13_7 dX13_way_1 g ?_
  refine zw_iload_n hX dX13_way_4 rfl ?_
  obtain ⟨v2, g, h⟩ := zb_some h
  refine zw_xi hX dX13_way_5 g ?_
  refine zw_iload_n hX dX13_way_6 rfl ?_
  refine zw_iload_n hX dX13_way_7 rfl ?_
  refine zw_icmp_ge (tgt := 17) hX dX13_way_8 (by decide) (fun c8 => ?_) (fun c8 => ?_)
  · rw [if_pos c8] at h
    refine zw_iload_n hX dX13_way_17 rfl ?_
    refine zw_iload_n hX dX13_way_18 rfl ?_
    refine zw_isub hX dX13_way_19 ?_
    refine zw_imul hX dX13_way_20 ?_
    obtain rfl := Option.some.inj h
    exact zw_iret hX hr dX13_way_21 rfl ⟨rfl, rfl⟩
  · rw [if_neg c8] at h
    refine zw_iload_n hX dX13_way_11 rfl ?_
    refine zw_iload_n hX dX13_way_12 rfl ?_
    refine zw_isub hX dX13_way_13 ?_
    refine zw_goto (tgt := 20) hX dX13_way_14 (by decide) ?_
    refine zw_imul hX dX13_way_20 ?_
    obtain rfl := Option.some.inj h
    exact zw_iret hX hr dX13_way_21 rfl ⟨rfl, rfl⟩
def zf_X13_begins (N : Nat) (a0 : Nat) (i1 : Int32) (S : zm_S) : Option (Int32 × zm_S) := (zg_r S a0 13 3).bind (fun b1 => (za_x S 0 b1 i1).bind (fun v2 => (zg_i S a0 13 12).bind (fun v3 => if v2 ≤ v3 then some ((0 : Int32), S) else (zg_r S a0 13 3).bind (fun b4 => (za_x S 0 b4 i1).bind (fun v5 => (zg_i S a0 13 12).bind (fun v6 => some ((v5 - v6), S)))))))
set_option maxHeartbeats 4000000 in
set_option maxRecDepth 100000 in
theorem zt_X13_begins {l : Launch} {V : zm_V} {N : Nat} {S : zm_S} {out : (Int32 × zm_S)} {d : Nat} {a0 : Nat} {i1 : Int32} (hd : 1 ≤ d) (h : zf_X13_begins N a0 i1 S = some out) : zm_Met l zk_E V yX13_begins (.code yX13_begins cX13_begins 2 (some .int)) d [.ref a0, .int i1] S 0 0 (zo_i out) zo_x := by
  refine zm_of (by decide +kernel) (Nat.le_of_ble_eq_true rfl) ?_
  intro p e R s m args below meth c hRR hX hr hxt
  have hR : R.frames = d ∧ R.locals = 64 * d := by rw [hRR]; exact ⟨rfl, rfl⟩
  have hX : zm_X p R s m args meth c RX13 "begins" cX13_begins 2 zk_E V 0 0 := hX
  unfold zf_X13_begins at h
  refine zw_sub (lv' := [(0, .ref a0), (1, .int i1)]) (List.forall_mem_cons.mpr ⟨rfl, (List.forall_mem_cons.mpr ⟨rfl, zs_nil⟩)⟩) ?_
  refine zw_aload_n hX dX13_begins_0 rfl ?_
  obtain ⟨b1, g, h⟩ := zb_some h
  refine zw_getr hX zl_X13_16 dX13_begins_1 g ?_
  refine zw_iload_n hX dX13_begins_4 rfl ?_
  obtain ⟨v2, g, h⟩ := zb_some h
  refine zw_xi hX dX13_begins_5 g ?_
  refine zw_aload_n hX dX13_begins_6 rfl ?_
  obtain ⟨v3, g, h⟩ := zb_some h
  refine zw_geti hX zl_X13_73 dX13_begins_7 g ?_
  refine zw_icmp_le (tgt := 27) hX dX13_begins_10 (by decide) (fun c10 => ?_) (fun c10 => ?_)
  · rw [if_pos c10] at h
    refine zw_iconst (v := (0 : Int32)) hX dX13_begins_27 (by decide) ?_
    obtain rfl := Option.some.inj h
    exact zw_iret hX hr dX13_begins_28 rfl ⟨rfl, rfl⟩
  · rw [if_neg c10] at h
    refine zw_aload_n hX dX13_begins_13 rfl ?_
    obtain ⟨b4, g, h⟩ := zb_some h
    refine zw_getr hX zl_X13_16 dX13_begins_14 g ?_
    refine zw_iload_n hX dX13_begins_17 rfl ?_
    obtain ⟨v5, g, h⟩ := zb_some h
    refine zw_xi hX dX13_begins_18 g ?_
    refine zw_aload_n hX dX13_begins_19 rfl ?_
    obtain ⟨v6, g, h⟩ := zb_some h
    refine zw_geti hX zl_X13_73 dX13_begins_20 g ?_
    refine zw_isub hX dX13_begins_23 ?_
    refine zw_goto (tgt := 28) hX dX13_begins_24 (by decide) ?_
    obtain rfl := Option.some.inj h
    exact zw_iret hX hr dX13_begins_28 rfl ⟨rfl, rfl⟩
def zf_X13_costOf_L20 (N : Nat) : Nat → Nat → Int32 → Int64 → Int32 → Int32 → Int32 → zm_S → Option ((Int64 × zm_S) ⊕ ((Int64) × zm_S))
  | 0, _, _, _, _, _, _, _ => none
  | n + 1, a0, i1, j2, i4, i5, i6, S => (zg_i S a0 13 16).bind (fun v6 => if v6 ≤ i6 then some (.inr (j2, S)) else (zg_r S a0 13 17).bind (fun b7 => (za_x S 0 b7 i6).bind (fun v8 => (zg_r S a0 13 7).bind (fun b9 => (za_x S 0 b9 v8).bind (fun v10 => (zi S a0 13).bind (fun _ => (zf_X13_way N a0 i1 i5 v10 S).bind (fun r13 => (zi r13.2 a0 13).bind (fun _ => (zf_X13_weightOf N a0 v8 r13.2).bind (fun r16 => (zg_r r16.2 a0 13 7).bind (fun b17 => (za_x r16.2 0 b17 v8).bind (fun v18 => (zg_r r16.2 a0 13 8).bind (fun b19 => (za_x r16.2 0 b19 v8).bind (fun v20 => (zi r16.2 a0 13).bind (fun _ => (zf_X13_way N a0 i1 v18 v20 r16.2).bind (fun r23 => (zg_r r23.2 a0 13 8).bind (fun b24 => (za_x r23.2 0 b24 v8).bind (fun v25 => zf_X13_costOf_L20 N n a0 i1 ((j2 + ((r16.1).toInt64 * ((i4 + r13.1)).toInt64)) + (((i4 + r13.1) + ((3 : Int32) + r23.1))).toInt64) (((i4 + r13.1) + ((3 : Int32) + r23.1)) + (3 : Int32)) v25 (i6 + (1 : Int32)) r23.2)))))))))))))))))
set_option maxHeartbeats 4000000 in
set_option maxRecDepth 100000 in
theorem zt_X13_costOf_L20 {p : Program} {l : Launch} {e : Env} {R : Room} {s : State} {m : MethodId} {args : Array Value} {below : List Frame} {meth : Method} {c : Code} {V : zm_V} {mc ms d rc rs : Nat} (hX : zm_X p R s m args meth c RX13 "costOf" cX13_costOf 8 zk_E V mc ms) (hr : meth.sig.returnType = (some .long)) (hR : R.frames = d ∧ R.locals = 64 * d) (hd : 2 ≤ d) {N : Nat} {res : (Int64 × zm_S) ⊕ ((Int64) × zm_S)} {out : (Int64 × zm_S)} (a0 : Nat) (i1 : Int32) (hf : ∀ o, res = .inl o → o = out) (hk : ∀ (x2 : Int64) (S' : zm_S), res = .inr (x2, S') → zw p l e R s m args below meth c (vx_MQ below (zm_Qc zk_E V (zo_l out)) (zm_XC zk_E V zo_x) args s mc ms (fun q => V.2.2.2.1 ≤ q)) 8 zk_E V mc ms 121 [(2, .long x2)] [] S' rc rs) : ∀ (n : Nat) (j2 : Int64) (i4 : Int32) (i5 : Int32) (i6 : Int32) (S : zm_S), zf_X13_costOf_L20 N n a0 i1 j2 i4 i5 i6 S = some res → zw p l e R s m args below meth c (vx_MQ below (zm_Qc zk_E V (zo_l out)) (zm_XC zk_E V zo_x) args s mc ms (fun q => V.2.2.2.1 ≤ q)) 8 zk_E V mc ms 20 [(0, .ref a0), (1, .int i1), (2, .long j2), (4, .int i4), (5, .int i5), (6, .int i6)] [] S rc rs := by
  intro n
  induction n with
  | zero => intro j2 i4 i5 i6 S h; cases h
  | succ n ih =>
    intro j2 i4 i5 i6 S h
    rw [zf_X13_costOf_L20] at h
    refine zw_iload hX dX13_costOf_20 rfl ?_
    refine zw_aload_n hX dX13_costOf_22 rfl ?_
    obtain ⟨v6, g, h⟩ := zb_some h
    refine zw_geti hX zl_X13_94 dX13_costOf_23 g ?_
    refine zw_icmp_ge (tgt := 121) hX dX13_costOf_26 (by decide) (fun c26 => ?_) (fun c26 => ?_)
    · rw [if_pos c26] at h
      refine zw_sub (lv' := [(2, .long j2)]) (List.forall_mem_cons.mpr ⟨rfl, zs_nil⟩) ?_
      exact hk _ _ (Option.some.inj h).symm
    · rw [if_neg c26] at h
      refine zw_aload_n hX dX13_costOf_29 rfl ?_
      obtain ⟨b7, g, h⟩ := zb_some h
      refine zw_getr hX zl_X13_44 dX13_costOf_30 g ?_
      refine zw_iload hX dX13_costOf_33 rfl ?_
      obtain ⟨v8, g, h⟩ := zb_some h
      refine zw_xi hX dX13_costOf_35 g ?_
      refine zw_istore hX dX13_costOf_36 (by decide) ?_
      refine zw_iload hX dX13_costOf_38 rfl ?_
      refine zw_aload_n hX dX13_costOf_40 rfl ?_
      refine zw_iload_n hX dX13_costOf_41 rfl ?_
      refine zw_iload hX dX13_costOf_42 rfl ?_
      refine zw_aload_n hX dX13_costOf_44 rfl ?_
      obtain ⟨b9, g, h⟩ := zb_some h
      refine zw_getr hX zl_X13_25 dX13_costOf_45 g ?_
      refine zw_iload hX dX13_costOf_48 rfl ?_
      obtain ⟨v10, g, h⟩ := zb_some h
      refine zw_xi hX dX13_costOf_50 g ?_
      obtain ⟨_, gi, h⟩ := zb_some h
      obtain ⟨r13, g, h⟩ := zb_some h
      refine zc_Vi (as := [.int i1, .int i5, .int v10]) hX gi (zt_X13_way (d := d - 1) (by omega) g) zl_X13_97 rfl dX13_costOf_51 ⟨rfl, rfl, Nat.le_of_ble_eq_true rfl⟩ ⟨by omega, by omega⟩ ?_
      refine zw_iadd hX dX13_costOf_54 ?_
      refine zw_istore hX dX13_costOf_55 (by decide) ?_
      refine zw_lload_n hX dX13_costOf_57 rfl ?_
      refine zw_aload_n hX dX13_costOf_58 rfl ?_
      refine zw_iload hX dX13_costOf_59 rfl ?_
      obtain ⟨_, gi, h⟩ := zb_some h
      obtain ⟨r16, g, h⟩ := zb_some h
      refine zc_Vi (as := [.int v8]) hX gi (zt_X13_weightOf (d := d - 1) (by omega) g) zl_X13_101 rfl dX13_costOf_61 ⟨rfl, rfl, Nat.le_of_ble_eq_true rfl⟩ ⟨by omega, by omega⟩ ?_
      refine zw_i2l hX dX13_costOf_64 ?_
      refine zw_iload hX dX13_costOf_65 rfl ?_
      refine zw_i2l hX dX13_costOf_67 ?_
      refine zw_lmul hX dX13_costOf_68 ?_
      refine zw_ladd hX dX13_costOf_69 ?_
      refine zw_lstore_n hX dX13_costOf_70 (by decide) ?_
      refine zw_iload hX dX13_costOf_71 rfl ?_
      refine zw_iconst (v := (3 : Int32)) hX dX13_costOf_73 (by decide) ?_
      refine zw_aload_n hX dX13_costOf_74 rfl ?_
      refine zw_iload_n hX dX13_costOf_75 rfl ?_
      refine zw_aload_n hX dX13_costOf_76 rfl ?_
      obtain ⟨b17, g, h⟩ := zb_some h
      refine zw_getr hX zl_X13_25 dX13_costOf_77 g ?_
      refine zw_iload hX dX13_costOf_80 rfl ?_
      obtain ⟨v18, g, h⟩ := zb_some h
      refine zw_xi hX dX13_costOf_82 g ?_
      refine zw_aload_n hX dX13_costOf_83 rfl ?_
      obtain ⟨b19, g, h⟩ := zb_some h
      refine zw_getr hX zl_X13_28 dX13_costOf_84 g ?_
      refine zw_iload hX dX13_costOf_87 rfl ?_
      obtain ⟨v20, g, h⟩ := zb_some h
      refine zw_xi hX dX13_costOf_89 g ?_
      obtain ⟨_, gi, h⟩ := zb_some h
      obtain ⟨r23, g, h⟩ := zb_some h
      refine zc_Vi (as := [.int i1, .int v18, .int v20]) hX gi (zt_X13_way (d := d - 1) (by omega) g) zl_X13_97 rfl dX13_costOf_90 ⟨rfl, rfl, Nat.le_of_ble_eq_true rfl⟩ ⟨by omega, by omega⟩ ?_
      refine zw_iadd hX dX13_costOf_93 ?_
      refine zw_iadd hX dX13_costOf_94 ?_
      refine zw_istore hX dX13_costOf_95 (by decide) ?_
      refine zw_lload_n hX dX13_costOf_97 rfl ?_
      refine zw_iload hX dX13_costOf_98 rfl ?_
      refine zw_i2l hX dX13_costOf_100 ?_
      refine zw_ladd hX dX13_costOf_101 ?_
      refine zw_lstore_n hX dX13_costOf_102 (by decide) ?_
      refine zw_iinc (v := (((i4 + r13.1) + ((3 : Int32) + r23.1)) + (3 : Int32))) hX dX13_costOf_103 rfl rfl (by decide) ?_
      refine zw_aload_n hX dX13_costOf_106 rfl ?_
      obtain ⟨b24, g, h⟩ := zb_some h
      refine zw_getr hX zl_X13_28 dX13_costOf_107 g ?_
      refine zw_iload hX dX13_costOf_110 rfl ?_
      obtain ⟨v25, g, h⟩ := zb_some h
      refine zw_xi hX dX13_costOf_112 g ?_
      refine zw_istore hX dX13_costOf_113 (by decide) ?_
      refine zw_iinc (v := (i6 + (1 : Int32))) hX dX13_costOf_115 rfl rfl (by decide) ?_
      refine zw_goto (tgt := 20) hX dX13_costOf_118 (by decide) ?_
      refine zw_sub (lv' := [(0, .ref a0), (1, .int i1), (2, .long ((j2 + ((r16.1).toInt64 * ((i4 + r13.1)).toInt64)) + (((i4 + r13.1) + ((3 : Int32) + r23.1))).toInt64)), (4, .int (((i4 + r13.1) + ((3 : Int32) + r23.1)) + (3 : Int32))), (5, .int v25), (6, .int (i6 + (1 : Int32)))]) (List.forall_mem_cons.mpr ⟨rfl, (List.forall_mem_cons.mpr ⟨rfl, (List.forall_mem_cons.mpr ⟨rfl, (List.forall_mem_cons.mpr ⟨rfl, (List.forall_mem_cons.mpr ⟨rfl, (List.forall_mem_cons.mpr ⟨rfl, zs_nil⟩)⟩)⟩)⟩)⟩)⟩) ?_
      exact ih _ _ _ _ _ h
def zf_X13_costOf (N : Nat) (a0 : Nat) (i1 : Int32) (S : zm_S) : Option (Int64 × zm_S) := (zi S a0 13).bind (fun _ => (zf_X13_begins N a0 i1 S).bind (fun r3 => (zg_r r3.2 a0 13 2).bind (fun b4 => (za_x r3.2 0 b4 i1).bind (fun v5 => (zf_X13_costOf_L20 N N a0 i1 (0 : Int64) r3.1 v5 (0 : Int32) r3.2).bind (fun r => match r with | .inl o => some o | .inr (w27, S26) => some (w27, S26))))))
set_option maxHeartbeats 4000000 in
set_option maxRecDepth 100000 in
theorem zt_X13_costOf {l : Launch} {V : zm_V} {N : Nat} {S : zm_S} {out : (Int64 × zm_S)} {d : Nat} {a0 : Nat} {i1 : Int32} (hd : 2 ≤ d) (h : zf_X13_costOf N a0 i1 S = some out) : zm_Met l zk_E V yX13_costOf (.code yX13_costOf cX13_costOf 8 (some .long)) d [.ref a0, .int i1] S 0 0 (zo_l out) zo_x := by
  refine zm_of (by decide +kernel) (Nat.le_of_ble_eq_true rfl) ?_
  intro p e R s m args below meth c hRR hX hr hxt
  have hR : R.frames = d ∧ R.locals = 64 * d := by rw [hRR]; exact ⟨rfl, rfl⟩
  have hX : zm_X p R s m args meth c RX13 "costOf" cX13_costOf 8 zk_E V 0 0 := hX
  unfold zf_X13_costOf at h
  refine zw_sub (lv' := [(0, .ref a0), (1, .int i1)]) (List.forall_mem_cons.mpr ⟨rfl, (List.forall_mem_cons.mpr ⟨rfl, zs_nil⟩)⟩) ?_
  refine zw_lconst (v := (0 : Int64)) hX dX13_costOf_0 (by decide) ?_
  refine zw_lstore_n hX dX13_costOf_1 (by decide) ?_
  refine zw_aload_n hX dX13_costOf_2 rfl ?_
  refine zw_iload_n hX dX13_costOf_3 rfl ?_
  obtain ⟨_, gi, h⟩ := zb_some h
  obtain ⟨r3, g, h⟩ := zb_some h
  refine zc_Vi (as := [.int i1]) hX gi (zt_X13_begins (d := d - 1) (by omega) g) zl_X13_91 rfl dX13_costOf_4 ⟨rfl, rfl, Nat.le_of_ble_eq_true rfl⟩ ⟨by omega, by omega⟩ ?_
  refine zw_istore hX dX13_costOf_7 (by decide) ?_
  refine zw_aload_n hX dX13_costOf_9 rfl ?_
  obtain ⟨b4, g, h⟩ := zb_some h
  refine zw_getr hX zl_X13_13 dX13_costOf_10 g ?_
  refine zw_iload_n hX dX13_costOf_13 rfl ?_
  obtain ⟨v5, g, h⟩ := zb_some h
  refine zw_xi hX dX13_costOf_14 g ?_
  refine zw_istore hX dX13_costOf_15 (by decide) ?_
  refine zw_iconst (v := (0 : Int32)) hX dX13_costOf_17 (by decide) ?_
  refine zw_istore hX dX13_costOf_18 (by decide) ?_
  obtain ⟨r, g, h⟩ := zb_some h
  refine zw_sub (lv' := [(0, .ref a0), (1, .int i1), (2, .long (0 : Int64)), (4, .int r3.1), (5, .int v5), (6, .int (0 : Int32))]) (List.forall_mem_cons.mpr ⟨rfl, (List.forall_mem_cons.mpr ⟨rfl, (List.forall_mem_cons.mpr ⟨rfl, (List.forall_mem_cons.mpr ⟨rfl, (List.forall_mem_cons.mpr ⟨rfl, (List.forall_mem_cons.mpr ⟨rfl, zs_nil⟩)⟩)⟩)⟩)⟩)⟩) ?_
  refine zt_X13_costOf_L20 hX hr hR hd (res := r) (out := out) a0 i1 ?_ ?_ N _ _ _ _ _ g
  · intro o ho
    subst ho
    exact Option.some.inj h
  · intro w27 S26 hx
    subst hx
    try dsimp only at h
    refine zw_lload_n hX dX13_costOf_121 rfl ?_
    obtain rfl := Option.some.inj h
    exact zw_lret hX hr dX13_costOf_122 ⟨rfl, rfl⟩
def zf_X13_nextRow_L7 (N : Nat) : Nat → Nat → Int32 → zm_S → Option ((Int32 × zm_S) ⊕ ((Int32) × zm_S))
  | 0, _, _, _ => none
  | n + 1, a0, i1, S => if i1 < 0 then some (.inr (i1, S)) else (zg_r S a0 13 17).bind (fun b2 => (za_x S 0 b2 i1).bind (fun v3 => (zg_r S a0 13 17).bind (fun b4 => (za_x S 0 b4 (i1 + (1 : Int32))).bind (fun v5 => if v3 ≤ v5 then some (.inr (i1, S)) else zf_X13_nextRow_L7 N n a0 (i1 + (-1 : Int32)) S))))
set_option maxHeartbeats 4000000 in
set_option maxRecDepth 100000 in
theorem zt_X13_nextRow_L7 {p : Program} {l : Launch} {e : Env} {R : Room} {s : State} {m : MethodId} {args : Array Value} {below : List Frame} {meth : Method} {c : Code} {V : zm_V} {mc ms d rc rs : Nat} (hX : zm_X p R s m args meth c RX13 "nextRow" cX13_nextRow 6 zk_E V mc ms) (hr : meth.sig.returnType = (some .boolean)) (hR : R.frames = d ∧ R.locals = 64 * d) (hd : 1 ≤ d) {N : Nat} {res : (Int32 × zm_S) ⊕ ((Int32) × zm_S)} {out : (Int32 × zm_S)} (a0 : Nat) (hf : ∀ o, res = .inl o → o = out) (hk : ∀ (x1 : Int32) (S' : zm_S), res = .inr (x1, S') → zw p l e R s m args below meth c (vx_MQ below (zm_Qc zk_E V (zo_i out)) (zm_XC zk_E V zo_x) args s mc ms (fun q => V.2.2.2.1 ≤ q)) 6 zk_E V mc ms 34 [(0, .ref a0), (1, .int x1)] [] S' rc rs) : ∀ (n : Nat) (i1 : Int32) (S : zm_S), zf_X13_nextRow_L7 N n a0 i1 S = some res → zw p l e R s m args below meth c (vx_MQ below (zm_Qc zk_E V (zo_i out)) (zm_XC zk_E V zo_x) args s mc ms (fun q => V.2.2.2.1 ≤ q)) 6 zk_E V mc ms 7 [(0, .ref a0), (1, .int i1)] [] S rc rs := by
  intro n
  induction n with
  | zero => intro i1 S h; cases h
  | succ n ih =>
    intro i1 S h
    rw [zf_X13_nextRow_L7] at h
    refine zw_iload_n hX dX13_nextRow_7 rfl ?_
    refine zw_if_lt (tgt := 34) hX dX13_nextRow_8 (by decide) (fun c8 => ?_) (fun c8 => ?_)
    · rw [if_pos c8] at h
      refine zw_sub (lv' := [(0, .ref a0), (1, .int i1)]) (List.forall_mem_cons.mpr ⟨rfl, (List.forall_mem_cons.mpr ⟨rfl, zs_nil⟩)⟩) ?_
      exact hk _ _ (Option.some.inj h).symm
    · rw [if_neg c8] at h
      refine zw_aload_n hX dX13_nextRow_11 rfl ?_
      obtain ⟨b2, g, h⟩ := zb_some h
      refine zw_getr hX zl_X13_44 dX13_nextRow_12 g ?_
      refine zw_iload_n hX dX13_nextRow_15 rfl ?_
      obtain ⟨v3, g, h⟩ := zb_some h
      refine zw_xi hX dX13_nextRow_16 g ?_
      refine zw_aload_n hX dX13_nextRow_17 rfl ?_
      obtain ⟨b4, g, h⟩ := zb_some h
      refine zw_getr hX zl_X13_44 dX13_nextRow_18 g ?_
      refine zw_iload_n hX dX13_nextRow_21 rfl ?_
      refine zw_iconst (v := (1 : Int32)) hX dX13_nextRow_22 (by decide) ?_
      refine zw_iadd hX dX13_nextRow_23 ?_
      obtain ⟨v5, g, h⟩ := zb_some h
      refine zw_xi hX dX13_nextRow_24 g ?_
      refine zw_icmp_le (tgt := 34) hX dX13_nextRow_25 (by decide) (fun c25 => ?_) (fun c25 => ?_)
      · rw [if_pos c25] at h
        refine zw_sub (lv' := [(0, .ref a0), (1, .int i1)]) (List.forall_mem_cons.mpr ⟨rfl, (List.forall_mem_cons.mpr ⟨rfl, zs_nil⟩)⟩) ?_
        exact hk _ _ (Option.some.inj h).symm
      · rw [if_neg c25] at h
        refine zw_iinc (v := (i1 + (-1 : Int32))) hX dX13_nextRow_28 rfl rfl (by decide) ?_
        refine zw_goto (tgt := 7) hX dX13_nextRow_31 (by decide) ?_
        refine zw_sub (lv' := [(0, .ref a0), (1, .int (i1 + (-1 : Int32)))]) (List.forall_mem_cons.mpr ⟨rfl, (List.forall_mem_cons.mpr ⟨rfl, zs_nil⟩)⟩) ?_
        exact ih _ _ h
def zf_X13_nextRow_L47 (N : Nat) : Nat → Nat → Int32 → Int32 → zm_S → Option ((Int32 × zm_S) ⊕ ((Int32) × zm_S))
  | 0, _, _, _, _ => none
  | n + 1, a0, i1, i2, S => (zg_r S a0 13 17).bind (fun b9 => (za_x S 0 b9 i2).bind (fun v10 => (zg_r S a0 13 17).bind (fun b11 => (za_x S 0 b11 i1).bind (fun v12 => if v12 ≤ v10 then some (.inr (i2, S)) else zf_X13_nextRow_L47 N n a0 i1 (i2 + (-1 : Int32)) S))))
set_option maxHeartbeats 4000000 in
set_option maxRecDepth 100000 in
theorem zt_X13_nextRow_L47 {p : Program} {l : Launch} {e : Env} {R : Room} {s : State} {m : MethodId} {args : Array Value} {below : List Frame} {meth : Method} {c : Code} {V : zm_V} {mc ms d rc rs : Nat} (hX : zm_X p R s m args meth c RX13 "nextRow" cX13_nextRow 6 zk_E V mc ms) (hr : meth.sig.returnType = (some .boolean)) (hR : R.frames = d ∧ R.locals = 64 * d) (hd : 1 ≤ d) {N : Nat} {res : (Int32 × zm_S) ⊕ ((Int32) × zm_S)} {out : (Int32 × zm_S)} (a0 : Nat) (i1 : Int32) (hf : ∀ o, res = .inl o → o = out) (hk : ∀ (x2 : Int32) (S' : zm_S), res = .inr (x2, S') → zw p l e R s m args below meth c (vx_MQ below (zm_Qc zk_E V (zo_i out)) (zm_XC zk_E V zo_x) args s mc ms (fun q => V.2.2.2.1 ≤ q)) 6 zk_E V mc ms 68 [(0, .ref a0), (1, .int i1), (2, .int x2)] [] S' rc rs) : ∀ (n : Nat) (i2 : Int32) (S : zm_S), zf_X13_nextRow_L47 N n a0 i1 i2 S = some res → zw p l e R s m args below meth c (vx_MQ below (zm_Qc zk_E V (zo_i out)) (zm_XC zk_E V zo_x) args s mc ms (fun q => V.2.2.2.1 ≤ q)) 6 zk_E V mc ms 47 [(0, .ref a0), (1, .int i1), (2, .int i2)] [] S rc rs := by
  intro n
  induction n with
  | zero => intro i2 S h; cases h
  | succ n ih =>
    intro i2 S h
    rw [zf_X13_nextRow_L47] at h
    refine zw_aload_n hX dX13_nextRow_47 rfl ?_
    obtain ⟨b9, g, h⟩ := zb_some h
    refine zw_getr hX zl_X13_44 dX13_nextRow_48 g ?_
    refine zw_iload_n hX dX13_nextRow_51 rfl ?_
    obtain ⟨v10, g, h⟩ := zb_some h
    refine zw_xi hX dX13_nextRow_52 g ?_
    refine zw_aload_n hX dX13_nextRow_53 rfl ?_
    obtain ⟨b11, g, h⟩ := zb_some h
    refine zw_getr hX zl_X13_44 dX13_nextRow_54 g ?_
    refine zw_iload_n hX dX13_nextRow_57 rfl ?_
    obtain ⟨v12, g, h⟩ := zb_some h
    refine zw_xi hX dX13_nextRow_58 g ?_
    refine zw_icmp_ge (tgt := 68) hX dX13_nextRow_59 (by decide) (fun c59 => ?_) (fun c59 => ?_)
    · rw [if_pos c59] at h
      refine zw_sub (lv' := [(0, .ref a0), (1, .int i1), (2, .int i2)]) (List.forall_mem_cons.mpr ⟨rfl, (List.forall_mem_cons.mpr ⟨rfl, (List.forall_mem_cons.mpr ⟨rfl, zs_nil⟩)⟩)⟩) ?_
      exact hk _ _ (Option.some.inj h).symm
    · rw [if_neg c59] at h
      refine zw_iinc (v := (i2 + (-1 : Int32))) hX dX13_nextRow_62 rfl rfl (by decide) ?_
      refine zw_goto (tgt := 47) hX dX13_nextRow_65 (by decide) ?_
      refine zw_sub (lv' := [(0, .ref a0), (1, .int i1), (2, .int (i2 + (-1 : Int32)))]) (List.forall_mem_cons.mpr ⟨rfl, (List.forall_mem_cons.mpr ⟨rfl, (List.forall_mem_cons.mpr ⟨rfl, zs_nil⟩)⟩)⟩) ?_
      exact ih _ _ h
def zf_X13_nextRow_L107 (N : Nat) : Nat → Nat → Int32 → Int32 → zm_S → Option ((Int32 × zm_S) ⊕ ((Unit) × zm_S))
  | 0, _, _, _, _ => none
  | n + 1, a0, i4, i5, S => if i5 ≤ i4 then some (.inr ((), S)) else (zg_r S a0 13 17).bind (fun b24 => (za_x S 0 b24 i4).bind (fun v25 => (zg_r S a0 13 17).bind (fun b26 => (zg_r S a0 13 17).bind (fun b27 => (za_x S 0 b27 i5).bind (fun v28 => (zs_i S b26 i4 v28).bind (fun S29 => (zg_r S29 a0 13 17).bind (fun b30 => (zs_i S29 b30 i5 v25).bind (fun S31 => zf_X13_nextRow_L107 N n a0 (i4 + (1 : Int32)) (i5 + (-1 : Int32)) S31))))))))
set_option maxHeartbeats 4000000 in
set_option maxRecDepth 100000 in
theorem zt_X13_nextRow_L107 {p : Program} {l : Launch} {e : Env} {R : Room} {s : State} {m : MethodId} {args : Array Value} {below : List Frame} {meth : Method} {c : Code} {V : zm_V} {mc ms d rc rs : Nat} (hX : zm_X p R s m args meth c RX13 "nextRow" cX13_nextRow 6 zk_E V mc ms) (hr : meth.sig.returnType = (some .boolean)) (hR : R.frames = d ∧ R.locals = 64 * d) (hd : 1 ≤ d) {N : Nat} {res : (Int32 × zm_S) ⊕ ((Unit) × zm_S)} {out : (Int32 × zm_S)} (a0 : Nat) (hf : ∀ o, res = .inl o → o = out) (hk : ∀ (S' : zm_S), res = .inr ((), S') → zw p l e R s m args below meth c (vx_MQ below (zm_Qc zk_E V (zo_i out)) (zm_XC zk_E V zo_x) args s mc ms (fun q => V.2.2.2.1 ≤ q)) 6 zk_E V mc ms 153 [] [] S' rc rs) : ∀ (n : Nat) (i4 : Int32) (i5 : Int32) (S : zm_S), zf_X13_nextRow_L107 N n a0 i4 i5 S = some res → zw p l e R s m args below meth c (vx_MQ below (zm_Qc zk_E V (zo_i out)) (zm_XC zk_E V zo_x) args s mc ms (fun q => V.2.2.2.1 ≤ q)) 6 zk_E V mc ms 107 [(0, .ref a0), (4, .int i4), (5, .int i5)] [] S rc rs := by
  intro n
  induction n with
  | zero => intro i4 i5 S h; cases h
  | succ n ih =>
    intro i4 i5 S h
    rw [zf_X13_nextRow_L107] at h
    refine zw_iload hX dX13_nextRow_107 rfl ?_
    refine zw_iload hX dX13_nextRow_109 rfl ?_
    refine zw_icmp_ge (tgt := 153) hX dX13_nextRow_111 (by decide) (fun c111 => ?_) (fun c111 => ?_)
    · rw [if_pos c111] at h
      refine zw_sub (lv' := []) zs_nil ?_
      exact hk  _ (Option.some.inj h).symm
    · rw [if_neg c111] at h
      refine zw_aload_n hX dX13_nextRow_114 rfl ?_
      obtain ⟨b24, g, h⟩ := zb_some h
      refine zw_getr hX zl_X13_44 dX13_nextRow_115 g ?_
      refine zw_iload hX dX13_nextRow_118 rfl ?_
      obtain ⟨v25, g, h⟩ := zb_some h
      refine zw_xi hX dX13_nextRow_120 g ?_
      refine zw_istore_n hX dX13_nextRow_121 (by decide) ?_
      refine zw_aload_n hX dX13_nextRow_122 rfl ?_
      obtain ⟨b26, g, h⟩ := zb_some h
      refine zw_getr hX zl_X13_44 dX13_nextRow_123 g ?_
      refine zw_iload hX dX13_nextRow_126 rfl ?_
      refine zw_aload_n hX dX13_nextRow_128 rfl ?_
      obtain ⟨b27, g, h⟩ := zb_some h
      refine zw_getr hX zl_X13_44 dX13_nextRow_129 g ?_
      refine zw_iload hX dX13_nextRow_132 rfl ?_
      obtain ⟨v28, g, h⟩ := zb_some h
      refine zw_xi hX dX13_nextRow_134 g ?_
      obtain ⟨S29, g, h⟩ := zb_some h
      refine zw_si hX dX13_nextRow_135 g ?_
      refine zw_aload_n hX dX13_nextRow_136 rfl ?_
      obtain ⟨b30, g, h⟩ := zb_some h
      refine zw_getr hX zl_X13_44 dX13_nextRow_137 g ?_
      refine zw_iload hX dX13_nextRow_140 rfl ?_
      refine zw_iload_n hX dX13_nextRow_142 rfl ?_
      obtain ⟨S31, g, h⟩ := zb_some h
      refine zw_si hX dX13_nextRow_143 g ?_
      refine zw_iinc (v := (i4 + (1 : Int32))) hX dX13_nextRow_144 rfl rfl (by decide) ?_
      refine zw_iinc (v := (i5 + (-1 : Int32))) hX dX13_nextRow_147 rfl rfl (by decide) ?_
      refine zw_goto (tgt := 107) hX dX13_nextRow_150 (by decide) ?_
      refine zw_sub (lv' := [(0, .ref a0), (4, .int (i4 + (1 : Int32))), (5, .int (i5 + (-1 : Int32)))]) (List.forall_mem_cons.mpr ⟨rfl, (List.forall_mem_cons.mpr ⟨rfl, (List.forall_mem_cons.mpr ⟨rfl, zs_nil⟩)⟩)⟩) ?_
      exact ih _ _ _ h
def zf_X13_nextRow_J34 (N : Nat) (a0 : Nat) (i1 : Int32) (S : zm_S) : Option (Int32 × zm_S) := if 0 ≤ i1 then (zg_i S a0 13 16).bind (fun v8 => (zf_X13_nextRow_L47 N N a0 i1 (v8 - (1 : Int32)) S).bind (fun r => match r with | .inl o => some o | .inr (v14, S13) => (zg_r S13 a0 13 17).bind (fun b15 => (za_x S13 0 b15 i1).bind (fun v16 => (zg_r S13 a0 13 17).bind (fun b17 => (zg_r S13 a0 13 17).bind (fun b18 => (za_x S13 0 b18 v14).bind (fun v19 => (zs_i S13 b17 i1 v19).bind (fun S20 => (zg_r S20 a0 13 17).bind (fun b21 => (zs_i S20 b21 v14 v16).bind (fun S22 => (zg_i S22 a0 13 16).bind (fun v23 => (zf_X13_nextRow_L107 N N a0 (i1 + (1 : Int32)) (v23 - (1 : Int32)) S22).bind (fun r => match r with | .inl o => some o | .inr (_, S32) => some ((1 : Int32), S32))))))))))))) else some ((0 : Int32), S)
set_option maxHeartbeats 4000000 in
set_option maxRecDepth 100000 in
theorem zt_X13_nextRow_J34 {p : Program} {l : Launch} {e : Env} {R : Room} {s : State} {m : MethodId} {args : Array Value} {below : List Frame} {meth : Method} {c : Code} {V : zm_V} {mc ms d rc rs : Nat} (hX : zm_X p R s m args meth c RX13 "nextRow" cX13_nextRow 6 zk_E V mc ms) (hr : meth.sig.returnType = (some .boolean)) (hR : R.frames = d ∧ R.locals = 64 * d) (hd : 1 ≤ d) {N : Nat} {a0 : Nat} {i1 : Int32} {out : (Int32 × zm_S)} {S : zm_S} (h : zf_X13_nextRow_J34 N a0 i1 S = some out) : zw p l e R s m args below meth c (vx_MQ below (zm_Qc zk_E V (zo_i out)) (zm_XC zk_E V zo_x) args s mc ms (fun q => V.2.2.2.1 ≤ q)) 6 zk_E V mc ms 34 [(0, .ref a0), (1, .int i1)] [] S rc rs := by
  unfold zf_X13_nextRow_J34 at h
  refine zw_iload_n hX dX13_nextRow_34 rfl ?_
  refine zw_if_ge (tgt := 40) hX dX13_nextRow_35 (by decide) (fun c35 => ?_) (fun c35 => ?_)
  · rw [if_pos c35] at h
    refine zw_aload_n hX dX13_nextRow_40 rfl ?_
    obtain ⟨v8, g, h⟩ := zb_some h
    refine zw_geti hX zl_X13_94 dX13_nextRow_41 g ?_
    refine zw_iconst (v := (1 : Int32)) hX dX13_nextRow_44 (by decide) ?_
    refine zw_isub hX dX13_nextRow_45 ?_
    refine zw_istore_n hX dX13_nextRow_46 (by decide) ?_
    obtain ⟨r, g, h⟩ := zb_some h
    refine zw_sub (lv' := [(0, .ref a0), (1, .int i1), (2, .int (v8 - (1 : Int32)))]) (List.forall_mem_cons.mpr ⟨rfl, (List.forall_mem_cons.mpr ⟨rfl, (List.forall_mem_cons.mpr ⟨rfl, zs_nil⟩)⟩)⟩) ?_
    refine zt_X13_nextRow_L47 hX hr hR hd (res := r) (out := out) a0 i1 ?_ ?_ N _ _ g
    · intro o ho
      subst ho
      exact Option.some.inj h
    · intro v14 S13 hx
      subst hx
      try dsimp only at h
      refine zw_aload_n hX dX13_nextRow_68 rfl ?_
      obtain ⟨b15, g, h⟩ := zb_some h
      refine zw_getr hX zl_X13_44 dX13_nextRow_69 g ?_
      refine zw_iload_n hX dX13_nextRow_72 rfl ?_
      obtain ⟨v16, g, h⟩ := zb_some h
      refine zw_xi hX dX13_nextRow_73 g ?_
      refine zw_istore_n hX dX13_nextRow_74 (by decide) ?_
      refine zw_aload_n hX dX13_nextRow_75 rfl ?_
      obtain ⟨b17, g, h⟩ := zb_some h
      refine zw_getr hX zl_X13_44 dX13_nextRow_76 g ?_
      refine zw_iload_n hX dX13_nextRow_79 rfl ?_
      refine zw_aload_n hX dX13_nextRow_80 rfl ?_
      obtain ⟨b18, g, h⟩ := zb_some h
      refine zw_getr hX zl_X13_44 dX13_nextRow_81 g ?_
      refine zw_iload_n hX dX13_nextRow_84 rfl ?_
      obtain ⟨v19, g, h⟩ := zb_some h
      refine zw_xi hX dX13_nextRow_85 g ?_
      obtain ⟨S20, g, h⟩ := zb_some h
      refine zw_si hX dX13_nextRow_86 g ?_
      refine zw_aload_n hX dX13_nextRow_87 rfl ?_
      obtain ⟨b21, g, h⟩ := zb_some h
      refine zw_getr hX zl_X13_44 dX13_nextRow_88 g ?_
      refine zw_iload_n hX dX13_nextRow_91 rfl ?_
      refine zw_iload_n hX dX13_nextRow_92 rfl ?_
      obtain ⟨S22, g, h⟩ := zb_some h
      refine zw_si hX dX13_nextRow_93 g ?_
      refine zw_iload_n hX dX13_nextRow_94 rfl ?_
      refine zw_iconst (v := (1 : Int32)) hX dX13_nextRow_95 (by decide) ?_
      refine zw_iadd hX dX13_nextRow_96 ?_
      refine zw_istore hX dX13_nextRow_97 (by decide) ?_
      refine zw_aload_n hX dX13_nextRow_99 rfl ?_
      obtain ⟨v23, g, h⟩ := zb_some h
      refine zw_geti hX zl_X13_94 dX13_nextRow_100 g ?_
      refine zw_iconst (v := (1 : Int32)) hX dX13_nextRow_103 (by decide) ?_
      refine zw_isub hX dX13_nextRow_104 ?_
      refine zw_istore hX dX13_nextRow_105 (by decide) ?_
      obtain ⟨r, g, h⟩ := zb_some h
      refine zw_sub (lv' := [(0, .ref a0), (4, .int (i1 + (1 : Int32))), (5, .int (v23 - (1 : Int32)))]) (List.forall_mem_cons.mpr ⟨rfl, (List.forall_mem_cons.mpr ⟨rfl, (List.forall_mem_cons.mpr ⟨rfl, zs_nil⟩)⟩)⟩) ?_
      refine zt_X13_nextRow_L107 hX hr hR hd (res := r) (out := out) a0 ?_ ?_ N _ _ _ g
      · intro o ho
        subst ho
        exact Option.some.inj h
      · intro  S32 hx
        subst hx
        try dsimp only at h
        refine zw_iconst (v := (1 : Int32)) hX dX13_nextRow_153 (by decide) ?_
        obtain rfl := Option.some.inj h
        exact zw_iret hX hr dX13_nextRow_154 rfl ⟨rfl, rfl⟩
  · rw [if_neg c35] at h
    refine zw_iconst (v := (0 : Int32)) hX dX13_nextRow_38 (by decide) ?_
    obtain rfl := Option.some.inj h
    exact zw_iret hX hr dX13_nextRow_39 rfl ⟨rfl, rfl⟩
def zf_X13_nextRow (N : Nat) (a0 : Nat) (S : zm_S) : Option (Int32 × zm_S) := (zg_i S a0 13 16).bind (fun v1 => (zf_X13_nextRow_L7 N N a0 (v1 - (2 : Int32)) S).bind (fun r => match r with | .inl o => some o | .inr (v7, S6) => zf_X13_nextRow_J34 N a0 v7 S6))
set_option maxHeartbeats 4000000 in
set_option maxRecDepth 100000 in
theorem zt_X13_nextRow {l : Launch} {V : zm_V} {N : Nat} {S : zm_S} {out : (Int32 × zm_S)} {d : Nat} {a0 : Nat} (hd : 1 ≤ d) (h : zf_X13_nextRow N a0 S = some out) : zm_Met l zk_E V yX13_nextRow (.code yX13_nextRow cX13_nextRow 6 (some .boolean)) d [.ref a0] S 0 0 (zo_i out) zo_x := by
  refine zm_of (by decide +kernel) (Nat.le_of_ble_eq_true rfl) ?_
  intro p e R s m args below meth c hRR hX hr hxt
  have hR : R.frames = d ∧ R.locals = 64 * d := by rw [hRR]; exact ⟨rfl, rfl⟩
  have hX : zm_X p R s m args meth c RX13 "nextRow" cX13_nextRow 6 zk_E V 0 0 := hX
  unfold zf_X13_nextRow at h
  refine zw_sub (lv' := [(0, .ref a0)]) (List.forall_mem_cons.mpr ⟨rfl, zs_nil⟩) ?_
  refine zw_aload_n hX dX13_nextRow_0 rfl ?_
  obtain ⟨v1, g, h⟩ := zb_some h
  refine zw_geti hX zl_X13_94 dX13_nextRow_1 g ?_
  refine zw_iconst (v := (2 : Int32)) hX dX13_nextRow_4 (by decide) ?_
  refine zw_isub hX dX13_nextRow_5 ?_
  refine zw_istore_n hX dX13_nextRow_6 (by decide) ?_
  obtain ⟨r, g, h⟩ := zb_some h
  refine zw_sub (lv' := [(0, .ref a0), (1, .int (v1 - (2 : Int32)))]) (List.forall_mem_cons.mpr ⟨rfl, (List.forall_mem_cons.mpr ⟨rfl, zs_nil⟩)⟩) ?_
  refine zt_X13_nextRow_L7 hX hr hR hd (res := r) (out := out) a0 ?_ ?_ N _ _ g
  · intro o ho
    subst ho
    exact Option.some.inj h
  · intro v7 S6 hx
    subst hx
    try dsimp only at h
    refine zw_sub (lv' := [(0, .ref a0), (1, .int v7)]) (List.forall_mem_cons.mpr ⟨rfl, (List.forall_mem_cons.mpr ⟨rfl, zs_nil⟩)⟩) ?_
    exact zt_X13_nextRow_J34 hX hr hR hd h
def zf_X13_isRight_J35 (N : Nat) (k : Nat → Int32 → Int32 → Int32 → zm_S → Option ((Int32 × zm_S) ⊕ ((Int32) × zm_S))) (a0 : Nat) (i1 : Int32) (i3 : Int32) (S : zm_S) : Option ((Int32 × zm_S) ⊕ ((Int32) × zm_S)) := k a0 i1 (0 : Int32) (i3 + (1 : Int32)) S
set_option maxHeartbeats 4000000 in
set_option maxRecDepth 100000 in
theorem zt_X13_isRight_J35 {p : Program} {l : Launch} {e : Env} {R : Room} {s : State} {m : MethodId} {args : Array Value} {below : List Frame} {meth : Method} {c : Code} {V : zm_V} {mc ms d rc rs : Nat} (hX : zm_X p R s m args meth c RX13 "isRight" cX13_isRight 4 zk_E V mc ms) (hr : meth.sig.returnType = (some .boolean)) (hR : R.frames = d ∧ R.locals = 64 * d) (hd : 1 ≤ d) {N : Nat} {k : Nat → Int32 → Int32 → Int32 → zm_S → Option ((Int32 × zm_S) ⊕ ((Int32) × zm_S))} {a0 : Nat} {i1 : Int32} {i3 : Int32} {res : (Int32 × zm_S) ⊕ ((Int32) × zm_S)} {out : (Int32 × zm_S)}   (hf : ∀ o, res = .inl o → o = out) (hk : ∀ (x2 : Int32) (S' : zm_S), res = .inr (x2, S') → zw p l e R s m args below meth c (vx_MQ below (zm_Qc zk_E V (zo_i out)) (zm_XC zk_E V zo_x) args s mc ms (fun q => V.2.2.2.1 ≤ q)) 4 zk_E V mc ms 43 [(2, .int x2)] [] S' rc rs) (hrec : ∀ (i2' : Int32) (i3' : Int32) (S : zm_S), k a0 i1 i2' i3' S = some res → zw p l e R s m args below meth c (vx_MQ below (zm_Qc zk_E V (zo_i out)) (zm_XC zk_E V zo_x) args s mc ms (fun q => V.2.2.2.1 ≤ q)) 4 zk_E V mc ms 4 [(0, .ref a0), (1, .int i1), (2, .int i2'), (3, .int i3')] [] S rc rs) {S : zm_S} (h : zf_X13_isRight_J35 N k a0 i1 i3 S = some res) : zw p l e R s m args below meth c (vx_MQ below (zm_Qc zk_E V (zo_i out)) (zm_XC zk_E V zo_x) args s mc ms (fun q => V.2.2.2.1 ≤ q)) 4 zk_E V mc ms 35 [(0, .ref a0), (1, .int i1), (3, .int i3)] [] S rc rs := by
  unfold zf_X13_isRight_J35 at h
  refine zw_iconst (v := (0 : Int32)) hX dX13_isRight_35 (by decide) ?_
  refine zw_istore_n hX dX13_isRight_36 (by decide) ?_
  refine zw_iinc (v := (i3 + (1 : Int32))) hX dX13_isRight_37 rfl rfl (by decide) ?_
  refine zw_goto (tgt := 4) hX dX13_isRight_40 (by decide) ?_
  refine zw_sub (lv' := [(0, .ref a0), (1, .int i1), (2, .int (0 : Int32)), (3, .int (i3 + (1 : Int32)))]) (List.forall_mem_cons.mpr ⟨rfl, (List.forall_mem_cons.mpr ⟨rfl, (List.forall_mem_cons.mpr ⟨rfl, (List.forall_mem_cons.mpr ⟨rfl, zs_nil⟩)⟩)⟩)⟩) ?_
  exact hrec _ _ _ h
def zf_X13_isRight_L4 (N : Nat) : Nat → Nat → Int32 → Int32 → Int32 → zm_S → Option ((Int32 × zm_S) ⊕ ((Int32) × zm_S))
  | 0, _, _, _, _, _ => none
  | n + 1, a0, i1, i2, i3, S => (zg_i S a0 13 16).bind (fun v1 => if v1 ≤ i3 then some (.inr (i2, S)) else if i2 = 0 then zf_X13_isRight_J35 N (zf_X13_isRight_L4 N n) a0 i1 i3 S else (zg_r S a0 13 11).bind (fun b2 => (zg_r S a0 13 17).bind (fun b3 => (za_x S 0 b3 i3).bind (fun v4 => (za_x S 0 b2 v4).bind (fun v5 => if v5 = i1 then zf_X13_isRight_J35 N (zf_X13_isRight_L4 N n) a0 i1 i3 S else zf_X13_isRight_L4 N n a0 i1 (1 : Int32) (i3 + (1 : Int32)) S)))))
set_option maxHeartbeats 4000000 in
set_option maxRecDepth 100000 in
theorem zt_X13_isRight_L4 {p : Program} {l : Launch} {e : Env} {R : Room} {s : State} {m : MethodId} {args : Array Value} {below : List Frame} {meth : Method} {c : Code} {V : zm_V} {mc ms d rc rs : Nat} (hX : zm_X p R s m args meth c RX13 "isRight" cX13_isRight 4 zk_E V mc ms) (hr : meth.sig.returnType = (some .boolean)) (hR : R.frames = d ∧ R.locals = 64 * d) (hd : 1 ≤ d) {N : Nat} {res : (Int32 × zm_S) ⊕ ((Int32) × zm_S)} {out : (Int32 × zm_S)} (a0 : Nat) (i1 : Int32) (hf : ∀ o, res = .inl o → o = out) (hk : ∀ (x2 : Int32) (S' : zm_S), res = .inr (x2, S') → zw p l e R s m args below meth c (vx_MQ below (zm_Qc zk_E V (zo_i out)) (zm_XC zk_E V zo_x) args s mc ms (fun q => V.2.2.2.1 ≤ q)) 4 zk_E V mc ms 43 [(2, .int x2)] [] S' rc rs) : ∀ (n : Nat) (i2 : Int32) (i3 : Int32) (S : zm_S), zf_X13_isRight_L4 N n a0 i1 i2 i3 S = some res → zw p l e R s m args below meth c (vx_MQ below (zm_Qc zk_E V (zo_i out)) (zm_XC zk_E V zo_x) args s mc ms (fun q => V.2.2.2.1 ≤ q)) 4 zk_E V mc ms 4 [(0, .ref a0), (1, .int i1), (2, .int i2), (3, .int i3)] [] S rc rs := by
  intro n
  induction n with
  | zero => intro i2 i3 S h; cases h
  | succ n ih =>
    intro i2 i3 S h
    rw [zf_X13_isRight_L4] at h
    refine zw_iload_n hX dX13_isRight_4 rfl ?_
    refine zw_aload_n hX dX13_isRight_5 rfl ?_
    obtain ⟨v1, g, h⟩ := zb_some h
    refine zw_geti hX zl_X13_94 dX13_isRight_6 g ?_
    refine zw_icmp_ge (tgt := 43) hX dX13_isRight_9 (by decide) (fun c9 => ?_) (fun c9 => ?_)
    · rw [if_pos c9] at h
      refine zw_sub (lv' := [(2, .int i2)]) (List.forall_mem_cons.mpr ⟨rfl, zs_nil⟩) ?_
      exact hk _ _ (Option.some.inj h).symm
    · rw [if_neg c9] at h
      refine zw_iload_n hX dX13_isRight_12 rfl ?_
      refine zw_if_eq (tgt := 35) hX dX13_isRight_13 (by decide) (fun c13 => ?_) (fun c13 => ?_)
      · rw [if_pos c13] at h
        refine zw_sub (lv' := [(0, .ref a0), (1, .int i1), (3, .int i3)]) (List.forall_mem_cons.mpr ⟨rfl, (List.forall_mem_cons.mpr ⟨rfl, (List.forall_mem_cons.mpr ⟨rfl, zs_nil⟩)⟩)⟩) ?_
        exact zt_X13_isRight_J35 hX hr hR hd hf hk ih h
      · rw [if_neg c13] at h
        refine zw_aload_n hX dX13_isRight_16 rfl ?_
        obtain ⟨b2, g, h⟩ := zb_some h
        refine zw_getr hX zl_X13_38 dX13_isRight_17 g ?_
        refine zw_aload_n hX dX13_isRight_20 rfl ?_
        obtain ⟨b3, g, h⟩ := zb_some h
        refine zw_getr hX zl_X13_44 dX13_isRight_21 g ?_
        refine zw_iload_n hX dX13_isRight_24 rfl ?_
        obtain ⟨v4, g, h⟩ := zb_some h
        refine zw_xi hX dX13_isRight_25 g ?_
        obtain ⟨v5, g, h⟩ := zb_some h
        refine zw_xi hX dX13_isRight_26 g ?_
        refine zw_iload_n hX dX13_isRight_27 rfl ?_
        refine zw_icmp_eq (tgt := 35) hX dX13_isRight_28 (by decide) (fun c28 => ?_) (fun c28 => ?_)
        · rw [if_pos c28] at h
          refine zw_sub (lv' := [(0, .ref a0), (1, .int i1), (3, .int i3)]) (List.forall_mem_cons.mpr ⟨rfl, (List.forall_mem_cons.mpr ⟨rfl, (List.forall_mem_cons.mpr ⟨rfl, zs_nil⟩)⟩)⟩) ?_
          exact zt_X13_isRight_J35 hX hr hR hd hf hk ih h
        · rw [if_neg c28] at h
          refine zw_iconst (v := (1 : Int32)) hX dX13_isRight_31 (by decide) ?_
          refine zw_goto (tgt := 36) hX dX13_isRight_32 (by decide) ?_
          refine zw_istore_n hX dX13_isRight_36 (by decide) ?_
          refine zw_iinc (v := (i3 + (1 : Int32))) hX dX13_isRight_37 rfl rfl (by decide) ?_
          refine zw_goto (tgt := 4) hX dX13_isRight_40 (by decide) ?_
          refine zw_sub (lv' := [(0, .ref a0), (1, .int i1), (2, .int (1 : Int32)), (3, .int (i3 + (1 : Int32)))]) (List.forall_mem_cons.mpr ⟨rfl, (List.forall_mem_cons.mpr ⟨rfl, (List.forall_mem_cons.mpr ⟨rfl, (List.forall_mem_cons.mpr ⟨rfl, zs_nil⟩)⟩)⟩)⟩) ?_
          exact ih _ _ _ h
def zf_X13_isRight (N : Nat) (a0 : Nat) (i1 : Int32) (S : zm_S) : Option (Int32 × zm_S) := (zf_X13_isRight_L4 N N a0 i1 (1 : Int32) (1 : Int32) S).bind (fun r => match r with | .inl o => some o | .inr (v7, S6) => if v7 = 0 ∨ v7 = 1 then some (v7, S6) else none)
set_option maxHeartbeats 4000000 in
set_option maxRecDepth 100000 in
theorem zt_X13_isRight {l : Launch} {V : zm_V} {N : Nat} {S : zm_S} {out : (Int32 × zm_S)} {d : Nat} {a0 : Nat} {i1 : Int32} (hd : 1 ≤ d) (h : zf_X13_isRight N a0 i1 S = some out) : zm_Met l zk_E V yX13_isRight (.code yX13_isRight cX13_isRight 4 (some .boolean)) d [.ref a0, .int i1] S 0 0 (zo_i out) zo_x := by
  refine zm_of (by decide +kernel) (Nat.le_of_ble_eq_true rfl) ?_
  intro p e R s m args below meth c hRR hX hr hxt
  have hR : R.frames = d ∧ R.locals = 64 * d := by rw [hRR]; exact ⟨rfl, rfl⟩
  have hX : zm_X p R s m args meth c RX13 "isRight" cX13_isRight 4 zk_E V 0 0 := hX
  unfold zf_X13_isRight at h
  refine zw_sub (lv' := [(0, .ref a0), (1, .int i1)]) (List.forall_mem_cons.mpr ⟨rfl, (List.forall_mem_cons.mpr ⟨rfl, zs_nil⟩)⟩) ?_
  refine zw_iconst (v := (1 : Int32)) hX dX13_isRight_0 (by decide) ?_
  refine zw_istore_n hX dX13_isRight_1 (by decide) ?_
  refine zw_iconst (v := (1 : Int32)) hX dX13_isRight_2 (by decide) ?_
  refine zw_istore_n hX dX13_isRight_3 (by decide) ?_
  obtain ⟨r, g, h⟩ := zb_some h
  refine zw_sub (lv' := [(0, .ref a0), (1, .int i1), (2, .int (1 : Int32)), (3, .int (1 : Int32))]) (List.forall_mem_cons.mpr ⟨rfl, (List.forall_mem_cons.mpr ⟨rfl, (List.forall_mem_cons.mpr ⟨rfl, (List.forall_mem_cons.mpr ⟨rfl, zs_nil⟩)⟩)⟩)⟩) ?_
  refine zt_X13_isRight_L4 hX hr hR hd (res := r) (out := out) a0 i1 ?_ ?_ N _ _ _ g
  · intro o ho
    subst ho
    exact Option.some.inj h
  · intro v7 S6 hx
    subst hx
    try dsimp only at h
    refine zw_iload_n hX dX13_isRight_43 rfl ?_
    by_cases cz : v7 = 0 ∨ v7 = 1
    · rw [if_pos cz] at h
      obtain rfl := Option.some.inj h
      exact zw_iret hX hr dX13_isRight_44 (zn_z cz) ⟨rfl, rfl⟩
    · rw [if_neg cz] at h
      cases h
def zf_X13_findRow_L24 (N : Nat) : Nat → Nat → Int32 → Int32 → Int32 → Int32 → zm_S → Option ((Unit × zm_S) ⊕ ((Unit) × zm_S))
  | 0, _, _, _, _, _, _ => none
  | n + 1, a0, i1, i2, i3, i4, S => (zg_i S a0 13 14).bind (fun v4 => if v4 ≤ i4 then some (.inr ((), S)) else if ((i2 >>> (i4 &&& 31)) &&& (1 : Int32)) = (1 : Int32) then (zg_r S a0 13 17).bind (fun b5 => (zg_i S a0 13 16).bind (fun v6 => (zg_r S a0 13 15).bind (fun b7 => (za_x S 0 b7 i4).bind (fun v8 => (zs_i S b5 v6 v8).bind (fun S9 => (zg_i S9 a0 13 16).bind (fun v10 => (zp S9 a0 13 16 (.int (v10 + (1 : Int32)))).bind (fun S11 => (zg_r S11 a0 13 15).bind (fun b12 => (za_x S11 0 b12 i4).bind (fun v13 => (zi S11 a0 13).bind (fun _ => (zf_X13_carsOf N a0 v13 S11).bind (fun r16 => if ((r16.1 >>> (i1 &&& 31)) &&& (1 : Int32)) = 0 then some (.inl ((), r16.2)) else zf_X13_findRow_L24 N n a0 i1 i2 i3 (i4 + (1 : Int32)) r16.2))))))))))) else zf_X13_findRow_L24 N n a0 i1 i2 i3 (i4 + (1 : Int32)) S)
set_option maxHeartbeats 4000000 in
set_option maxRecDepth 100000 in
theorem zt_X13_findRow_L24 {p : Program} {l : Launch} {e : Env} {R : Room} {s : State} {m : MethodId} {args : Array Value} {below : List Frame} {meth : Method} {c : Code} {V : zm_V} {mc ms d rc rs : Nat} (hX : zm_X p R s m args meth c RX13 "findRow" cX13_findRow 8 zk_E V mc ms) (hr : meth.sig.returnType = none) (hR : R.frames = d ∧ R.locals = 64 * d) (hd : 3 ≤ d) {N : Nat} {res : (Unit × zm_S) ⊕ ((Unit) × zm_S)} {out : (Unit × zm_S)} (a0 : Nat) (i1 : Int32) (i2 : Int32) (i3 : Int32) (hf : ∀ o, res = .inl o → o = out) (hk : ∀ (S' : zm_S), res = .inr ((), S') → zw p l e R s m args below meth c (vx_MQ below (zm_Qc zk_E V (zo_v out)) (zm_XC zk_E V zo_x) args s mc ms (fun q => V.2.2.2.1 ≤ q)) 8 zk_E V mc ms 94 [(0, .ref a0), (1, .int i1), (3, .int i3)] [] S' rc rs) : ∀ (n : Nat) (i4 : Int32) (S : zm_S), zf_X13_findRow_L24 N n a0 i1 i2 i3 i4 S = some res → zw p l e R s m args below meth c (vx_MQ below (zm_Qc zk_E V (zo_v out)) (zm_XC zk_E V zo_x) args s mc ms (fun q => V.2.2.2.1 ≤ q)) 8 zk_E V mc ms 24 [(0, .ref a0), (1, .int i1), (2, .int i2), (3, .int i3), (4, .int i4)] [] S rc rs := by
  intro n
  induction n with
  | zero => intro i4 S h; cases h
  | succ n ih =>
    intro i4 S h
    rw [zf_X13_findRow_L24] at h
    refine zw_iload hX dX13_findRow_24 rfl ?_
    refine zw_aload_n hX dX13_findRow_26 rfl ?_
    obtain ⟨v4, g, h⟩ := zb_some h
    refine zw_geti hX zl_X13_84 dX13_findRow_27 g ?_
    refine zw_icmp_ge (tgt := 94) hX dX13_findRow_30 (by decide) (fun c30 => ?_) (fun c30 => ?_)
    · rw [if_pos c30] at h
      refine zw_sub (lv' := [(0, .ref a0), (1, .int i1), (3, .int i3)]) (List.forall_mem_cons.mpr ⟨rfl, (List.forall_mem_cons.mpr ⟨rfl, (List.forall_mem_cons.mpr ⟨rfl, zs_nil⟩)⟩)⟩) ?_
      exact hk  _ (Option.some.inj h).symm
    · rw [if_neg c30] at h
      refine zw_iload_n hX dX13_findRow_33 rfl ?_
      refine zw_iload hX dX13_findRow_34 rfl ?_
      refine zw_ishr hX dX13_findRow_36 ?_
      refine zw_iconst (v := (1 : Int32)) hX dX13_findRow_37 (by decide) ?_
      refine zw_iand hX dX13_findRow_38 ?_
      refine zw_iconst (v := (1 : Int32)) hX dX13_findRow_39 (by decide) ?_
      refine zw_icmp_ne (tgt := 88) hX dX13_findRow_40 (by decide) (fun c40 => ?_) (fun c40 => ?_)
      · rw [if_neg c40] at h
        refine zw_iinc (v := (i4 + (1 : Int32))) hX dX13_findRow_88 rfl rfl (by decide) ?_
        refine zw_goto (tgt := 24) hX dX13_findRow_91 (by decide) ?_
        refine zw_sub (lv' := [(0, .ref a0), (1, .int i1), (2, .int i2), (3, .int i3), (4, .int (i4 + (1 : Int32)))]) (List.forall_mem_cons.mpr ⟨rfl, (List.forall_mem_cons.mpr ⟨rfl, (List.forall_mem_cons.mpr ⟨rfl, (List.forall_mem_cons.mpr ⟨rfl, (List.forall_mem_cons.mpr ⟨rfl, zs_nil⟩)⟩)⟩)⟩)⟩) ?_
        exact ih _ _ h
      · rw [if_pos c40] at h
        refine zw_aload_n hX dX13_findRow_43 rfl ?_
        obtain ⟨b5, g, h⟩ := zb_some h
        refine zw_getr hX zl_X13_44 dX13_findRow_44 g ?_
        refine zw_aload_n hX dX13_findRow_47 rfl ?_
        obtain ⟨v6, g, h⟩ := zb_some h
        refine zw_geti hX zl_X13_94 dX13_findRow_48 g ?_
        refine zw_aload_n hX dX13_findRow_51 rfl ?_
        obtain ⟨b7, g, h⟩ := zb_some h
        refine zw_getr hX zl_X13_41 dX13_findRow_52 g ?_
        refine zw_iload hX dX13_findRow_55 rfl ?_
        obtain ⟨v8, g, h⟩ := zb_some h
        refine zw_xi hX dX13_findRow_57 g ?_
        obtain ⟨S9, g, h⟩ := zb_some h
        refine zw_si hX dX13_findRow_58 g ?_
        refine zw_aload_n hX dX13_findRow_59 rfl ?_
        refine zw_dup hX dX13_findRow_60 rfl ?_
        obtain ⟨v10, g, h⟩ := zb_some h
        refine zw_geti hX zl_X13_94 dX13_findRow_61 g ?_
        refine zw_iconst (v := (1 : Int32)) hX dX13_findRow_64 (by decide) ?_
        refine zw_iadd hX dX13_findRow_65 ?_
        obtain ⟨S11, g, h⟩ := zb_some h
        refine zw_putv hX zl_X13_94 zt_13_16 dX13_findRow_66 rfl rfl g ?_
        refine zw_aload_n hX dX13_findRow_69 rfl ?_
        refine zw_aload_n hX dX13_findRow_70 rfl ?_
        obtain ⟨b12, g, h⟩ := zb_some h
        refine zw_getr hX zl_X13_41 dX13_findRow_71 g ?_
        refine zw_iload hX dX13_findRow_74 rfl ?_
        obtain ⟨v13, g, h⟩ := zb_some h
        refine zw_xi hX dX13_findRow_76 g ?_
        obtain ⟨_, gi, h⟩ := zb_some h
        obtain ⟨r16, g, h⟩ := zb_some h
        refine zc_Vi (as := [.int v13]) hX gi (zt_X13_carsOf (d := d - 1) (by omega) g) zl_X13_87 rfl dX13_findRow_77 ⟨rfl, rfl, Nat.le_of_ble_eq_true rfl⟩ ⟨by omega, by omega⟩ ?_
        refine zw_iload_n hX dX13_findRow_80 rfl ?_
        refine zw_ishr hX dX13_findRow_81 ?_
        refine zw_iconst (v := (1 : Int32)) hX dX13_findRow_82 (by decide) ?_
        refine zw_iand hX dX13_findRow_83 ?_
        refine zw_if_ne (tgt := 88) hX dX13_findRow_84 (by decide) (fun c84 => ?_) (fun c84 => ?_)
        · rw [if_neg c84] at h
          refine zw_iinc (v := (i4 + (1 : Int32))) hX dX13_findRow_88 rfl rfl (by decide) ?_
          refine zw_goto (tgt := 24) hX dX13_findRow_91 (by decide) ?_
          refine zw_sub (lv' := [(0, .ref a0), (1, .int i1), (2, .int i2), (3, .int i3), (4, .int (i4 + (1 : Int32)))]) (List.forall_mem_cons.mpr ⟨rfl, (List.forall_mem_cons.mpr ⟨rfl, (List.forall_mem_cons.mpr ⟨rfl, (List.forall_mem_cons.mpr ⟨rfl, (List.forall_mem_cons.mpr ⟨rfl, zs_nil⟩)⟩)⟩)⟩)⟩) ?_
          exact ih _ _ h
        · rw [if_pos c84] at h
          have hz := hf _ (Option.some.inj h).symm
          subst hz
          exact zw_vret hX hr dX13_findRow_87 ⟨rfl, rfl⟩
def zf_X13_findRow_J174 (N : Nat) (k : Nat → Int32 → Int32 → Int32 → zm_S → Option ((Unit × zm_S) ⊕ ((Unit) × zm_S))) (a0 : Nat) (i1 : Int32) (i3 : Int32) (S : zm_S) : Option ((Unit × zm_S) ⊕ ((Unit) × zm_S)) := (zi S a0 13).bind (fun _ => (zf_X13_nextRow N a0 S).bind (fun r26 => k a0 i1 i3 r26.1 r26.2))
set_option maxHeartbeats 4000000 in
set_option maxRecDepth 100000 in
theorem zt_X13_findRow_J174 {p : Program} {l : Launch} {e : Env} {R : Room} {s : State} {m : MethodId} {args : Array Value} {below : List Frame} {meth : Method} {c : Code} {V : zm_V} {mc ms d rc rs : Nat} (hX : zm_X p R s m args meth c RX13 "findRow" cX13_findRow 8 zk_E V mc ms) (hr : meth.sig.returnType = none) (hR : R.frames = d ∧ R.locals = 64 * d) (hd : 3 ≤ d) {N : Nat} {k : Nat → Int32 → Int32 → Int32 → zm_S → Option ((Unit × zm_S) ⊕ ((Unit) × zm_S))} {a0 : Nat} {i1 : Int32} {i3 : Int32} {res : (Unit × zm_S) ⊕ ((Unit) × zm_S)} {out : (Unit × zm_S)}   (hf : ∀ o, res = .inl o → o = out) (hk : ∀ (S' : zm_S), res = .inr ((), S') → zw p l e R s m args below meth c (vx_MQ below (zm_Qc zk_E V (zo_v out)) (zm_XC zk_E V zo_x) args s mc ms (fun q => V.2.2.2.1 ≤ q)) 8 zk_E V mc ms 183 [] [] S' rc rs) (hrec : ∀ (i4' : Int32) (S : zm_S), k a0 i1 i3 i4' S = some res → zw p l e R s m args below meth c (vx_MQ below (zm_Qc zk_E V (zo_v out)) (zm_XC zk_E V zo_x) args s mc ms (fun q => V.2.2.2.1 ≤ q)) 8 zk_E V mc ms 97 [(0, .ref a0), (1, .int i1), (3, .int i3), (4, .int i4')] [] S rc rs) {S : zm_S} (h : zf_X13_findRow_J174 N k a0 i1 i3 S = some res) : zw p l e R s m args below meth c (vx_MQ below (zm_Qc zk_E V (zo_v out)) (zm_XC zk_E V zo_x) args s mc ms (fun q => V.2.2.2.1 ≤ q)) 8 zk_E V mc ms 174 [(0, .ref a0), (1, .int i1), (3, .int i3)] [] S rc rs := by
  unfold zf_X13_findRow_J174 at h
  refine zw_aload_n hX dX13_findRow_174 rfl ?_
  obtain ⟨_, gi, h⟩ := zb_some h
  obtain ⟨r26, g, h⟩ := zb_some h
  refine zc_Vi (as := []) hX gi (zt_X13_nextRow (d := d - 1) (by omega) g) zl_X13_114 rfl dX13_findRow_175 ⟨rfl, rfl, Nat.le_of_ble_eq_true rfl⟩ ⟨by omega, by omega⟩ ?_
  refine zw_istore hX dX13_findRow_178 (by decide) ?_
  refine zw_goto (tgt := 97) hX dX13_findRow_180 (by decide) ?_
  refine zw_sub (lv' := [(0, .ref a0), (1, .int i1), (3, .int i3), (4, .int r26.1)]) (List.forall_mem_cons.mpr ⟨rfl, (List.forall_mem_cons.mpr ⟨rfl, (List.forall_mem_cons.mpr ⟨rfl, (List.forall_mem_cons.mpr ⟨rfl, zs_nil⟩)⟩)⟩)⟩) ?_
  exact hrec _ _ h
def zf_X13_findRow_L140 (N : Nat) : Nat → Nat → Int32 → Int32 → Int32 → zm_S → Option ((Unit × zm_S) ⊕ ((Unit) × zm_S))
  | 0, _, _, _, _, _ => none
  | n + 1, a0, i1, i3, i7, S => (zg_i S a0 13 16).bind (fun v31 => if v31 ≤ i7 then some (.inr ((), S)) else (zg_r S a0 13 19).bind (fun b32 => (zg_r S a0 13 17).bind (fun b33 => (za_x S 0 b33 i7).bind (fun v34 => (zs_i S b32 (((6 : Int32) * i3) + i7) v34).bind (fun S35 => zf_X13_findRow_L140 N n a0 i1 i3 (i7 + (1 : Int32)) S35)))))
set_option maxHeartbeats 4000000 in
set_option maxRecDepth 100000 in
theorem zt_X13_findRow_L140 {p : Program} {l : Launch} {e : Env} {R : Room} {s : State} {m : MethodId} {args : Array Value} {below : List Frame} {meth : Method} {c : Code} {V : zm_V} {mc ms d rc rs : Nat} (hX : zm_X p R s m args meth c RX13 "findRow" cX13_findRow 8 zk_E V mc ms) (hr : meth.sig.returnType = none) (hR : R.frames = d ∧ R.locals = 64 * d) (hd : 3 ≤ d) {N : Nat} {res : (Unit × zm_S) ⊕ ((Unit) × zm_S)} {out : (Unit × zm_S)} (a0 : Nat) (i1 : Int32) (i3 : Int32) (hf : ∀ o, res = .inl o → o = out) (hk : ∀ (S' : zm_S), res = .inr ((), S') → zw p l e R s m args below meth c (vx_MQ below (zm_Qc zk_E V (zo_v out)) (zm_XC zk_E V zo_x) args s mc ms (fun q => V.2.2.2.1 ≤ q)) 8 zk_E V mc ms 174 [(0, .ref a0), (1, .int i1), (3, .int i3)] [] S' rc rs) : ∀ (n : Nat) (i7 : Int32) (S : zm_S), zf_X13_findRow_L140 N n a0 i1 i3 i7 S = some res → zw p l e R s m args below meth c (vx_MQ below (zm_Qc zk_E V (zo_v out)) (zm_XC zk_E V zo_x) args s mc ms (fun q => V.2.2.2.1 ≤ q)) 8 zk_E V mc ms 140 [(0, .ref a0), (1, .int i1), (3, .int i3), (7, .int i7)] [] S rc rs := by
  intro n
  induction n with
  | zero => intro i7 S h; cases h
  | succ n ih =>
    intro i7 S h
    rw [zf_X13_findRow_L140] at h
    refine zw_iload hX dX13_findRow_140 rfl ?_
    refine zw_aload_n hX dX13_findRow_142 rfl ?_
    obtain ⟨v31, g, h⟩ := zb_some h
    refine zw_geti hX zl_X13_94 dX13_findRow_143 g ?_
    refine zw_icmp_ge (tgt := 174) hX dX13_findRow_146 (by decide) (fun c146 => ?_) (fun c146 => ?_)
    · rw [if_pos c146] at h
      refine zw_sub (lv' := [(0, .ref a0), (1, .int i1), (3, .int i3)]) (List.forall_mem_cons.mpr ⟨rfl, (List.forall_mem_cons.mpr ⟨rfl, (List.forall_mem_cons.mpr ⟨rfl, zs_nil⟩)⟩)⟩) ?_
      exact hk  _ (Option.some.inj h).symm
    · rw [if_neg c146] at h
      refine zw_aload_n hX dX13_findRow_149 rfl ?_
      obtain ⟨b32, g, h⟩ := zb_some h
      refine zw_getr hX zl_X13_51 dX13_findRow_150 g ?_
      refine zw_bipush (v := (6 : Int32)) hX dX13_findRow_153 (by decide) ?_
      refine zw_iload_n hX dX13_findRow_155 rfl ?_
      refine zw_imul hX dX13_findRow_156 ?_
      refine zw_iload hX dX13_findRow_157 rfl ?_
      refine zw_iadd hX dX13_findRow_159 ?_
      refine zw_aload_n hX dX13_findRow_160 rfl ?_
      obtain ⟨b33, g, h⟩ := zb_some h
      refine zw_getr hX zl_X13_44 dX13_findRow_161 g ?_
      refine zw_iload hX dX13_findRow_164 rfl ?_
      obtain ⟨v34, g, h⟩ := zb_some h
      refine zw_xi hX dX13_findRow_166 g ?_
      obtain ⟨S35, g, h⟩ := zb_some h
      refine zw_si hX dX13_findRow_167 g ?_
      refine zw_iinc (v := (i7 + (1 : Int32))) hX dX13_findRow_168 rfl rfl (by decide) ?_
      refine zw_goto (tgt := 140) hX dX13_findRow_171 (by decide) ?_
      refine zw_sub (lv' := [(0, .ref a0), (1, .int i1), (3, .int i3), (7, .int (i7 + (1 : Int32)))]) (List.forall_mem_cons.mpr ⟨rfl, (List.forall_mem_cons.mpr ⟨rfl, (List.forall_mem_cons.mpr ⟨rfl, (List.forall_mem_cons.mpr ⟨rfl, zs_nil⟩)⟩)⟩)⟩) ?_
      exact ih _ _ h
def zf_X13_findRow_L97 (N : Nat) : Nat → Nat → Int32 → Int32 → Int32 → zm_S → Option ((Unit × zm_S) ⊕ ((Unit) × zm_S))
  | 0, _, _, _, _, _ => none
  | n + 1, a0, i1, i3, i4, S => if i4 = 0 then some (.inr ((), S)) else (zi S a0 13).bind (fun _ => (zf_X13_costOf N a0 i1 S).bind (fun r20 => (zi r20.2 a0 13).bind (fun _ => (zf_X13_isRight N a0 i1 r20.2).bind (fun r23 => if r23.1 = 0 then zf_X13_findRow_J174 N (zf_X13_findRow_L97 N n) a0 i1 i3 r23.2 else (zg_r r23.2 a0 13 18).bind (fun b27 => (za_l r23.2 b27 i3).bind (fun w28 => if 0 ≤ (lg_cmp r20.1 w28) then zf_X13_findRow_J174 N (zf_X13_findRow_L97 N n) a0 i1 i3 r23.2 else (zg_r r23.2 a0 13 18).bind (fun b29 => (zs_l r23.2 b29 i3 r20.1).bind (fun S30 => (zf_X13_findRow_L140 N N a0 i1 i3 (0 : Int32) S30).bind (fun r => match r with | .inl o => some (.inl o) | .inr (_, S36) => zf_X13_findRow_J174 N (zf_X13_findRow_L97 N n) a0 i1 i3 S36)))))))))
set_option maxHeartbeats 4000000 in
set_option maxRecDepth 100000 in
theorem zt_X13_findRow_L97 {p : Program} {l : Launch} {e : Env} {R : Room} {s : State} {m : MethodId} {args : Array Value} {below : List Frame} {meth : Method} {c : Code} {V : zm_V} {mc ms d rc rs : Nat} (hX : zm_X p R s m args meth c RX13 "findRow" cX13_findRow 8 zk_E V mc ms) (hr : meth.sig.returnType = none) (hR : R.frames = d ∧ R.locals = 64 * d) (hd : 3 ≤ d) {N : Nat} {res : (Unit × zm_S) ⊕ ((Unit) × zm_S)} {out : (Unit × zm_S)} (a0 : Nat) (i1 : Int32) (i3 : Int32) (hf : ∀ o, res = .inl o → o = out) (hk : ∀ (S' : zm_S), res = .inr ((), S') → zw p l e R s m args below meth c (vx_MQ below (zm_Qc zk_E V (zo_v out)) (zm_XC zk_E V zo_x) args s mc ms (fun q => V.2.2.2.1 ≤ q)) 8 zk_E V mc ms 183 [] [] S' rc rs) : ∀ (n : Nat) (i4 : Int32) (S : zm_S), zf_X13_findRow_L97 N n a0 i1 i3 i4 S = some res → zw p l e R s m args below meth c (vx_MQ below (zm_Qc zk_E V (zo_v out)) (zm_XC zk_E V zo_x) args s mc ms (fun q => V.2.2.2.1 ≤ q)) 8 zk_E V mc ms 97 [(0, .ref a0), (1, .int i1), (3, .int i3), (4, .int i4)] [] S rc rs := by
  intro n
  induction n with
  | zero => intro i4 S h; cases h
  | succ n ih =>
    intro i4 S h
    rw [zf_X13_findRow_L97] at h
    refine zw_iload hX dX13_findRow_97 rfl ?_
    refine zw_if_eq (tgt := 183) hX dX13_findRow_99 (by decide) (fun c99 => ?_) (fun c99 => ?_)
    · rw [if_pos c99] at h
      refine zw_sub (lv' := []) zs_nil ?_
      exact hk  _ (Option.some.inj h).symm
    · rw [if_neg c99] at h
      refine zw_aload_n hX dX13_findRow_102 rfl ?_
      refine zw_iload_n hX dX13_findRow_103 rfl ?_
      obtain ⟨_, gi, h⟩ := zb_some h
      obtain ⟨r20, g, h⟩ := zb_some h
      refine zc_Vl (as := [.int i1]) hX gi (zt_X13_costOf (d := d - 1) (by omega) g) zl_X13_106 rfl dX13_findRow_104 ⟨rfl, rfl, Nat.le_of_ble_eq_true rfl⟩ ⟨by omega, by omega⟩ ?_
      refine zw_lstore hX dX13_findRow_107 (by decide) ?_
      refine zw_aload_n hX dX13_findRow_109 rfl ?_
      refine zw_iload_n hX dX13_findRow_110 rfl ?_
      obtain ⟨_, gi, h⟩ := zb_some h
      obtain ⟨r23, g, h⟩ := zb_some h
      refine zc_Vi (as := [.int i1]) hX gi (zt_X13_isRight (d := d - 1) (by omega) g) zl_X13_110 rfl dX13_findRow_111 ⟨rfl, rfl, Nat.le_of_ble_eq_true rfl⟩ ⟨by omega, by omega⟩ ?_
      refine zw_if_eq (tgt := 174) hX dX13_findRow_114 (by decide) (fun c114 => ?_) (fun c114 => ?_)
      · rw [if_pos c114] at h
        refine zw_sub (lv' := [(0, .ref a0), (1, .int i1), (3, .int i3)]) (List.forall_mem_cons.mpr ⟨rfl, (List.forall_mem_cons.mpr ⟨rfl, (List.forall_mem_cons.mpr ⟨rfl, zs_nil⟩)⟩)⟩) ?_
        exact zt_X13_findRow_J174 hX hr hR hd hf hk ih h
      · rw [if_neg c114] at h
        refine zw_lload hX dX13_findRow_117 rfl ?_
        refine zw_aload_n hX dX13_findRow_119 rfl ?_
        obtain ⟨b27, g, h⟩ := zb_some h
        refine zw_getr hX zl_X13_47 dX13_findRow_120 g ?_
        refine zw_iload_n hX dX13_findRow_123 rfl ?_
        obtain ⟨w28, g, h⟩ := zb_some h
        refine zw_xl hX dX13_findRow_124 g ?_
        refine zw_lcmp hX dX13_findRow_125 ?_
        refine zw_if_ge (tgt := 174) hX dX13_findRow_126 (by decide) (fun c126 => ?_) (fun c126 => ?_)
        · rw [if_pos c126] at h
          refine zw_sub (lv' := [(0, .ref a0), (1, .int i1), (3, .int i3)]) (List.forall_mem_cons.mpr ⟨rfl, (List.forall_mem_cons.mpr ⟨rfl, (List.forall_mem_cons.mpr ⟨rfl, zs_nil⟩)⟩)⟩) ?_
          exact zt_X13_findRow_J174 hX hr hR hd hf hk ih h
        · rw [if_neg c126] at h
          refine zw_aload_n hX dX13_findRow_129 rfl ?_
          obtain ⟨b29, g, h⟩ := zb_some h
          refine zw_getr hX zl_X13_47 dX13_findRow_130 g ?_
          refine zw_iload_n hX dX13_findRow_133 rfl ?_
          refine zw_lload hX dX13_findRow_134 rfl ?_
          obtain ⟨S30, g, h⟩ := zb_some h
          refine zw_sl hX dX13_findRow_136 g ?_
          refine zw_iconst (v := (0 : Int32)) hX dX13_findRow_137 (by decide) ?_
          refine zw_istore hX dX13_findRow_138 (by decide) ?_
          obtain ⟨r, g, h⟩ := zb_some h
          refine zw_sub (lv' := [(0, .ref a0), (1, .int i1), (3, .int i3), (7, .int (0 : Int32))]) (List.forall_mem_cons.mpr ⟨rfl, (List.forall_mem_cons.mpr ⟨rfl, (List.forall_mem_cons.mpr ⟨rfl, (List.forall_mem_cons.mpr ⟨rfl, zs_nil⟩)⟩)⟩)⟩) ?_
          refine zt_X13_findRow_L140 hX hr hR hd (res := r) (out := out) a0 i1 i3 ?_ ?_ N _ _ g
          · intro o ho
            subst ho
            exact hf _ (Option.some.inj h).symm
          · intro  S36 hx
            subst hx
            try dsimp only at h
            refine zw_sub (lv' := [(0, .ref a0), (1, .int i1), (3, .int i3)]) (List.forall_mem_cons.mpr ⟨rfl, (List.forall_mem_cons.mpr ⟨rfl, (List.forall_mem_cons.mpr ⟨rfl, zs_nil⟩)⟩)⟩) ?_
            exact zt_X13_findRow_J174 hX hr hR hd hf hk ih h
def zf_X13_findRow (N : Nat) (a0 : Nat) (i1 : Int32) (i2 : Int32) (S : zm_S) : Option (Unit × zm_S) := (zg_r S a0 13 18).bind (fun b1 => (zs_l S b1 (((64 : Int32) * i1) + i2) (1152921504606846976 : Int64)).bind (fun S2 => (zp S2 a0 13 16 (.int (0 : Int32))).bind (fun S3 => (zf_X13_findRow_L24 N N a0 i1 i2 (((64 : Int32) * i1) + i2) (0 : Int32) S3).bind (fun r => match r with | .inl o => some o | .inr (_, S17) => (zf_X13_findRow_L97 N N a0 i1 (((64 : Int32) * i1) + i2) (1 : Int32) S17).bind (fun r => match r with | .inl o => some o | .inr (_, S37) => some ((), S37))))))
set_option maxHeartbeats 4000000 in
set_option maxRecDepth 100000 in
theorem zt_X13_findRow {l : Launch} {V : zm_V} {N : Nat} {S : zm_S} {out : (Unit × zm_S)} {d : Nat} {a0 : Nat} {i1 : Int32} {i2 : Int32} (hd : 3 ≤ d) (h : zf_X13_findRow N a0 i1 i2 S = some out) : zm_Met l zk_E V yX13_findRow (.code yX13_findRow cX13_findRow 8 none) d [.ref a0, .int i1, .int i2] S 0 0 (zo_v out) zo_x := by
  refine zm_of (by decide +kernel) (Nat.le_of_ble_eq_true rfl) ?_
  intro p e R s m args below meth c hRR hX hr hxt
  have hR : R.frames = d ∧ R.locals = 64 * d := by rw [hRR]; exact ⟨rfl, rfl⟩
  have hX : zm_X p R s m args meth c RX13 "findRow" cX13_findRow 8 zk_E V 0 0 := hX
  unfold zf_X13_findRow at h
  refine zw_sub (lv' := [(0, .ref a0), (1, .int i1), (2, .int i2)]) (List.forall_mem_cons.mpr ⟨rfl, (List.forall_mem_cons.mpr ⟨rfl, (List.forall_mem_cons.mpr ⟨rfl, zs_nil⟩)⟩)⟩) ?_
  refine zw_bipush (v := (64 : Int32)) hX dX13_findRow_0 (by decide) ?_
  refine zw_iload_n hX dX13_findRow_2 rfl ?_
  refine zw_imul hX dX13_findRow_3 ?_
  refine zw_iload_n hX dX13_findRow_4 rfl ?_
  refine zw_iadd hX dX13_findRow_5 ?_
  refine zw_istore_n hX dX13_findRow_6 (by decide) ?_
  refine zw_aload_n hX dX13_findRow_7 rfl ?_
  obtain ⟨b1, g, h⟩ := zb_some h
  refine zw_getr hX zl_X13_47 dX13_findRow_8 g ?_
  refine zw_iload_n hX dX13_findRow_11 rfl ?_
  refine zw_ldc2 (v := (1152921504606846976 : Int64)) hX dX13_findRow_12 zl_X13_104 ?_
  obtain ⟨S2, g, h⟩ := zb_some h
  refine zw_sl hX dX13_findRow_15 g ?_
  refine zw_aload_n hX dX13_findRow_16 rfl ?_
  refine zw_iconst (v := (0 : Int32)) hX dX13_findRow_17 (by decide) ?_
  obtain ⟨S3, g, h⟩ := zb_some h
  refine zw_putv hX zl_X13_94 zt_13_16 dX13_findRow_18 rfl rfl g ?_
  refine zw_iconst (v := (0 : Int32)) hX dX13_findRow_21 (by decide) ?_
  refine zw_istore hX dX13_findRow_22 (by decide) ?_
  obtain ⟨r, g, h⟩ := zb_some h
  refine zw_sub (lv' := [(0, .ref a0), (1, .int i1), (2, .int i2), (3, .int (((64 : Int32) * i1) + i2)), (4, .int (0 : Int32))]) (List.forall_mem_cons.mpr ⟨rfl, (List.forall_mem_cons.mpr ⟨rfl, (List.forall_mem_cons.mpr ⟨rfl, (List.forall_mem_cons.mpr ⟨rfl, (List.forall_mem_cons.mpr ⟨rfl, zs_nil⟩)⟩)⟩)⟩)⟩) ?_
  refine zt_X13_findRow_L24 hX hr hR hd (res := r) (out := out) a0 i1 i2 (((64 : Int32) * i1) + i2) ?_ ?_ N _ _ g
  · intro o ho
    subst ho
    exact Option.some.inj h
  · intro  S17 hx
    subst hx
    try dsimp only at h
    refine zw_iconst (v := (1 : Int32)) hX dX13_findRow_94 (by decide) ?_
    refine zw_istore hX dX13_findRow_95 (by decide) ?_
    obtain ⟨r, g, h⟩ := zb_some h
    refine zw_sub (lv' := [(0, .ref a0), (1, .int i1), (3, .int (((64 : Int32) * i1) + i2)), (4, .int (1 : Int32))]) (List.forall_mem_cons.mpr ⟨rfl, (List.forall_mem_cons.mpr ⟨rfl, (List.forall_mem_cons.mpr ⟨rfl, (List.forall_mem_cons.mpr ⟨rfl, zs_nil⟩)⟩)⟩)⟩) ?_
    refine zt_X13_findRow_L97 hX hr hR hd (res := r) (out := out) a0 i1 (((64 : Int32) * i1) + i2) ?_ ?_ N _ _ g
    · intro o ho
      subst ho
      exact Option.some.inj h
    · intro  S37 hx
      subst hx
      try dsimp only at h
      obtain rfl := Option.some.inj h
      exact zw_vret hX hr dX13_findRow_183 ⟨rfl, rfl⟩
def zf_X13_bitsOf_J38 (N : Nat) (k : Nat → Int32 → Int32 → Int32 → Int32 → zm_S → Option ((Int32 × zm_S) ⊕ ((Int32) × zm_S))) (a0 : Nat) (i2 : Int32) (i4 : Int32) (i5 : Int32) (t0 : Int32) (t1 : Int32) (S : zm_S) : Option ((Int32 × zm_S) ⊕ ((Int32) × zm_S)) := (zg_i S a0 13 0).bind (fun v3 => if v3 = 0 then none else k a0 i2 (t0 ||| t1) (i4 / v3) (i5 + (-1 : Int32)) S)
set_option maxHeartbeats 4000000 in
set_option maxRecDepth 100000 in
theorem zt_X13_bitsOf_J38 {p : Program} {l : Launch} {e : Env} {R : Room} {s : State} {m : MethodId} {args : Array Value} {below : List Frame} {meth : Method} {c : Code} {V : zm_V} {mc ms d rc rs : Nat} (hX : zm_X p R s m args meth c RX13 "bitsOf" cX13_bitsOf 6 zk_E V mc ms) (hr : meth.sig.returnType = (some .int)) (hR : R.frames = d ∧ R.locals = 64 * d) (hd : 1 ≤ d) {N : Nat} {k : Nat → Int32 → Int32 → Int32 → Int32 → zm_S → Option ((Int32 × zm_S) ⊕ ((Int32) × zm_S))} {a0 : Nat} {i2 : Int32} {i4 : Int32} {i5 : Int32} {t0 : Int32} {t1 : Int32} {res : (Int32 × zm_S) ⊕ ((Int32) × zm_S)} {out : (Int32 × zm_S)}   (hf : ∀ o, res = .inl o → o = out) (hk : ∀ (x3 : Int32) (S' : zm_S), res = .inr (x3, S') → zw p l e R s m args below meth c (vx_MQ below (zm_Qc zk_E V (zo_i out)) (zm_XC zk_E V zo_x) args s mc ms (fun q => V.2.2.2.1 ≤ q)) 6 zk_E V mc ms 55 [(3, .int x3)] [] S' rc rs) (hrec : ∀ (i3' : Int32) (i4' : Int32) (i5' : Int32) (S : zm_S), k a0 i2 i3' i4' i5' S = some res → zw p l e R s m args below meth c (vx_MQ below (zm_Qc zk_E V (zo_i out)) (zm_XC zk_E V zo_x) args s mc ms (fun q => V.2.2.2.1 ≤ q)) 6 zk_E V mc ms 13 [(0, .ref a0), (2, .int i2), (3, .int i3'), (4, .int i4'), (5, .int i5')] [] S rc rs) {S : zm_S} (h : zf_X13_bitsOf_J38 N k a0 i2 i4 i5 t0 t1 S = some res) : zw p l e R s m args below meth c (vx_MQ below (zm_Qc zk_E V (zo_i out)) (zm_XC zk_E V zo_x) args s mc ms (fun q => V.2.2.2.1 ≤ q)) 6 zk_E V mc ms 38 [(0, .ref a0), (2, .int i2), (4, .int i4), (5, .int i5)] [.int t1, .int t0] S rc rs := by
  unfold zf_X13_bitsOf_J38 at h
  refine zw_ior hX dX13_bitsOf_38 ?_
  refine zw_istore_n hX dX13_bitsOf_39 (by decide) ?_
  refine zw_iload hX dX13_bitsOf_40 rfl ?_
  refine zw_aload_n hX dX13_bitsOf_42 rfl ?_
  obtain ⟨v3, g, h⟩ := zb_some h
  refine zw_geti hX zl_X13_70 dX13_bitsOf_43 g ?_
  by_cases c0 : v3 = 0
  · rw [if_pos c0] at h
    cases h
  rw [if_neg c0] at h
  refine zw_idiv hX dX13_bitsOf_46 c0 ?_
  refine zw_istore hX dX13_bitsOf_47 (by decide) ?_
  refine zw_iinc (v := (i5 + (-1 : Int32))) hX dX13_bitsOf_49 rfl rfl (by decide) ?_
  refine zw_goto (tgt := 13) hX dX13_bitsOf_52 (by decide) ?_
  refine zw_sub (lv' := [(0, .ref a0), (2, .int i2), (3, .int (t0 ||| t1)), (4, .int (i4 / v3)), (5, .int (i5 + (-1 : Int32)))]) (List.forall_mem_cons.mpr ⟨rfl, (List.forall_mem_cons.mpr ⟨rfl, (List.forall_mem_cons.mpr ⟨rfl, (List.forall_mem_cons.mpr ⟨rfl, (List.forall_mem_cons.mpr ⟨rfl, zs_nil⟩)⟩)⟩)⟩)⟩) ?_
  exact hrec _ _ _ _ h
def zf_X13_bitsOf_L13 (N : Nat) : Nat → Nat → Int32 → Int32 → Int32 → Int32 → zm_S → Option ((Int32 × zm_S) ⊕ ((Int32) × zm_S))
  | 0, _, _, _, _, _, _ => none
  | n + 1, a0, i2, i3, i4, i5, S => if i5 < 0 then some (.inr (i3, S)) else (zg_i S a0 13 0).bind (fun v2 => if v2 = 0 then none else if (i4 - i4 / v2 * v2) = i2 then zf_X13_bitsOf_J38 N (zf_X13_bitsOf_L13 N n) a0 i2 i4 i5 i3 ((1 : Int32) <<< (i5 &&& 31)) S else zf_X13_bitsOf_J38 N (zf_X13_bitsOf_L13 N n) a0 i2 i4 i5 i3 (0 : Int32) S)
set_option maxHeartbeats 4000000 in
set_option maxRecDepth 100000 in
theorem zt_X13_bitsOf_L13 {p : Program} {l : Launch} {e : Env} {R : Room} {s : State} {m : MethodId} {args : Array Value} {below : List Frame} {meth : Method} {c : Code} {V : zm_V} {mc ms d rc rs : Nat} (hX : zm_X p R s m args meth c RX13 "bitsOf" cX13_bitsOf 6 zk_E V mc ms) (hr : meth.sig.returnType = (some .int)) (hR : R.frames = d ∧ R.locals = 64 * d) (hd : 1 ≤ d) {N : Nat} {res : (Int32 × zm_S) ⊕ ((Int32) × zm_S)} {out : (Int32 × zm_S)} (a0 : Nat) (i2 : Int32) (hf : ∀ o, res = .inl o → o = out) (hk : ∀ (x3 : Int32) (S' : zm_S), res = .inr (x3, S') → zw p l e R s m args below meth c (vx_MQ below (zm_Qc zk_E V (zo_i out)) (zm_XC zk_E V zo_x) args s mc ms (fun q => V.2.2.2.1 ≤ q)) 6 zk_E V mc ms 55 [(3, .int x3)] [] S' rc rs) : ∀ (n : Nat) (i3 : Int32) (i4 : Int32) (i5 : Int32) (S : zm_S), zf_X13_bitsOf_L13 N n a0 i2 i3 i4 i5 S = some res → zw p l e R s m args below meth c (vx_MQ below (zm_Qc zk_E V (zo_i out)) (zm_XC zk_E V zo_x) args s mc ms (fun q => V.2.2.2.1 ≤ q)) 6 zk_E V mc ms 13 [(0, .ref a0), (2, .int i2), (3, .int i3), (4, .int i4), (5, .int i5)] [] S rc rs := by
  intro n
  induction n with
  | zero => intro i3 i4 i5 S h; cases h
  | succ n ih =>
    intro i3 i4 i5 S h
    rw [zf_X13_bitsOf_L13] at h
    refine zw_iload hX dX13_bitsOf_13 rfl ?_
    refine zw_if_lt (tgt := 55) hX dX13_bitsOf_15 (by decide) (fun c15 => ?_) (fun c15 => ?_)
    · rw [if_pos c15] at h
      refine zw_sub (lv' := [(3, .int i3)]) (List.forall_mem_cons.mpr ⟨rfl, zs_nil⟩) ?_
      exact hk _ _ (Option.some.inj h).symm
    · rw [if_neg c15] at h
      refine zw_iload_n hX dX13_bitsOf_18 rfl ?_
      refine zw_iload hX dX13_bitsOf_19 rfl ?_
      refine zw_aload_n hX dX13_bitsOf_21 rfl ?_
      obtain ⟨v2, g, h⟩ := zb_some h
      refine zw_geti hX zl_X13_70 dX13_bitsOf_22 g ?_
      by_cases c0 : v2 = 0
      · rw [if_pos c0] at h
        cases h
      rw [if_neg c0] at h
      refine zw_irem hX dX13_bitsOf_25 c0 ?_
      refine zw_iload_n hX dX13_bitsOf_26 rfl ?_
      refine zw_icmp_ne (tgt := 37) hX dX13_bitsOf_27 (by decide) (fun c27 => ?_) (fun c27 => ?_)
      · rw [if_neg c27] at h
        refine zw_iconst (v := (0 : Int32)) hX dX13_bitsOf_37 (by decide) ?_
        refine zw_sub (lv' := [(0, .ref a0), (2, .int i2), (4, .int i4), (5, .int i5)]) (List.forall_mem_cons.mpr ⟨rfl, (List.forall_mem_cons.mpr ⟨rfl, (List.forall_mem_cons.mpr ⟨rfl, (List.forall_mem_cons.mpr ⟨rfl, zs_nil⟩)⟩)⟩)⟩) ?_
        exact zt_X13_bitsOf_J38 hX hr hR hd hf hk ih h
      · rw [if_pos c27] at h
        refine zw_iconst (v := (1 : Int32)) hX dX13_bitsOf_30 (by decide) ?_
        refine zw_iload hX dX13_bitsOf_31 rfl ?_
        refine zw_ishl hX dX13_bitsOf_33 ?_
        refine zw_goto (tgt := 38) hX dX13_bitsOf_34 (by decide) ?_
        refine zw_sub (lv' := [(0, .ref a0), (2, .int i2), (4, .int i4), (5, .int i5)]) (List.forall_mem_cons.mpr ⟨rfl, (List.forall_mem_cons.mpr ⟨rfl, (List.forall_mem_cons.mpr ⟨rfl, (List.forall_mem_cons.mpr ⟨rfl, zs_nil⟩)⟩)⟩)⟩) ?_
        exact zt_X13_bitsOf_J38 hX hr hR hd hf hk ih h
def zf_X13_bitsOf (N : Nat) (a0 : Nat) (i1 : Int32) (i2 : Int32) (S : zm_S) : Option (Int32 × zm_S) := (zg_i S a0 13 14).bind (fun v1 => (zf_X13_bitsOf_L13 N N a0 i2 (0 : Int32) i1 (v1 - (1 : Int32)) S).bind (fun r => match r with | .inl o => some o | .inr (v5, S4) => some (v5, S4)))
set_option maxHeartbeats 4000000 in
set_option maxRecDepth 100000 in
theorem zt_X13_bitsOf {l : Launch} {V : zm_V} {N : Nat} {S : zm_S} {out : (Int32 × zm_S)} {d : Nat} {a0 : Nat} {i1 : Int32} {i2 : Int32} (hd : 1 ≤ d) (h : zf_X13_bitsOf N a0 i1 i2 S = some out) : zm_Met l zk_E V yX13_bitsOf (.code yX13_bitsOf cX13_bitsOf 6 (some .int)) d [.ref a0, .int i1, .int i2] S 0 0 (zo_i out) zo_x := by
  refine zm_of (by decide +kernel) (Nat.le_of_ble_eq_true rfl) ?_
  intro p e R s m args below meth c hRR hX hr hxt
  have hR : R.frames = d ∧ R.locals = 64 * d := by rw [hRR]; exact ⟨rfl, rfl⟩
  have hX : zm_X p R s m args meth c RX13 "bitsOf" cX13_bitsOf 6 zk_E V 0 0 := hX
  unfold zf_X13_bitsOf at h
  refine zw_sub (lv' := [(0, .ref a0), (1, .int i1), (2, .int i2)]) (List.forall_mem_cons.mpr ⟨rfl, (List.forall_mem_cons.mpr ⟨rfl, (List.forall_mem_cons.mpr ⟨rfl, zs_nil⟩)⟩)⟩) ?_
  refine zw_iconst (v := (0 : Int32)) hX dX13_bitsOf_0 (by decide) ?_
  refine zw_istore_n hX dX13_bitsOf_1 (by decide) ?_
  refine zw_iload_n hX dX13_bitsOf_2 rfl ?_
  refine zw_istore hX dX13_bitsOf_3 (by decide) ?_
  refine zw_aload_n hX dX13_bitsOf_5 rfl ?_
  obtain ⟨v1, g, h⟩ := zb_some h
  refine zw_geti hX zl_X13_84 dX13_bitsOf_6 g ?_
  refine zw_iconst (v := (1 : Int32)) hX dX13_bitsOf_9 (by decide) ?_
  refine zw_isub hX dX13_bitsOf_10 ?_
  refine zw_istore hX dX13_bitsOf_11 (by decide) ?_
  obtain ⟨r, g, h⟩ := zb_some h
  refine zw_sub (lv' := [(0, .ref a0), (2, .int i2), (3, .int (0 : Int32)), (4, .int i1), (5, .int (v1 - (1 : Int32)))]) (List.forall_mem_cons.mpr ⟨rfl, (List.forall_mem_cons.mpr ⟨rfl, (List.forall_mem_cons.mpr ⟨rfl, (List.forall_mem_cons.mpr ⟨rfl, (List.forall_mem_cons.mpr ⟨rfl, zs_nil⟩)⟩)⟩)⟩)⟩) ?_
  refine zt_X13_bitsOf_L13 hX hr hR hd (res := r) (out := out) a0 i2 ?_ ?_ N _ _ _ _ g
  · intro o ho
    subst ho
    exact Option.some.inj h
  · intro v5 S4 hx
    subst hx
    try dsimp only at h
    refine zw_iload_n hX dX13_bitsOf_55 rfl ?_
    obtain rfl := Option.some.inj h
    exact zw_iret hX hr dX13_bitsOf_56 rfl ⟨rfl, rfl⟩
def zf_X13_sumOf_L5 (N : Nat) : Nat → Nat → Int32 → Int64 → Int32 → zm_S → Option ((Int64 × zm_S) ⊕ ((Int64) × zm_S))
  | 0, _, _, _, _, _ => none
  | n + 1, a0, i1, j2, i4, S => (zg_i S a0 13 0).bind (fun v1 => if v1 ≤ i4 then some (.inr (j2, S)) else (zg_r S a0 13 18).bind (fun b2 => (zi S a0 13).bind (fun _ => (zf_X13_bitsOf N a0 i1 i4 S).bind (fun r5 => (za_l r5.2 b2 (((64 : Int32) * i4) + r5.1)).bind (fun w6 => zf_X13_sumOf_L5 N n a0 i1 (j2 + w6) (i4 + (1 : Int32)) r5.2)))))
set_option maxHeartbeats 4000000 in
set_option maxRecDepth 100000 in
theorem zt_X13_sumOf_L5 {p : Program} {l : Launch} {e : Env} {R : Room} {s : State} {m : MethodId} {args : Array Value} {below : List Frame} {meth : Method} {c : Code} {V : zm_V} {mc ms d rc rs : Nat} (hX : zm_X p R s m args meth c RX13 "sumOf" cX13_sumOf 5 zk_E V mc ms) (hr : meth.sig.returnType = (some .long)) (hR : R.frames = d ∧ R.locals = 64 * d) (hd : 2 ≤ d) {N : Nat} {res : (Int64 × zm_S) ⊕ ((Int64) × zm_S)} {out : (Int64 × zm_S)} (a0 : Nat) (i1 : Int32) (hf : ∀ o, res = .inl o → o = out) (hk : ∀ (x2 : Int64) (S' : zm_S), res = .inr (x2, S') → zw p l e R s m args below meth c (vx_MQ below (zm_Qc zk_E V (zo_l out)) (zm_XC zk_E V zo_x) args s mc ms (fun q => V.2.2.2.1 ≤ q)) 5 zk_E V mc ms 41 [(2, .long x2)] [] S' rc rs) : ∀ (n : Nat) (j2 : Int64) (i4 : Int32) (S : zm_S), zf_X13_sumOf_L5 N n a0 i1 j2 i4 S = some res → zw p l e R s m args below meth c (vx_MQ below (zm_Qc zk_E V (zo_l out)) (zm_XC zk_E V zo_x) args s mc ms (fun q => V.2.2.2.1 ≤ q)) 5 zk_E V mc ms 5 [(0, .ref a0), (1, .int i1), (2, .long j2), (4, .int i4)] [] S rc rs := by
  intro n
  induction n with
  | zero => intro j2 i4 S h; cases h
  | succ n ih =>
    intro j2 i4 S h
    rw [zf_X13_sumOf_L5] at h
    refine zw_iload hX dX13_sumOf_5 rfl ?_
    refine zw_aload_n hX dX13_sumOf_7 rfl ?_
    obtain ⟨v1, g, h⟩ := zb_some h
    refine zw_geti hX zl_X13_70 dX13_sumOf_8 g ?_
    refine zw_icmp_ge (tgt := 41) hX dX13_sumOf_11 (by decide) (fun c11 => ?_) (fun c11 => ?_)
    · rw [if_pos c11] at h
      refine zw_sub (lv' := [(2, .long j2)]) (List.forall_mem_cons.mpr ⟨rfl, zs_nil⟩) ?_
      exact hk _ _ (Option.some.inj h).symm
    · rw [if_neg c11] at h
      refine zw_lload_n hX dX13_sumOf_14 rfl ?_
      refine zw_aload_n hX dX13_sumOf_15 rfl ?_
      obtain ⟨b2, g, h⟩ := zb_some h
      refine zw_getr hX zl_X13_47 dX13_sumOf_16 g ?_
      refine zw_bipush (v := (64 : Int32)) hX dX13_sumOf_19 (by decide) ?_
      refine zw_iload hX dX13_sumOf_21 rfl ?_
      refine zw_imul hX dX13_sumOf_23 ?_
      refine zw_aload_n hX dX13_sumOf_24 rfl ?_
      refine zw_iload_n hX dX13_sumOf_25 rfl ?_
      refine zw_iload hX dX13_sumOf_26 rfl ?_
      obtain ⟨_, gi, h⟩ := zb_some h
      obtain ⟨r5, g, h⟩ := zb_some h
      refine zc_Vi (as := [.int i1, .int i4]) hX gi (zt_X13_bitsOf (d := d - 1) (by omega) g) zl_X13_118 rfl dX13_sumOf_28 ⟨rfl, rfl, Nat.le_of_ble_eq_true rfl⟩ ⟨by omega, by omega⟩ ?_
      refine zw_iadd hX dX13_sumOf_31 ?_
      obtain ⟨w6, g, h⟩ := zb_some h
      refine zw_xl hX dX13_sumOf_32 g ?_
      refine zw_ladd hX dX13_sumOf_33 ?_
      refine zw_lstore_n hX dX13_sumOf_34 (by decide) ?_
      refine zw_iinc (v := (i4 + (1 : Int32))) hX dX13_sumOf_35 rfl rfl (by decide) ?_
      refine zw_goto (tgt := 5) hX dX13_sumOf_38 (by decide) ?_
      refine zw_sub (lv' := [(0, .ref a0), (1, .int i1), (2, .long (j2 + w6)), (4, .int (i4 + (1 : Int32)))]) (List.forall_mem_cons.mpr ⟨rfl, (List.forall_mem_cons.mpr ⟨rfl, (List.forall_mem_cons.mpr ⟨rfl, (List.forall_mem_cons.mpr ⟨rfl, zs_nil⟩)⟩)⟩)⟩) ?_
      exact ih _ _ _ h
def zf_X13_sumOf (N : Nat) (a0 : Nat) (i1 : Int32) (S : zm_S) : Option (Int64 × zm_S) := (zf_X13_sumOf_L5 N N a0 i1 (0 : Int64) (0 : Int32) S).bind (fun r => match r with | .inl o => some o | .inr (w8, S7) => some (w8, S7))
set_option maxHeartbeats 4000000 in
set_option maxRecDepth 100000 in
theorem zt_X13_sumOf {l : Launch} {V : zm_V} {N : Nat} {S : zm_S} {out : (Int64 × zm_S)} {d : Nat} {a0 : Nat} {i1 : Int32} (hd : 2 ≤ d) (h : zf_X13_sumOf N a0 i1 S = some out) : zm_Met l zk_E V yX13_sumOf (.code yX13_sumOf cX13_sumOf 5 (some .long)) d [.ref a0, .int i1] S 0 0 (zo_l out) zo_x := by
  refine zm_of (by decide +kernel) (Nat.le_of_ble_eq_true rfl) ?_
  intro p e R s m args below meth c hRR hX hr hxt
  have hR : R.frames = d ∧ R.locals = 64 * d := by rw [hRR]; exact ⟨rfl, rfl⟩
  have hX : zm_X p R s m args meth c RX13 "sumOf" cX13_sumOf 5 zk_E V 0 0 := hX
  unfold zf_X13_sumOf at h
  refine zw_sub (lv' := [(0, .ref a0), (1, .int i1)]) (List.forall_mem_cons.mpr ⟨rfl, (List.forall_mem_cons.mpr ⟨rfl, zs_nil⟩)⟩) ?_
  refine zw_lconst (v := (0 : Int64)) hX dX13_sumOf_0 (by decide) ?_
  refine zw_lstore_n hX dX13_sumOf_1 (by decide) ?_
  refine zw_iconst (v := (0 : Int32)) hX dX13_sumOf_2 (by decide) ?_
  refine zw_istore hX dX13_sumOf_3 (by decide) ?_
  obtain ⟨r, g, h⟩ := zb_some h
  refine zw_sub (lv' := [(0, .ref a0), (1, .int i1), (2, .long (0 : Int64)), (4, .int (0 : Int32))]) (List.forall_mem_cons.mpr ⟨rfl, (List.forall_mem_cons.mpr ⟨rfl, (List.forall_mem_cons.mpr ⟨rfl, (List.forall_mem_cons.mpr ⟨rfl, zs_nil⟩)⟩)⟩)⟩) ?_
  refine zt_X13_sumOf_L5 hX hr hR hd (res := r) (out := out) a0 i1 ?_ ?_ N _ _ _ g
  · intro o ho
    subst ho
    exact Option.some.inj h
  · intro w8 S7 hx
    subst hx
    try dsimp only at h
    refine zw_lload_n hX dX13_sumOf_41 rfl ?_
    obtain rfl := Option.some.inj h
    exact zw_lret hX hr dX13_sumOf_42 ⟨rfl, rfl⟩
def zf_X13_tell_L20 (N : Nat) : Nat → Nat → Int32 → Int32 → Int32 → Int32 → Int32 → Int32 → zm_S → Option ((Unit × zm_S) ⊕ ((Int32) × zm_S))
  | 0, _, _, _, _, _, _, _, _ => none
  | n + 1, a0, i1, i2, i3, i4, i5, i6, S => if (6 : Int32) ≤ i6 then some (.inr (i5, S)) else zf_X13_tell_L20 N n a0 i1 i2 i3 i4 (i5 + ((i2 >>> (i6 &&& 31)) &&& (1 : Int32))) (i6 + (1 : Int32)) S
set_option maxHeartbeats 4000000 in
set_option maxRecDepth 100000 in
theorem zt_X13_tell_L20 {p : Program} {l : Launch} {e : Env} {R : Room} {s : State} {m : MethodId} {args : Array Value} {below : List Frame} {meth : Method} {c : Code} {V : zm_V} {mc ms d rc rs : Nat} (hX : zm_X p R s m args meth c RX13 "tell" cX13_tell 8 zk_E V mc ms) (hr : meth.sig.returnType = none) (hR : R.frames = d ∧ R.locals = 64 * d) (hd : 2 ≤ d) {N : Nat} {res : (Unit × zm_S) ⊕ ((Int32) × zm_S)} {out : (Unit × zm_S)} (a0 : Nat) (i1 : Int32) (i2 : Int32) (i3 : Int32) (i4 : Int32) (hf : ∀ o, res = .inl o → o = out) (hk : ∀ (x5 : Int32) (S' : zm_S), res = .inr (x5, S') → zw p l e R s m args below meth c (vx_MQ below (zm_Qc zk_E V (zo_v out)) (zm_XC zk_E V zo_x) args s mc ms (fun q => V.2.2.2.1 ≤ q)) 8 zk_E V mc ms 44 [(0, .ref a0), (1, .int i1), (2, .int i2), (3, .int i3), (4, .int i4), (5, .int x5)] [] S' rc rs) : ∀ (n : Nat) (i5 : Int32) (i6 : Int32) (S : zm_S), zf_X13_tell_L20 N n a0 i1 i2 i3 i4 i5 i6 S = some res → zw p l e R s m args below meth c (vx_MQ below (zm_Qc zk_E V (zo_v out)) (zm_XC zk_E V zo_x) args s mc ms (fun q => V.2.2.2.1 ≤ q)) 8 zk_E V mc ms 20 [(0, .ref a0), (1, .int i1), (2, .int i2), (3, .int i3), (4, .int i4), (5, .int i5), (6, .int i6)] [] S rc rs := by
  intro n
  induction n with
  | zero => intro i5 i6 S h; cases h
  | succ n ih =>
    intro i5 i6 S h
    rw [zf_X13_tell_L20] at h
    refine zw_iload hX dX13_tell_20 rfl ?_
    refine zw_bipush (v := (6 : Int32)) hX dX13_tell_22 (by decide) ?_
    refine zw_icmp_ge (tgt := 44) hX dX13_tell_24 (by decide) (fun c24 => ?_) (fun c24 => ?_)
    · rw [if_pos c24] at h
      refine zw_sub (lv' := [(0, .ref a0), (1, .int i1), (2, .int i2), (3, .int i3), (4, .int i4), (5, .int i5)]) (List.forall_mem_cons.mpr ⟨rfl, (List.forall_mem_cons.mpr ⟨rfl, (List.forall_mem_cons.mpr ⟨rfl, (List.forall_mem_cons.mpr ⟨rfl, (List.forall_mem_cons.mpr ⟨rfl, (List.forall_mem_cons.mpr ⟨rfl, zs_nil⟩)⟩)⟩)⟩)⟩)⟩) ?_
      exact hk _ _ (Option.some.inj h).symm
    · rw [if_neg c24] at h
      refine zw_iload hX dX13_tell_27 rfl ?_
      refine zw_iload_n hX dX13_tell_29 rfl ?_
      refine zw_iload hX dX13_tell_30 rfl ?_
      refine zw_ishr hX dX13_tell_32 ?_
      refine zw_iconst (v := (1 : Int32)) hX dX13_tell_33 (by decide) ?_
      refine zw_iand hX dX13_tell_34 ?_
      refine zw_iadd hX dX13_tell_35 ?_
      refine zw_istore hX dX13_tell_36 (by decide) ?_
      refine zw_iinc (v := (i6 + (1 : Int32))) hX dX13_tell_38 rfl rfl (by decide) ?_
      refine zw_goto (tgt := 20) hX dX13_tell_41 (by decide) ?_
      refine zw_sub (lv' := [(0, .ref a0), (1, .int i1), (2, .int i2), (3, .int i3), (4, .int i4), (5, .int (i5 + ((i2 >>> (i6 &&& 31)) &&& (1 : Int32)))), (6, .int (i6 + (1 : Int32)))]) (List.forall_mem_cons.mpr ⟨rfl, (List.forall_mem_cons.mpr ⟨rfl, (List.forall_mem_cons.mpr ⟨rfl, (List.forall_mem_cons.mpr ⟨rfl, (List.forall_mem_cons.mpr ⟨rfl, (List.forall_mem_cons.mpr ⟨rfl, (List.forall_mem_cons.mpr ⟨rfl, zs_nil⟩)⟩)⟩)⟩)⟩)⟩)⟩) ?_
      exact ih _ _ _ h
def zf_X13_tell_L47 (N : Nat) : Nat → Nat → Int32 → Int32 → Int32 → Int32 → Int32 → Int32 → zm_S → Option ((Unit × zm_S) ⊕ ((Unit) × zm_S))
  | 0, _, _, _, _, _, _, _, _ => none
  | n + 1, a0, i1, i2, i3, i4, i5, i6, S => if i5 ≤ i6 then some (.inr ((), S)) else (zg_r S a0 13 19).bind (fun b8 => (za_x S 0 b8 (((6 : Int32) * (((64 : Int32) * i1) + i2)) + i6)).bind (fun v9 => (zg_r S a0 13 20).bind (fun b10 => (zs_i S b10 v9 i1).bind (fun S11 => (zg_r S11 a0 13 23).bind (fun b12 => (zs_i S11 b12 v9 i6).bind (fun S13 => (zg_r S13 a0 13 21).bind (fun b14 => (zg_r S13 a0 13 7).bind (fun b15 => (za_x S13 0 b15 v9).bind (fun v16 => (zi S13 a0 13).bind (fun _ => (zf_X13_way N a0 i1 i4 v16 S13).bind (fun r19 => (zs_i r19.2 b14 v9 (i3 + r19.1)).bind (fun S20 => (zg_r S20 a0 13 22).bind (fun b21 => (zg_r S20 a0 13 21).bind (fun b22 => (za_x S20 0 b22 v9).bind (fun v23 => (zg_r S20 a0 13 7).bind (fun b24 => (za_x S20 0 b24 v9).bind (fun v25 => (zg_r S20 a0 13 8).bind (fun b26 => (za_x S20 0 b26 v9).bind (fun v27 => (zi S20 a0 13).bind (fun _ => (zf_X13_way N a0 i1 v25 v27 S20).bind (fun r30 => (zs_i r30.2 b21 v9 ((v23 + (3 : Int32)) + r30.1)).bind (fun S31 => (zg_r S31 a0 13 22).bind (fun b32 => (za_x S31 0 b32 v9).bind (fun v33 => (zg_r S31 a0 13 8).bind (fun b34 => (za_x S31 0 b34 v9).bind (fun v35 => zf_X13_tell_L47 N n a0 i1 i2 (v33 + (3 : Int32)) v35 i5 (i6 + (1 : Int32)) S31))))))))))))))))))))))))))
set_option maxHeartbeats 4000000 in
set_option maxRecDepth 100000 in
theorem zt_X13_tell_L47 {p : Program} {l : Launch} {e : Env} {R : Room} {s : State} {m : MethodId} {args : Array Value} {below : List Frame} {meth : Method} {c : Code} {V : zm_V} {mc ms d rc rs : Nat} (hX : zm_X p R s m args meth c RX13 "tell" cX13_tell 8 zk_E V mc ms) (hr : meth.sig.returnType = none) (hR : R.frames = d ∧ R.locals = 64 * d) (hd : 2 ≤ d) {N : Nat} {res : (Unit × zm_S) ⊕ ((Unit) × zm_S)} {out : (Unit × zm_S)} (a0 : Nat) (i1 : Int32) (i2 : Int32) (i5 : Int32) (hf : ∀ o, res = .inl o → o = out) (hk : ∀ (S' : zm_S), res = .inr ((), S') → zw p l e R s m args below meth c (vx_MQ below (zm_Qc zk_E V (zo_v out)) (zm_XC zk_E V zo_x) args s mc ms (fun q => V.2.2.2.1 ≤ q)) 8 zk_E V mc ms 174 [] [] S' rc rs) : ∀ (n : Nat) (i3 : Int32) (i4 : Int32) (i6 : Int32) (S : zm_S), zf_X13_tell_L47 N n a0 i1 i2 i3 i4 i5 i6 S = some res → zw p l e R s m args below meth c (vx_MQ below (zm_Qc zk_E V (zo_v out)) (zm_XC zk_E V zo_x) args s mc ms (fun q => V.2.2.2.1 ≤ q)) 8 zk_E V mc ms 47 [(0, .ref a0), (1, .int i1), (2, .int i2), (3, .int i3), (4, .int i4), (5, .int i5), (6, .int i6)] [] S rc rs := by
  intro n
  induction n with
  | zero => intro i3 i4 i6 S h; cases h
  | succ n ih =>
    intro i3 i4 i6 S h
    rw [zf_X13_tell_L47] at h
    refine zw_iload hX dX13_tell_47 rfl ?_
    refine zw_iload hX dX13_tell_49 rfl ?_
    refine zw_icmp_ge (tgt := 174) hX dX13_tell_51 (by decide) (fun c51 => ?_) (fun c51 => ?_)
    · rw [if_pos c51] at h
      refine zw_sub (lv' := []) zs_nil ?_
      exact hk  _ (Option.some.inj h).symm
    · rw [if_neg c51] at h
      refine zw_aload_n hX dX13_tell_54 rfl ?_
      obtain ⟨b8, g, h⟩ := zb_some h
      refine zw_getr hX zl_X13_51 dX13_tell_55 g ?_
      refine zw_bipush (v := (6 : Int32)) hX dX13_tell_58 (by decide) ?_
      refine zw_bipush (v := (64 : Int32)) hX dX13_tell_60 (by decide) ?_
      refine zw_iload_n hX dX13_tell_62 rfl ?_
      refine zw_imul hX dX13_tell_63 ?_
      refine zw_iload_n hX dX13_tell_64 rfl ?_
      refine zw_iadd hX dX13_tell_65 ?_
      refine zw_imul hX dX13_tell_66 ?_
      refine zw_iload hX dX13_tell_67 rfl ?_
      refine zw_iadd hX dX13_tell_69 ?_
      obtain ⟨v9, g, h⟩ := zb_some h
      refine zw_xi hX dX13_tell_70 g ?_
      refine zw_istore hX dX13_tell_71 (by decide) ?_
      refine zw_aload_n hX dX13_tell_73 rfl ?_
      obtain ⟨b10, g, h⟩ := zb_some h
      refine zw_getr hX zl_X13_54 dX13_tell_74 g ?_
      refine zw_iload hX dX13_tell_77 rfl ?_
      refine zw_iload_n hX dX13_tell_79 rfl ?_
      obtain ⟨S11, g, h⟩ := zb_some h
      refine zw_si hX dX13_tell_80 g ?_
      refine zw_aload_n hX dX13_tell_81 rfl ?_
      obtain ⟨b12, g, h⟩ := zb_some h
      refine zw_getr hX zl_X13_63 dX13_tell_82 g ?_
      refine zw_iload hX dX13_tell_85 rfl ?_
      refine zw_iload hX dX13_tell_87 rfl ?_
      obtain ⟨S13, g, h⟩ := zb_some h
      refine zw_si hX dX13_tell_89 g ?_
      refine zw_aload_n hX dX13_tell_90 rfl ?_
      obtain ⟨b14, g, h⟩ := zb_some h
      refine zw_getr hX zl_X13_57 dX13_tell_91 g ?_
      refine zw_iload hX dX13_tell_94 rfl ?_
      refine zw_iload_n hX dX13_tell_96 rfl ?_
      refine zw_aload_n hX dX13_tell_97 rfl ?_
      refine zw_iload_n hX dX13_tell_98 rfl ?_
      refine zw_iload hX dX13_tell_99 rfl ?_
      refine zw_aload_n hX dX13_tell_101 rfl ?_
      obtain ⟨b15, g, h⟩ := zb_some h
      refine zw_getr hX zl_X13_25 dX13_tell_102 g ?_
      refine zw_iload hX dX13_tell_105 rfl ?_
      obtain ⟨v16, g, h⟩ := zb_some h
      refine zw_xi hX dX13_tell_107 g ?_
      obtain ⟨_, gi, h⟩ := zb_some h
      obtain ⟨r19, g, h⟩ := zb_some h
      refine zc_Vi (as := [.int i1, .int i4, .int v16]) hX gi (zt_X13_way (d := d - 1) (by omega) g) zl_X13_97 rfl dX13_tell_108 ⟨rfl, rfl, Nat.le_of_ble_eq_true rfl⟩ ⟨by omega, by omega⟩ ?_
      refine zw_iadd hX dX13_tell_111 ?_
      obtain ⟨S20, g, h⟩ := zb_some h
      refine zw_si hX dX13_tell_112 g ?_
      refine zw_aload_n hX dX13_tell_113 rfl ?_
      obtain ⟨b21, g, h⟩ := zb_some h
      refine zw_getr hX zl_X13_60 dX13_tell_114 g ?_
      refine zw_iload hX dX13_tell_117 rfl ?_
      refine zw_aload_n hX dX13_tell_119 rfl ?_
      obtain ⟨b22, g, h⟩ := zb_some h
      refine zw_getr hX zl_X13_57 dX13_tell_120 g ?_
      refine zw_iload hX dX13_tell_123 rfl ?_
      obtain ⟨v23, g, h⟩ := zb_some h
      refine zw_xi hX dX13_tell_125 g ?_
      refine zw_iconst (v := (3 : Int32)) hX dX13_tell_126 (by decide) ?_
      refine zw_iadd hX dX13_tell_127 ?_
      refine zw_aload_n hX dX13_tell_128 rfl ?_
      refine zw_iload_n hX dX13_tell_129 rfl ?_
      refine zw_aload_n hX dX13_tell_130 rfl ?_
      obtain ⟨b24, g, h⟩ := zb_some h
      refine zw_getr hX zl_X13_25 dX13_tell_131 g ?_
      refine zw_iload hX dX13_tell_134 rfl ?_
      obtain ⟨v25, g, h⟩ := zb_some h
      refine zw_xi hX dX13_tell_136 g ?_
      refine zw_aload_n hX dX13_tell_137 rfl ?_
      obtain ⟨b26, g, h⟩ := zb_some h
      refine zw_getr hX zl_X13_28 dX13_tell_138 g ?_
      refine zw_iload hX dX13_tell_141 rfl ?_
      obtain ⟨v27, g, h⟩ := zb_some h
      refine zw_xi hX dX13_tell_143 g ?_
      obtain ⟨_, gi, h⟩ := zb_some h
      obtain ⟨r30, g, h⟩ := zb_some h
      refine zc_Vi (as := [.int i1, .int v25, .int v27]) hX gi (zt_X13_way (d := d - 1) (by omega) g) zl_X13_97 rfl dX13_tell_144 ⟨rfl, rfl, Nat.le_of_ble_eq_true rfl⟩ ⟨by omega, by omega⟩ ?_
      refine zw_iadd hX dX13_tell_147 ?_
      obtain ⟨S31, g, h⟩ := zb_some h
      refine zw_si hX dX13_tell_148 g ?_
      refine zw_aload_n hX dX13_tell_149 rfl ?_
      obtain ⟨b32, g, h⟩ := zb_some h
      refine zw_getr hX zl_X13_60 dX13_tell_150 g ?_
      refine zw_iload hX dX13_tell_153 rfl ?_
      obtain ⟨v33, g, h⟩ := zb_some h
      refine zw_xi hX dX13_tell_155 g ?_
      refine zw_iconst (v := (3 : Int32)) hX dX13_tell_156 (by decide) ?_
      refine zw_iadd hX dX13_tell_157 ?_
      refine zw_istore_n hX dX13_tell_158 (by decide) ?_
      refine zw_aload_n hX dX13_tell_159 rfl ?_
      obtain ⟨b34, g, h⟩ := zb_some h
      refine zw_getr hX zl_X13_28 dX13_tell_160 g ?_
      refine zw_iload hX dX13_tell_163 rfl ?_
      obtain ⟨v35, g, h⟩ := zb_some h
      refine zw_xi hX dX13_tell_165 g ?_
      refine zw_istore hX dX13_tell_166 (by decide) ?_
      refine zw_iinc (v := (i6 + (1 : Int32))) hX dX13_tell_168 rfl rfl (by decide) ?_
      refine zw_goto (tgt := 47) hX dX13_tell_171 (by decide) ?_
      refine zw_sub (lv' := [(0, .ref a0), (1, .int i1), (2, .int i2), (3, .int (v33 + (3 : Int32))), (4, .int v35), (5, .int i5), (6, .int (i6 + (1 : Int32)))]) (List.forall_mem_cons.mpr ⟨rfl, (List.forall_mem_cons.mpr ⟨rfl, (List.forall_mem_cons.mpr ⟨rfl, (List.forall_mem_cons.mpr ⟨rfl, (List.forall_mem_cons.mpr ⟨rfl, (List.forall_mem_cons.mpr ⟨rfl, (List.forall_mem_cons.mpr ⟨rfl, zs_nil⟩)⟩)⟩)⟩)⟩)⟩)⟩) ?_
      exact ih _ _ _ _ h
def zf_X13_tell (N : Nat) (a0 : Nat) (i1 : Int32) (i2 : Int32) (S : zm_S) : Option (Unit × zm_S) := (zi S a0 13).bind (fun _ => (zf_X13_begins N a0 i1 S).bind (fun r3 => (zg_r r3.2 a0 13 2).bind (fun b4 => (za_x r3.2 0 b4 i1).bind (fun v5 => (zf_X13_tell_L20 N N a0 i1 i2 r3.1 v5 (0 : Int32) (0 : Int32) r3.2).bind (fun r => match r with | .inl o => some o | .inr (v7, S6) => (zf_X13_tell_L47 N N a0 i1 i2 r3.1 v5 v7 (0 : Int32) S6).bind (fun r => match r with | .inl o => some o | .inr (_, S36) => some ((), S36)))))))
set_option maxHeartbeats 4000000 in
set_option maxRecDepth 100000 in
theorem zt_X13_tell {l : Launch} {V : zm_V} {N : Nat} {S : zm_S} {out : (Unit × zm_S)} {d : Nat} {a0 : Nat} {i1 : Int32} {i2 : Int32} (hd : 2 ≤ d) (h : zf_X13_tell N a0 i1 i2 S = some out) : zm_Met l zk_E V yX13_tell (.code yX13_tell cX13_tell 8 none) d [.ref a0, .int i1, .int i2] S 0 0 (zo_v out) zo_x := by
  refine zm_of (by decide +kernel) (Nat.le_of_ble_eq_true rfl) ?_
  intro p e R s m args below meth c hRR hX hr hxt
  have hR : R.frames = d ∧ R.locals = 64 * d := by rw [hRR]; exact ⟨rfl, rfl⟩
  have hX : zm_X p R s m args meth c RX13 "tell" cX13_tell 8 zk_E V 0 0 := hX
  unfold zf_X13_tell at h
  refine zw_sub (lv' := [(0, .ref a0), (1, .int i1), (2, .int i2)]) (List.forall_mem_cons.mpr ⟨rfl, (List.forall_mem_cons.mpr ⟨rfl, (List.forall_mem_cons.mpr ⟨rfl, zs_nil⟩)⟩)⟩) ?_
  refine zw_aload_n hX dX13_tell_0 rfl ?_
  refine zw_iload_n hX dX13_tell_1 rfl ?_
  obtain ⟨_, gi, h⟩ := zb_some h
  obtain ⟨r3, g, h⟩ := zb_some h
  refine zc_Vi (as := [.int i1]) hX gi (zt_X13_begins (d := d - 1) (by omega) g) zl_X13_91 rfl dX13_tell_2 ⟨rfl, rfl, Nat.le_of_ble_eq_true rfl⟩ ⟨by omega, by omega⟩ ?_
  refine zw_istore_n hX dX13_tell_5 (by decide) ?_
  refine zw_aload_n hX dX13_tell_6 rfl ?_
  obtain ⟨b4, g, h⟩ := zb_some h
  refine zw_getr hX zl_X13_13 dX13_tell_7 g ?_
  refine zw_iload_n hX dX13_tell_10 rfl ?_
  obtain ⟨v5, g, h⟩ := zb_some h
  refine zw_xi hX dX13_tell_11 g ?_
  refine zw_istore hX dX13_tell_12 (by decide) ?_
  refine zw_iconst (v := (0 : Int32)) hX dX13_tell_14 (by decide) ?_
  refine zw_istore hX dX13_tell_15 (by decide) ?_
  refine zw_iconst (v := (0 : Int32)) hX dX13_tell_17 (by decide) ?_
  refine zw_istore hX dX13_tell_18 (by decide) ?_
  obtain ⟨r, g, h⟩ := zb_some h
  refine zw_sub (lv' := [(0, .ref a0), (1, .int i1), (2, .int i2), (3, .int r3.1), (4, .int v5), (5, .int (0 : Int32)), (6, .int (0 : Int32))]) (List.forall_mem_cons.mpr ⟨rfl, (List.forall_mem_cons.mpr ⟨rfl, (List.forall_mem_cons.mpr ⟨rfl, (List.forall_mem_cons.mpr ⟨rfl, (List.forall_mem_cons.mpr ⟨rfl, (List.forall_mem_cons.mpr ⟨rfl, (List.forall_mem_cons.mpr ⟨rfl, zs_nil⟩)⟩)⟩)⟩)⟩)⟩)⟩) ?_
  refine zt_X13_tell_L20 hX hr hR hd (res := r) (out := out) a0 i1 i2 r3.1 v5 ?_ ?_ N _ _ _ g
  · intro o ho
    subst ho
    exact Option.some.inj h
  · intro v7 S6 hx
    subst hx
    try dsimp only at h
    refine zw_iconst (v := (0 : Int32)) hX dX13_tell_44 (by decide) ?_
    refine zw_istore hX dX13_tell_45 (by decide) ?_
    obtain ⟨r, g, h⟩ := zb_some h
    refine zw_sub (lv' := [(0, .ref a0), (1, .int i1), (2, .int i2), (3, .int r3.1), (4, .int v5), (5, .int v7), (6, .int (0 : Int32))]) (List.forall_mem_cons.mpr ⟨rfl, (List.forall_mem_cons.mpr ⟨rfl, (List.forall_mem_cons.mpr ⟨rfl, (List.forall_mem_cons.mpr ⟨rfl, (List.forall_mem_cons.mpr ⟨rfl, (List.forall_mem_cons.mpr ⟨rfl, (List.forall_mem_cons.mpr ⟨rfl, zs_nil⟩)⟩)⟩)⟩)⟩)⟩)⟩) ?_
    refine zt_X13_tell_L47 hX hr hR hd (res := r) (out := out) a0 i1 i2 v7 ?_ ?_ N _ _ _ _ g
    · intro o ho
      subst ho
      exact Option.some.inj h
    · intro  S36 hx
      subst hx
      try dsimp only at h
      obtain rfl := Option.some.inj h
      exact zw_vret hX hr dX13_tell_174 ⟨rfl, rfl⟩
def zf_X13_give_L8 (N : Nat) : Nat → Nat → Int32 → Int32 → zm_S → Option ((Int64 × zm_S) ⊕ ((Int32) × zm_S))
  | 0, _, _, _, _ => none
  | n + 1, a0, i1, i2, S => (zg_i S a0 13 14).bind (fun v4 => if v4 ≤ i2 then some (.inr (i1, S)) else (zg_i S a0 13 0).bind (fun v5 => zf_X13_give_L8 N n a0 (i1 * v5) (i2 + (1 : Int32)) S))
set_option maxHeartbeats 4000000 in
set_option maxRecDepth 100000 in
theorem zt_X13_give_L8 {p : Program} {l : Launch} {e : Env} {R : Room} {s : State} {m : MethodId} {args : Array Value} {below : List Frame} {meth : Method} {c : Code} {V : zm_V} {mc ms d rc rs : Nat} (hX : zm_X p R s m args meth c RX13 "give" cX13_give 8 zk_E V mc ms) (hr : meth.sig.returnType = (some .long)) (hR : R.frames = d ∧ R.locals = 64 * d) (hd : 4 ≤ d) {N : Nat} {res : (Int64 × zm_S) ⊕ ((Int32) × zm_S)} {out : (Int64 × zm_S)} (a0 : Nat) (hf : ∀ o, res = .inl o → o = out) (hk : ∀ (x1 : Int32) (S' : zm_S), res = .inr (x1, S') → zw p l e R s m args below meth c (vx_MQ below (zm_Qc zk_E V (zo_l out)) (zm_XC zk_E V zo_x) args s mc ms (fun q => V.2.2.2.1 ≤ q)) 8 zk_E V mc ms 29 [(0, .ref a0), (1, .int x1)] [] S' rc rs) : ∀ (n : Nat) (i1 : Int32) (i2 : Int32) (S : zm_S), zf_X13_give_L8 N n a0 i1 i2 S = some res → zw p l e R s m args below meth c (vx_MQ below (zm_Qc zk_E V (zo_l out)) (zm_XC zk_E V zo_x) args s mc ms (fun q => V.2.2.2.1 ≤ q)) 8 zk_E V mc ms 8 [(0, .ref a0), (1, .int i1), (2, .int i2)] [] S rc rs := by
  intro n
  induction n with
  | zero => intro i1 i2 S h; cases h
  | succ n ih =>
    intro i1 i2 S h
    rw [zf_X13_give_L8] at h
    refine zw_iload_n hX dX13_give_8 rfl ?_
    refine zw_aload_n hX dX13_give_9 rfl ?_
    obtain ⟨v4, g, h⟩ := zb_some h
    refine zw_geti hX zl_X13_84 dX13_give_10 g ?_
    refine zw_icmp_ge (tgt := 29) hX dX13_give_13 (by decide) (fun c13 => ?_) (fun c13 => ?_)
    · rw [if_pos c13] at h
      refine zw_sub (lv' := [(0, .ref a0), (1, .int i1)]) (List.forall_mem_cons.mpr ⟨rfl, (List.forall_mem_cons.mpr ⟨rfl, zs_nil⟩)⟩) ?_
      exact hk _ _ (Option.some.inj h).symm
    · rw [if_neg c13] at h
      refine zw_iload_n hX dX13_give_16 rfl ?_
      refine zw_aload_n hX dX13_give_17 rfl ?_
      obtain ⟨v5, g, h⟩ := zb_some h
      refine zw_geti hX zl_X13_70 dX13_give_18 g ?_
      refine zw_imul hX dX13_give_21 ?_
      refine zw_istore_n hX dX13_give_22 (by decide) ?_
      refine zw_iinc (v := (i2 + (1 : Int32))) hX dX13_give_23 rfl rfl (by decide) ?_
      refine zw_goto (tgt := 8) hX dX13_give_26 (by decide) ?_
      refine zw_sub (lv' := [(0, .ref a0), (1, .int (i1 * v5)), (2, .int (i2 + (1 : Int32)))]) (List.forall_mem_cons.mpr ⟨rfl, (List.forall_mem_cons.mpr ⟨rfl, (List.forall_mem_cons.mpr ⟨rfl, zs_nil⟩)⟩)⟩) ?_
      exact ih _ _ _ h
def zf_X13_give_L41 (N : Nat) : Nat → Nat → Int32 → Int32 → Int32 → zm_S → Option ((Int64 × zm_S) ⊕ ((Unit) × zm_S))
  | 0, _, _, _, _, _ => none
  | n + 1, a0, i1, i2, i3, S => (zg_i S a0 13 14).bind (fun v9 => if ((1 : Int32) <<< (v9 &&& 31)) ≤ i3 then some (.inr ((), S)) else (zi S a0 13).bind (fun _ => (zf_X13_findRow N a0 i2 i3 S).bind (fun r12 => zf_X13_give_L41 N n a0 i1 i2 (i3 + (1 : Int32)) r12.2)))
set_option maxHeartbeats 4000000 in
set_option maxRecDepth 100000 in
theorem zt_X13_give_L41 {p : Program} {l : Launch} {e : Env} {R : Room} {s : State} {m : MethodId} {args : Array Value} {below : List Frame} {meth : Method} {c : Code} {V : zm_V} {mc ms d rc rs : Nat} (hX : zm_X p R s m args meth c RX13 "give" cX13_give 8 zk_E V mc ms) (hr : meth.sig.returnType = (some .long)) (hR : R.frames = d ∧ R.locals = 64 * d) (hd : 4 ≤ d) {N : Nat} {res : (Int64 × zm_S) ⊕ ((Unit) × zm_S)} {out : (Int64 × zm_S)} (a0 : Nat) (i1 : Int32) (i2 : Int32) (hf : ∀ o, res = .inl o → o = out) (hk : ∀ (S' : zm_S), res = .inr ((), S') → zw p l e R s m args below meth c (vx_MQ below (zm_Qc zk_E V (zo_l out)) (zm_XC zk_E V zo_x) args s mc ms (fun q => V.2.2.2.1 ≤ q)) 8 zk_E V mc ms 63 [(0, .ref a0), (1, .int i1), (2, .int i2)] [] S' rc rs) : ∀ (n : Nat) (i3 : Int32) (S : zm_S), zf_X13_give_L41 N n a0 i1 i2 i3 S = some res → zw p l e R s m args below meth c (vx_MQ below (zm_Qc zk_E V (zo_l out)) (zm_XC zk_E V zo_x) args s mc ms (fun q => V.2.2.2.1 ≤ q)) 8 zk_E V mc ms 41 [(0, .ref a0), (1, .int i1), (2, .int i2), (3, .int i3)] [] S rc rs := by
  intro n
  induction n with
  | zero => intro i3 S h; cases h
  | succ n ih =>
    intro i3 S h
    rw [zf_X13_give_L41] at h
    refine zw_iload_n hX dX13_give_41 rfl ?_
    refine zw_iconst (v := (1 : Int32)) hX dX13_give_42 (by decide) ?_
    refine zw_aload_n hX dX13_give_43 rfl ?_
    obtain ⟨v9, g, h⟩ := zb_some h
    refine zw_geti hX zl_X13_84 dX13_give_44 g ?_
    refine zw_ishl hX dX13_give_47 ?_
    refine zw_icmp_ge (tgt := 63) hX dX13_give_48 (by decide) (fun c48 => ?_) (fun c48 => ?_)
    · rw [if_pos c48] at h
      refine zw_sub (lv' := [(0, .ref a0), (1, .int i1), (2, .int i2)]) (List.forall_mem_cons.mpr ⟨rfl, (List.forall_mem_cons.mpr ⟨rfl, (List.forall_mem_cons.mpr ⟨rfl, zs_nil⟩)⟩)⟩) ?_
      exact hk  _ (Option.some.inj h).symm
    · rw [if_neg c48] at h
      refine zw_aload_n hX dX13_give_51 rfl ?_
      refine zw_iload_n hX dX13_give_52 rfl ?_
      refine zw_iload_n hX dX13_give_53 rfl ?_
      obtain ⟨_, gi, h⟩ := zb_some h
      obtain ⟨r12, g, h⟩ := zb_some h
      refine zc_Vv (as := [.int i2, .int i3]) hX gi (zt_X13_findRow (d := d - 1) (by omega) g) zl_X13_125 rfl dX13_give_54 ⟨rfl, rfl, Nat.le_of_ble_eq_true rfl⟩ ⟨by omega, by omega⟩ ?_
      refine zw_iinc (v := (i3 + (1 : Int32))) hX dX13_give_57 rfl rfl (by decide) ?_
      refine zw_goto (tgt := 41) hX dX13_give_60 (by decide) ?_
      refine zw_sub (lv' := [(0, .ref a0), (1, .int i1), (2, .int i2), (3, .int (i3 + (1 : Int32)))]) (List.forall_mem_cons.mpr ⟨rfl, (List.forall_mem_cons.mpr ⟨rfl, (List.forall_mem_cons.mpr ⟨rfl, (List.forall_mem_cons.mpr ⟨rfl, zs_nil⟩)⟩)⟩)⟩) ?_
      exact ih _ _ h
def zf_X13_give_L31 (N : Nat) : Nat → Nat → Int32 → Int32 → zm_S → Option ((Int64 × zm_S) ⊕ ((Unit) × zm_S))
  | 0, _, _, _, _ => none
  | n + 1, a0, i1, i2, S => (zg_i S a0 13 0).bind (fun v8 => if v8 ≤ i2 then some (.inr ((), S)) else (zf_X13_give_L41 N N a0 i1 i2 (0 : Int32) S).bind (fun r => match r with | .inl o => some (.inl o) | .inr (_, S13) => zf_X13_give_L31 N n a0 i1 (i2 + (1 : Int32)) S13))
set_option maxHeartbeats 4000000 in
set_option maxRecDepth 100000 in
theorem zt_X13_give_L31 {p : Program} {l : Launch} {e : Env} {R : Room} {s : State} {m : MethodId} {args : Array Value} {below : List Frame} {meth : Method} {c : Code} {V : zm_V} {mc ms d rc rs : Nat} (hX : zm_X p R s m args meth c RX13 "give" cX13_give 8 zk_E V mc ms) (hr : meth.sig.returnType = (some .long)) (hR : R.frames = d ∧ R.locals = 64 * d) (hd : 4 ≤ d) {N : Nat} {res : (Int64 × zm_S) ⊕ ((Unit) × zm_S)} {out : (Int64 × zm_S)} (a0 : Nat) (i1 : Int32) (hf : ∀ o, res = .inl o → o = out) (hk : ∀ (S' : zm_S), res = .inr ((), S') → zw p l e R s m args below meth c (vx_MQ below (zm_Qc zk_E V (zo_l out)) (zm_XC zk_E V zo_x) args s mc ms (fun q => V.2.2.2.1 ≤ q)) 8 zk_E V mc ms 69 [(0, .ref a0), (1, .int i1)] [] S' rc rs) : ∀ (n : Nat) (i2 : Int32) (S : zm_S), zf_X13_give_L31 N n a0 i1 i2 S = some res → zw p l e R s m args below meth c (vx_MQ below (zm_Qc zk_E V (zo_l out)) (zm_XC zk_E V zo_x) args s mc ms (fun q => V.2.2.2.1 ≤ q)) 8 zk_E V mc ms 31 [(0, .ref a0), (1, .int i1), (2, .int i2)] [] S rc rs := by
  intro n
  induction n with
  | zero => intro i2 S h; cases h
  | succ n ih =>
    intro i2 S h
    rw [zf_X13_give_L31] at h
    refine zw_iload_n hX dX13_give_31 rfl ?_
    refine zw_aload_n hX dX13_give_32 rfl ?_
    obtain ⟨v8, g, h⟩ := zb_some h
    refine zw_geti hX zl_X13_70 dX13_give_33 g ?_
    refine zw_icmp_ge (tgt := 69) hX dX13_give_36 (by decide) (fun c36 => ?_) (fun c36 => ?_)
    · rw [if_pos c36] at h
      refine zw_sub (lv' := [(0, .ref a0), (1, .int i1)]) (List.forall_mem_cons.mpr ⟨rfl, (List.forall_mem_cons.mpr ⟨rfl, zs_nil⟩)⟩) ?_
      exact hk  _ (Option.some.inj h).symm
    · rw [if_neg c36] at h
      refine zw_iconst (v := (0 : Int32)) hX dX13_give_39 (by decide) ?_
      refine zw_istore_n hX dX13_give_40 (by decide) ?_
      obtain ⟨r, g, h⟩ := zb_some h
      refine zw_sub (lv' := [(0, .ref a0), (1, .int i1), (2, .int i2), (3, .int (0 : Int32))]) (List.forall_mem_cons.mpr ⟨rfl, (List.forall_mem_cons.mpr ⟨rfl, (List.forall_mem_cons.mpr ⟨rfl, (List.forall_mem_cons.mpr ⟨rfl, zs_nil⟩)⟩)⟩)⟩) ?_
      refine zt_X13_give_L41 hX hr hR hd (res := r) (out := out) a0 i1 i2 ?_ ?_ N _ _ g
      · intro o ho
        subst ho
        exact hf _ (Option.some.inj h).symm
      · intro  S13 hx
        subst hx
        try dsimp only at h
        refine zw_iinc (v := (i2 + (1 : Int32))) hX dX13_give_63 rfl rfl (by decide) ?_
        refine zw_goto (tgt := 31) hX dX13_give_66 (by decide) ?_
        refine zw_sub (lv' := [(0, .ref a0), (1, .int i1), (2, .int (i2 + (1 : Int32)))]) (List.forall_mem_cons.mpr ⟨rfl, (List.forall_mem_cons.mpr ⟨rfl, (List.forall_mem_cons.mpr ⟨rfl, zs_nil⟩)⟩)⟩) ?_
        exact ih _ _ h
def zf_X13_give_J107 (N : Nat) (k : Nat → Int32 → Int64 → Int32 → Int32 → zm_S → Option ((Int64 × zm_S) ⊕ ((Int64 × Int32) × zm_S))) (a0 : Nat) (i1 : Int32) (j2 : Int64) (i5 : Int32) (j6 : Int64) (t0 : Int32) (S : zm_S) : Option ((Int64 × zm_S) ⊕ ((Int64 × Int32) × zm_S)) := if 0 ≤ (lg_cmp j6 j2) then k a0 i1 j2 t0 (i5 + (1 : Int32)) S else k a0 i1 j6 t0 (i5 + (1 : Int32)) S
set_option maxHeartbeats 4000000 in
set_option maxRecDepth 100000 in
theorem zt_X13_give_J107 {p : Program} {l : Launch} {e : Env} {R : Room} {s : State} {m : MethodId} {args : Array Value} {below : List Frame} {meth : Method} {c : Code} {V : zm_V} {mc ms d rc rs : Nat} (hX : zm_X p R s m args meth c RX13 "give" cX13_give 8 zk_E V mc ms) (hr : meth.sig.returnType = (some .long)) (hR : R.frames = d ∧ R.locals = 64 * d) (hd : 4 ≤ d) {N : Nat} {k : Nat → Int32 → Int64 → Int32 → Int32 → zm_S → Option ((Int64 × zm_S) ⊕ ((Int64 × Int32) × zm_S))} {a0 : Nat} {i1 : Int32} {j2 : Int64} {i5 : Int32} {j6 : Int64} {t0 : Int32} {res : (Int64 × zm_S) ⊕ ((Int64 × Int32) × zm_S)} {out : (Int64 × zm_S)}   (hf : ∀ o, res = .inl o → o = out) (hk : ∀ (x2 : Int64) (x4 : Int32) (S' : zm_S), res = .inr ((x2, x4), S') → zw p l e R s m args below meth c (vx_MQ below (zm_Qc zk_E V (zo_l out)) (zm_XC zk_E V zo_x) args s mc ms (fun q => V.2.2.2.1 ≤ q)) 8 zk_E V mc ms 129 [(0, .ref a0), (2, .long x2), (4, .int x4)] [] S' rc rs) (hrec : ∀ (j2' : Int64) (i4' : Int32) (i5' : Int32) (S : zm_S), k a0 i1 j2' i4' i5' S = some res → zw p l e R s m args below meth c (vx_MQ below (zm_Qc zk_E V (zo_l out)) (zm_XC zk_E V zo_x) args s mc ms (fun q => V.2.2.2.1 ≤ q)) 8 zk_E V mc ms 79 [(0, .ref a0), (1, .int i1), (2, .long j2'), (4, .int i4'), (5, .int i5')] [] S rc rs) {S : zm_S} (h : zf_X13_give_J107 N k a0 i1 j2 i5 j6 t0 S = some res) : zw p l e R s m args below meth c (vx_MQ below (zm_Qc zk_E V (zo_l out)) (zm_XC zk_E V zo_x) args s mc ms (fun q => V.2.2.2.1 ≤ q)) 8 zk_E V mc ms 107 [(0, .ref a0), (1, .int i1), (2, .long j2), (5, .int i5), (6, .long j6)] [.int t0] S rc rs := by
  unfold zf_X13_give_J107 at h
  refine zw_istore hX dX13_give_107 (by decide) ?_
  refine zw_lload hX dX13_give_109 rfl ?_
  refine zw_lload_n hX dX13_give_111 rfl ?_
  refine zw_lcmp hX dX13_give_112 ?_
  refine zw_if_ge (tgt := 121) hX dX13_give_113 (by decide) (fun c113 => ?_) (fun c113 => ?_)
  · rw [if_pos c113] at h
    refine zw_lload_n hX dX13_give_121 rfl ?_
    refine zw_lstore_n hX dX13_give_122 (by decide) ?_
    refine zw_iinc (v := (i5 + (1 : Int32))) hX dX13_give_123 rfl rfl (by decide) ?_
    refine zw_goto (tgt := 79) hX dX13_give_126 (by decide) ?_
    refine zw_sub (lv' := [(0, .ref a0), (1, .int i1), (2, .long j2), (4, .int t0), (5, .int (i5 + (1 : Int32)))]) (List.forall_mem_cons.mpr ⟨rfl, (List.forall_mem_cons.mpr ⟨rfl, (List.forall_mem_cons.mpr ⟨rfl, (List.forall_mem_cons.mpr ⟨rfl, (List.forall_mem_cons.mpr ⟨rfl, zs_nil⟩)⟩)⟩)⟩)⟩) ?_
    exact hrec _ _ _ _ h
  · rw [if_neg c113] at h
    refine zw_lload hX dX13_give_116 rfl ?_
    refine zw_goto (tgt := 122) hX dX13_give_118 (by decide) ?_
    refine zw_lstore_n hX dX13_give_122 (by decide) ?_
    refine zw_iinc (v := (i5 + (1 : Int32))) hX dX13_give_123 rfl rfl (by decide) ?_
    refine zw_goto (tgt := 79) hX dX13_give_126 (by decide) ?_
    refine zw_sub (lv' := [(0, .ref a0), (1, .int i1), (2, .long j6), (4, .int t0), (5, .int (i5 + (1 : Int32)))]) (List.forall_mem_cons.mpr ⟨rfl, (List.forall_mem_cons.mpr ⟨rfl, (List.forall_mem_cons.mpr ⟨rfl, (List.forall_mem_cons.mpr ⟨rfl, (List.forall_mem_cons.mpr ⟨rfl, zs_nil⟩)⟩)⟩)⟩)⟩) ?_
    exact hrec _ _ _ _ h
def zf_X13_give_L79 (N : Nat) : Nat → Nat → Int32 → Int64 → Int32 → Int32 → zm_S → Option ((Int64 × zm_S) ⊕ ((Int64 × Int32) × zm_S))
  | 0, _, _, _, _, _, _ => none
  | n + 1, a0, i1, j2, i4, i5, S => if i1 ≤ i5 then some (.inr ((j2, i4), S)) else (zi S a0 13).bind (fun _ => (zf_X13_sumOf N a0 i5 S).bind (fun r17 => if 0 ≤ (lg_cmp r17.1 j2) then zf_X13_give_J107 N (zf_X13_give_L79 N n) a0 i1 j2 i5 r17.1 i4 r17.2 else zf_X13_give_J107 N (zf_X13_give_L79 N n) a0 i1 j2 i5 r17.1 i5 r17.2))
set_option maxHeartbeats 4000000 in
set_option maxRecDepth 100000 in
theorem zt_X13_give_L79 {p : Program} {l : Launch} {e : Env} {R : Room} {s : State} {m : MethodId} {args : Array Value} {below : List Frame} {meth : Method} {c : Code} {V : zm_V} {mc ms d rc rs : Nat} (hX : zm_X p R s m args meth c RX13 "give" cX13_give 8 zk_E V mc ms) (hr : meth.sig.returnType = (some .long)) (hR : R.frames = d ∧ R.locals = 64 * d) (hd : 4 ≤ d) {N : Nat} {res : (Int64 × zm_S) ⊕ ((Int64 × Int32) × zm_S)} {out : (Int64 × zm_S)} (a0 : Nat) (i1 : Int32) (hf : ∀ o, res = .inl o → o = out) (hk : ∀ (x2 : Int64) (x4 : Int32) (S' : zm_S), res = .inr ((x2, x4), S') → zw p l e R s m args below meth c (vx_MQ below (zm_Qc zk_E V (zo_l out)) (zm_XC zk_E V zo_x) args s mc ms (fun q => V.2.2.2.1 ≤ q)) 8 zk_E V mc ms 129 [(0, .ref a0), (2, .long x2), (4, .int x4)] [] S' rc rs) : ∀ (n : Nat) (j2 : Int64) (i4 : Int32) (i5 : Int32) (S : zm_S), zf_X13_give_L79 N n a0 i1 j2 i4 i5 S = some res → zw p l e R s m args below meth c (vx_MQ below (zm_Qc zk_E V (zo_l out)) (zm_XC zk_E V zo_x) args s mc ms (fun q => V.2.2.2.1 ≤ q)) 8 zk_E V mc ms 79 [(0, .ref a0), (1, .int i1), (2, .long j2), (4, .int i4), (5, .int i5)] [] S rc rs := by
  intro n
  induction n with
  | zero => intro j2 i4 i5 S h; cases h
  | succ n ih =>
    intro j2 i4 i5 S h
    rw [zf_X13_give_L79] at h
    refine zw_iload hX dX13_give_79 rfl ?_
    refine zw_iload_n hX dX13_give_81 rfl ?_
    refine zw_icmp_ge (tgt := 129) hX dX13_give_82 (by decide) (fun c82 => ?_) (fun c82 => ?_)
    · rw [if_pos c82] at h
      refine zw_sub (lv' := [(0, .ref a0), (2, .long j2), (4, .int i4)]) (List.forall_mem_cons.mpr ⟨rfl, (List.forall_mem_cons.mpr ⟨rfl, (List.forall_mem_cons.mpr ⟨rfl, zs_nil⟩)⟩)⟩) ?_
      exact hk _ _ _ (Option.some.inj h).symm
    · rw [if_neg c82] at h
      refine zw_aload_n hX dX13_give_85 rfl ?_
      refine zw_iload hX dX13_give_86 rfl ?_
      obtain ⟨_, gi, h⟩ := zb_some h
      obtain ⟨r17, g, h⟩ := zb_some h
      refine zc_Vl (as := [.int i5]) hX gi (zt_X13_sumOf (d := d - 1) (by omega) g) zl_X13_129 rfl dX13_give_88 ⟨rfl, rfl, Nat.le_of_ble_eq_true rfl⟩ ⟨by omega, by omega⟩ ?_
      refine zw_lstore hX dX13_give_91 (by decide) ?_
      refine zw_lload hX dX13_give_93 rfl ?_
      refine zw_lload_n hX dX13_give_95 rfl ?_
      refine zw_lcmp hX dX13_give_96 ?_
      refine zw_if_ge (tgt := 105) hX dX13_give_97 (by decide) (fun c97 => ?_) (fun c97 => ?_)
      · rw [if_pos c97] at h
        refine zw_iload hX dX13_give_105 rfl ?_
        refine zw_sub (lv' := [(0, .ref a0), (1, .int i1), (2, .long j2), (5, .int i5), (6, .long r17.1)]) (List.forall_mem_cons.mpr ⟨rfl, (List.forall_mem_cons.mpr ⟨rfl, (List.forall_mem_cons.mpr ⟨rfl, (List.forall_mem_cons.mpr ⟨rfl, (List.forall_mem_cons.mpr ⟨rfl, zs_nil⟩)⟩)⟩)⟩)⟩) ?_
        exact zt_X13_give_J107 hX hr hR hd hf hk ih h
      · rw [if_neg c97] at h
        refine zw_iload hX dX13_give_100 rfl ?_
        refine zw_goto (tgt := 107) hX dX13_give_102 (by decide) ?_
        refine zw_sub (lv' := [(0, .ref a0), (1, .int i1), (2, .long j2), (5, .int i5), (6, .long r17.1)]) (List.forall_mem_cons.mpr ⟨rfl, (List.forall_mem_cons.mpr ⟨rfl, (List.forall_mem_cons.mpr ⟨rfl, (List.forall_mem_cons.mpr ⟨rfl, (List.forall_mem_cons.mpr ⟨rfl, zs_nil⟩)⟩)⟩)⟩)⟩) ?_
        exact zt_X13_give_J107 hX hr hR hd hf hk ih h
def zf_X13_give_L132 (N : Nat) : Nat → Nat → Int64 → Int32 → Int32 → zm_S → Option ((Int64 × zm_S) ⊕ ((Unit) × zm_S))
  | 0, _, _, _, _, _ => none
  | n + 1, a0, j2, i4, i5, S => (zg_i S a0 13 6).bind (fun v21 => if v21 ≤ i5 then some (.inr ((), S)) else (zg_r S a0 13 20).bind (fun b22 => (zs_i S b22 i5 (-1 : Int32)).bind (fun S23 => zf_X13_give_L132 N n a0 j2 i4 (i5 + (1 : Int32)) S23)))
set_option maxHeartbeats 4000000 in
set_option maxRecDepth 100000 in
theorem zt_X13_give_L132 {p : Program} {l : Launch} {e : Env} {R : Room} {s : State} {m : MethodId} {args : Array Value} {below : List Frame} {meth : Method} {c : Code} {V : zm_V} {mc ms d rc rs : Nat} (hX : zm_X p R s m args meth c RX13 "give" cX13_give 8 zk_E V mc ms) (hr : meth.sig.returnType = (some .long)) (hR : R.frames = d ∧ R.locals = 64 * d) (hd : 4 ≤ d) {N : Nat} {res : (Int64 × zm_S) ⊕ ((Unit) × zm_S)} {out : (Int64 × zm_S)} (a0 : Nat) (j2 : Int64) (i4 : Int32) (hf : ∀ o, res = .inl o → o = out) (hk : ∀ (S' : zm_S), res = .inr ((), S') → zw p l e R s m args below meth c (vx_MQ below (zm_Qc zk_E V (zo_l out)) (zm_XC zk_E V zo_x) args s mc ms (fun q => V.2.2.2.1 ≤ q)) 8 zk_E V mc ms 155 [(0, .ref a0), (2, .long j2), (4, .int i4)] [] S' rc rs) : ∀ (n : Nat) (i5 : Int32) (S : zm_S), zf_X13_give_L132 N n a0 j2 i4 i5 S = some res → zw p l e R s m args below meth c (vx_MQ below (zm_Qc zk_E V (zo_l out)) (zm_XC zk_E V zo_x) args s mc ms (fun q => V.2.2.2.1 ≤ q)) 8 zk_E V mc ms 132 [(0, .ref a0), (2, .long j2), (4, .int i4), (5, .int i5)] [] S rc rs := by
  intro n
  induction n with
  | zero => intro i5 S h; cases h
  | succ n ih =>
    intro i5 S h
    rw [zf_X13_give_L132] at h
    refine zw_iload hX dX13_give_132 rfl ?_
    refine zw_aload_n hX dX13_give_134 rfl ?_
    obtain ⟨v21, g, h⟩ := zb_some h
    refine zw_geti hX zl_X13_66 dX13_give_135 g ?_
    refine zw_icmp_ge (tgt := 155) hX dX13_give_138 (by decide) (fun c138 => ?_) (fun c138 => ?_)
    · rw [if_pos c138] at h
      refine zw_sub (lv' := [(0, .ref a0), (2, .long j2), (4, .int i4)]) (List.forall_mem_cons.mpr ⟨rfl, (List.forall_mem_cons.mpr ⟨rfl, (List.forall_mem_cons.mpr ⟨rfl, zs_nil⟩)⟩)⟩) ?_
      exact hk  _ (Option.some.inj h).symm
    · rw [if_neg c138] at h
      refine zw_aload_n hX dX13_give_141 rfl ?_
      obtain ⟨b22, g, h⟩ := zb_some h
      refine zw_getr hX zl_X13_54 dX13_give_142 g ?_
      refine zw_iload hX dX13_give_145 rfl ?_
      refine zw_iconst (v := (-1 : Int32)) hX dX13_give_147 (by decide) ?_
      obtain ⟨S23, g, h⟩ := zb_some h
      refine zw_si hX dX13_give_148 g ?_
      refine zw_iinc (v := (i5 + (1 : Int32))) hX dX13_give_149 rfl rfl (by decide) ?_
      refine zw_goto (tgt := 132) hX dX13_give_152 (by decide) ?_
      refine zw_sub (lv' := [(0, .ref a0), (2, .long j2), (4, .int i4), (5, .int (i5 + (1 : Int32)))]) (List.forall_mem_cons.mpr ⟨rfl, (List.forall_mem_cons.mpr ⟨rfl, (List.forall_mem_cons.mpr ⟨rfl, (List.forall_mem_cons.mpr ⟨rfl, zs_nil⟩)⟩)⟩)⟩) ?_
      exact ih _ _ h
def zf_X13_give_L158 (N : Nat) : Nat → Nat → Int64 → Int32 → Int32 → zm_S → Option ((Int64 × zm_S) ⊕ ((Unit) × zm_S))
  | 0, _, _, _, _, _ => none
  | n + 1, a0, j2, i4, i5, S => (zg_i S a0 13 0).bind (fun v25 => if v25 ≤ i5 then some (.inr ((), S)) else (zi S a0 13).bind (fun _ => (zf_X13_bitsOf N a0 i4 i5 S).bind (fun r28 => (zi r28.2 a0 13).bind (fun _ => (zf_X13_tell N a0 i5 r28.1 r28.2).bind (fun r31 => zf_X13_give_L158 N n a0 j2 i4 (i5 + (1 : Int32)) r31.2)))))
set_option maxHeartbeats 4000000 in
set_option maxRecDepth 100000 in
theorem zt_X13_give_L158 {p : Program} {l : Launch} {e : Env} {R : Room} {s : State} {m : MethodId} {args : Array Value} {below : List Frame} {meth : Method} {c : Code} {V : zm_V} {mc ms d rc rs : Nat} (hX : zm_X p R s m args meth c RX13 "give" cX13_give 8 zk_E V mc ms) (hr : meth.sig.returnType = (some .long)) (hR : R.frames = d ∧ R.locals = 64 * d) (hd : 4 ≤ d) {N : Nat} {res : (Int64 × zm_S) ⊕ ((Unit) × zm_S)} {out : (Int64 × zm_S)} (a0 : Nat) (j2 : Int64) (i4 : Int32) (hf : ∀ o, res = .inl o → o = out) (hk : ∀ (S' : zm_S), res = .inr ((), S') → zw p l e R s m args below meth c (vx_MQ below (zm_Qc zk_E V (zo_l out)) (zm_XC zk_E V zo_x) args s mc ms (fun q => V.2.2.2.1 ≤ q)) 8 zk_E V mc ms 187 [(2, .long j2)] [] S' rc rs) : ∀ (n : Nat) (i5 : Int32) (S : zm_S), zf_X13_give_L158 N n a0 j2 i4 i5 S = some res → zw p l e R s m args below meth c (vx_MQ below (zm_Qc zk_E V (zo_l out)) (zm_XC zk_E V zo_x) args s mc ms (fun q => V.2.2.2.1 ≤ q)) 8 zk_E V mc ms 158 [(0, .ref a0), (2, .long j2), (4, .int i4), (5, .int i5)] [] S rc rs := by
  intro n
  induction n with
  | zero => intro i5 S h; cases h
  | succ n ih =>
    intro i5 S h
    rw [zf_X13_give_L158] at h
    refine zw_iload hX dX13_give_158 rfl ?_
    refine zw_aload_n hX dX13_give_160 rfl ?_
    obtain ⟨v25, g, h⟩ := zb_some h
    refine zw_geti hX zl_X13_70 dX13_give_161 g ?_
    refine zw_icmp_ge (tgt := 187) hX dX13_give_164 (by decide) (fun c164 => ?_) (fun c164 => ?_)
    · rw [if_pos c164] at h
      refine zw_sub (lv' := [(2, .long j2)]) (List.forall_mem_cons.mpr ⟨rfl, zs_nil⟩) ?_
      exact hk  _ (Option.some.inj h).symm
    · rw [if_neg c164] at h
      refine zw_aload_n hX dX13_give_167 rfl ?_
      refine zw_iload hX dX13_give_168 rfl ?_
      refine zw_aload_n hX dX13_give_170 rfl ?_
      refine zw_iload hX dX13_give_171 rfl ?_
      refine zw_iload hX dX13_give_173 rfl ?_
      obtain ⟨_, gi, h⟩ := zb_some h
      obtain ⟨r28, g, h⟩ := zb_some h
      refine zc_Vi (as := [.int i4, .int i5]) hX gi (zt_X13_bitsOf (d := d - 1) (by omega) g) zl_X13_118 rfl dX13_give_175 ⟨rfl, rfl, Nat.le_of_ble_eq_true rfl⟩ ⟨by omega, by omega⟩ ?_
      obtain ⟨_, gi, h⟩ := zb_some h
      obtain ⟨r31, g, h⟩ := zb_some h
      refine zc_Vv (as := [.int i5, .int r28.1]) hX gi (zt_X13_tell (d := d - 1) (by omega) g) zl_X13_132 rfl dX13_give_178 ⟨rfl, rfl, Nat.le_of_ble_eq_true rfl⟩ ⟨by omega, by omega⟩ ?_
      refine zw_iinc (v := (i5 + (1 : Int32))) hX dX13_give_181 rfl rfl (by decide) ?_
      refine zw_goto (tgt := 158) hX dX13_give_184 (by decide) ?_
      refine zw_sub (lv' := [(0, .ref a0), (2, .long j2), (4, .int i4), (5, .int (i5 + (1 : Int32)))]) (List.forall_mem_cons.mpr ⟨rfl, (List.forall_mem_cons.mpr ⟨rfl, (List.forall_mem_cons.mpr ⟨rfl, (List.forall_mem_cons.mpr ⟨rfl, zs_nil⟩)⟩)⟩)⟩) ?_
      exact ih _ _ h
def zf_X13_give (N : Nat) (a0 : Nat) (S : zm_S) : Option (Int64 × zm_S) := (zi S a0 13).bind (fun _ => (zf_X13_choose N a0 S).bind (fun r3 => (zf_X13_give_L8 N N a0 (1 : Int32) (0 : Int32) r3.2).bind (fun r => match r with | .inl o => some o | .inr (v7, S6) => (zf_X13_give_L31 N N a0 v7 (0 : Int32) S6).bind (fun r => match r with | .inl o => some o | .inr (_, S14) => (zf_X13_give_L79 N N a0 v7 (1152921504606846976 : Int64) (0 : Int32) (0 : Int32) S14).bind (fun r => match r with | .inl o => some o | .inr ((w19, v20), S18) => (zf_X13_give_L132 N N a0 w19 v20 (0 : Int32) S18).bind (fun r => match r with | .inl o => some o | .inr (_, S24) => (zf_X13_give_L158 N N a0 w19 v20 (0 : Int32) S24).bind (fun r => match r with | .inl o => some o | .inr (_, S32) => some (w19, S32))))))))
set_option maxHeartbeats 4000000 in
set_option maxRecDepth 100000 in
theorem zt_X13_give {l : Launch} {V : zm_V} {N : Nat} {S : zm_S} {out : (Int64 × zm_S)} {d : Nat} {a0 : Nat} (hd : 4 ≤ d) (h : zf_X13_give N a0 S = some out) : zm_Met l zk_E V yX13_give (.code yX13_give cX13_give 8 (some .long)) d [.ref a0] S 0 0 (zo_l out) zo_x := by
  refine zm_of (by decide +kernel) (Nat.le_of_ble_eq_true rfl) ?_
  intro p e R s m args below meth c hRR hX hr hxt
  have hR : R.frames = d ∧ R.locals = 64 * d := by rw [hRR]; exact ⟨rfl, rfl⟩
  have hX : zm_X p R s m args meth c RX13 "give" cX13_give 8 zk_E V 0 0 := hX
  unfold zf_X13_give at h
  refine zw_sub (lv' := [(0, .ref a0)]) (List.forall_mem_cons.mpr ⟨rfl, zs_nil⟩) ?_
  refine zw_aload_n hX dX13_give_0 rfl ?_
  obtain ⟨_, gi, h⟩ := zb_some h
  obtain ⟨r3, g, h⟩ := zb_some h
  refine zc_Vv (as := []) hX gi (zt_X13_choose (d := d - 1) (by omega) g) zl_X13_122 rfl dX13_give_1 ⟨rfl, rfl, Nat.le_of_ble_eq_true rfl⟩ ⟨by omega, by omega⟩ ?_
  refine zw_iconst (v := (1 : Int32)) hX dX13_give_4 (by decide) ?_
  refine zw_istore_n hX dX13_give_5 (by decide) ?_
  refine zw_iconst (v := (0 : Int32)) hX dX13_give_6 (by decide) ?_
  refine zw_istore_n hX dX13_give_7 (by decide) ?_
  obtain ⟨r, g, h⟩ := zb_some h
  refine zw_sub (lv' := [(0, .ref a0), (1, .int (1 : Int32)), (2, .int (0 : Int32))]) (List.forall_mem_cons.mpr ⟨rfl, (List.forall_mem_cons.mpr ⟨rfl, (List.forall_mem_cons.mpr ⟨rfl, zs_nil⟩)⟩)⟩) ?_
  refine zt_X13_give_L8 hX hr hR hd (res := r) (out := out) a0 ?_ ?_ N _ _ _ g
  · intro o ho
    subst ho
    exact Option.some.inj h
  · intro v7 S6 hx
    subst hx
    try dsimp only at h
    refine zw_iconst (v := (0 : Int32)) hX dX13_give_29 (by decide) ?_
    refine zw_istore_n hX dX13_give_30 (by decide) ?_
    obtain ⟨r, g, h⟩ := zb_some h
    refine zw_sub (lv' := [(0, .ref a0), (1, .int v7), (2, .int (0 : Int32))]) (List.forall_mem_cons.mpr ⟨rfl, (List.forall_mem_cons.mpr ⟨rfl, (List.forall_mem_cons.mpr ⟨rfl, zs_nil⟩)⟩)⟩) ?_
    refine zt_X13_give_L31 hX hr hR hd (res := r) (out := out) a0 v7 ?_ ?_ N _ _ g
    · intro o ho
      subst ho
      exact Option.some.inj h
    · intro  S14 hx
      subst hx
      try dsimp only at h
      refine zw_ldc2 (v := (1152921504606846976 : Int64)) hX dX13_give_69 zl_X13_104 ?_
      refine zw_lstore_n hX dX13_give_72 (by decide) ?_
      refine zw_iconst (v := (0 : Int32)) hX dX13_give_73 (by decide) ?_
      refine zw_istore hX dX13_give_74 (by decide) ?_
      refine zw_iconst (v := (0 : Int32)) hX dX13_give_76 (by decide) ?_
      refine zw_istore hX dX13_give_77 (by decide) ?_
      obtain ⟨r, g, h⟩ := zb_some h
      refine zw_sub (lv' := [(0, .ref a0), (1, .int v7), (2, .long (1152921504606846976 : Int64)), (4, .int (0 : Int32)), (5, .int (0 : Int32))]) (List.forall_mem_cons.mpr ⟨rfl, (List.forall_mem_cons.mpr ⟨rfl, (List.forall_mem_cons.mpr ⟨rfl, (List.forall_mem_cons.mpr ⟨rfl, (List.forall_mem_cons.mpr ⟨rfl, zs_nil⟩)⟩)⟩)⟩)⟩) ?_
      refine zt_X13_give_L79 hX hr hR hd (res := r) (out := out) a0 v7 ?_ ?_ N _ _ _ _ g
      · intro o ho
        subst ho
        exact Option.some.inj h
      · intro w19 v20 S18 hx
        subst hx
        try dsimp only at h
        refine zw_iconst (v := (0 : Int32)) hX dX13_give_129 (by decide) ?_
        refine zw_istore hX dX13_give_130 (by decide) ?_
        obtain ⟨r, g, h⟩ := zb_some h
        refine zw_sub (lv' := [(0, .ref a0), (2, .long w19), (4, .int v20), (5, .int (0 : Int32))]) (List.forall_mem_cons.mpr ⟨rfl, (List.forall_mem_cons.mpr ⟨rfl, (List.forall_mem_cons.mpr ⟨rfl, (List.forall_mem_cons.mpr ⟨rfl, zs_nil⟩)⟩)⟩)⟩) ?_
        refine zt_X13_give_L132 hX hr hR hd (res := r) (out := out) a0 w19 v20 ?_ ?_ N _ _ g
        · intro o ho
          subst ho
          exact Option.some.inj h
        · intro  S24 hx
          subst hx
          try dsimp only at h
          refine zw_iconst (v := (0 : Int32)) hX dX13_give_155 (by decide) ?_
          refine zw_istore hX dX13_give_156 (by decide) ?_
          obtain ⟨r, g, h⟩ := zb_some h
          refine zw_sub (lv' := [(0, .ref a0), (2, .long w19), (4, .int v20), (5, .int (0 : Int32))]) (List.forall_mem_cons.mpr ⟨rfl, (List.forall_mem_cons.mpr ⟨rfl, (List.forall_mem_cons.mpr ⟨rfl, (List.forall_mem_cons.mpr ⟨rfl, zs_nil⟩)⟩)⟩)⟩) ?_
          refine zt_X13_give_L158 hX hr hR hd (res := r) (out := out) a0 w19 v20 ?_ ?_ N _ _ g
          · intro o ho
            subst ho
            exact Option.some.inj h
          · intro  S32 hx
            subst hx
            try dsimp only at h
            refine zw_lload_n hX dX13_give_187 rfl ?_
            obtain rfl := Option.some.inj h
            exact zw_lret hX hr dX13_give_188 ⟨rfl, rfl⟩
def zf_X13_given (N : Nat) (a0 : Nat) (i1 : Int32) (i2 : Int32) (S : zm_S) : Option (Int32 × zm_S) := (zg_r S a0 13 20).bind (fun b1 => (za_x S 0 b1 i1).bind (fun v2 => if 0 ≤ v2 then if i2 = 0 then (zg_r S a0 13 20).bind (fun b9 => (za_x S 0 b9 i1).bind (fun v10 => some (v10, S))) else if i2 = (1 : Int32) then (zg_r S a0 13 21).bind (fun b7 => (za_x S 0 b7 i1).bind (fun v8 => some (v8, S))) else if i2 = (2 : Int32) then (zg_r S a0 13 22).bind (fun b5 => (za_x S 0 b5 i1).bind (fun v6 => some (v6, S))) else (zg_r S a0 13 23).bind (fun b3 => (za_x S 0 b3 i1).bind (fun v4 => some (v4, S))) else some ((-1 : Int32), S)))
set_option maxHeartbeats 4000000 in
set_option maxRecDepth 100000 in
theorem zt_X13_given {l : Launch} {V : zm_V} {N : Nat} {S : zm_S} {out : (Int32 × zm_S)} {d : Nat} {a0 : Nat} {i1 : Int32} {i2 : Int32} (hd : 1 ≤ d) (h : zf_X13_given N a0 i1 i2 S = some out) : zm_Met l zk_E V yX13_given (.code yX13_given cX13_given 3 (some .int)) d [.ref a0, .int i1, .int i2] S 0 0 (zo_i out) zo_x := by
  refine zm_of (by decide +kernel) (Nat.le_of_ble_eq_true rfl) ?_
  intro p e R s m args below meth c hRR hX hr hxt
  have hR : R.frames = d ∧ R.locals = 64 * d := by rw [hRR]; exact ⟨rfl, rfl⟩
  have hX : zm_X p R s m args meth c RX13 "given" cX13_given 3 zk_E V 0 0 := hX
  unfold zf_X13_given at h
  refine zw_sub (lv' := [(0, .ref a0), (1, .int i1), (2, .int i2)]) (List.forall_mem_cons.mpr ⟨rfl, (List.forall_mem_cons.mpr ⟨rfl, (List.forall_mem_cons.mpr ⟨rfl, zs_nil⟩)⟩)⟩) ?_
  refine zw_aload_n hX dX13_given_0 rfl ?_
  obtain ⟨b1, g, h⟩ := zb_some h
  refine zw_getr hX zl_X13_54 dX13_given_1 g ?_
  refine zw_iload_n hX dX13_given_4 rfl ?_
  obtain ⟨v2, g, h⟩ := zb_some h
  refine zw_xi hX dX13_given_5 g ?_
  refine zw_if_ge (tgt := 13) hX dX13_given_6 (by decide) (fun c6 => ?_) (fun c6 => ?_)
  · rw [if_pos c6] at h
    refine zw_iload_n hX dX13_given_13 rfl ?_
    refine zw_if_ne (tgt := 26) hX dX13_given_14 (by decide) (fun c14 => ?_) (fun c14 => ?_)
    · rw [if_neg c14] at h
      refine zw_iload_n hX dX13_given_26 rfl ?_
      refine zw_iconst (v := (1 : Int32)) hX dX13_given_27 (by decide) ?_
      refine zw_icmp_ne (tgt := 40) hX dX13_given_28 (by decide) (fun c28 => ?_) (fun c28 => ?_)
      · rw [if_neg c28] at h
        refine zw_iload_n hX dX13_given_40 rfl ?_
        refine zw_iconst (v := (2 : Int32)) hX dX13_given_41 (by decide) ?_
        refine zw_icmp_ne (tgt := 54) hX dX13_given_42 (by decide) (fun c42 => ?_) (fun c42 => ?_)
        · rw [if_neg c42] at h
          refine zw_aload_n hX dX13_given_54 rfl ?_
          obtain ⟨b3, g, h⟩ := zb_some h
          refine zw_getr hX zl_X13_63 dX13_given_55 g ?_
          refine zw_iload_n hX dX13_given_58 rfl ?_
          obtain ⟨v4, g, h⟩ := zb_some h
          refine zw_xi hX dX13_given_59 g ?_
          obtain rfl := Option.some.inj h
          exact zw_iret hX hr dX13_given_60 rfl ⟨rfl, rfl⟩
        · rw [if_pos c42] at h
          refine zw_aload_n hX dX13_given_45 rfl ?_
          obtain ⟨b5, g, h⟩ := zb_some h
          refine zw_getr hX zl_X13_60 dX13_given_46 g ?_
          refine zw_iload_n hX dX13_given_49 rfl ?_
          obtain ⟨v6, g, h⟩ := zb_some h
          refine zw_xi hX dX13_given_50 g ?_
          refine zw_goto (tgt := 60) hX dX13_given_51 (by decide) ?_
          obtain rfl := Option.some.inj h
          exact zw_iret hX hr dX13_given_60 rfl ⟨rfl, rfl⟩
      · rw [if_pos c28] at h
        refine zw_aload_n hX dX13_given_31 rfl ?_
        obtain ⟨b7, g, h⟩ := zb_some h
        refine zw_getr hX zl_X13_57 dX13_given_32 g ?_
        refine zw_iload_n hX dX13_given_35 rfl ?_
        obtain ⟨v8, g, h⟩ := zb_some h
        refine zw_xi hX dX13_given_36 g ?_
        refine zw_goto (tgt := 60) hX dX13_given_37 (by decide) ?_
        obtain rfl := Option.some.inj h
        exact zw_iret hX hr dX13_given_60 rfl ⟨rfl, rfl⟩
    · rw [if_pos c14] at h
      refine zw_aload_n hX dX13_given_17 rfl ?_
      obtain ⟨b9, g, h⟩ := zb_some h
      refine zw_getr hX zl_X13_54 dX13_given_18 g ?_
      refine zw_iload_n hX dX13_given_21 rfl ?_
      obtain ⟨v10, g, h⟩ := zb_some h
      refine zw_xi hX dX13_given_22 g ?_
      refine zw_goto (tgt := 60) hX dX13_given_23 (by decide) ?_
      obtain rfl := Option.some.inj h
      exact zw_iret hX hr dX13_given_60 rfl ⟨rfl, rfl⟩
  · rw [if_neg c6] at h
    refine zw_iconst (v := (-1 : Int32)) hX dX13_given_9 (by decide) ?_
    refine zw_goto (tgt := 60) hX dX13_given_10 (by decide) ?_
    obtain rfl := Option.some.inj h
    exact zw_iret hX hr dX13_given_60 rfl ⟨rfl, rfl⟩
def zf_X14_unit (N : Nat) (a0 : Nat) (i1 : Int32) (S : zm_S) : Option (Int32 × zm_S) := (zg_r S a0 14 5).bind (fun b1 => (zg_i S a0 14 6).bind (fun v2 => (zs_i S b1 v2 i1).bind (fun S3 => (zg_i S3 a0 14 6).bind (fun v4 => (zp S3 a0 14 6 (.int (v4 + (1 : Int32)))).bind (fun S5 => (zg_i S5 a0 14 6).bind (fun v6 => some (v6, S5)))))))
set_option maxHeartbeats 4000000 in
set_option maxRecDepth 100000 in
theorem zt_X14_unit {l : Launch} {V : zm_V} {N : Nat} {S : zm_S} {out : (Int32 × zm_S)} {d : Nat} {a0 : Nat} {i1 : Int32} (hd : 1 ≤ d) (h : zf_X14_unit N a0 i1 S = some out) : zm_Met l zk_E V yX14_unit (.code yX14_unit cX14_unit 2 (some .int)) d [.ref a0, .int i1] S 0 0 (zo_i out) zo_x := by
  refine zm_of (by decide +kernel) (Nat.le_of_ble_eq_true rfl) ?_
  intro p e R s m args below meth c hRR hX hr hxt
  have hR : R.frames = d ∧ R.locals = 64 * d := by rw [hRR]; exact ⟨rfl, rfl⟩
  have hX : zm_X p R s m args meth c RX14 "unit" cX14_unit 2 zk_E V 0 0 := hX
  unfold zf_X14_unit at h
  refine zw_sub (lv' := [(0, .ref a0), (1, .int i1)]) (List.forall_mem_cons.mpr ⟨rfl, (List.forall_mem_cons.mpr ⟨rfl, zs_nil⟩)⟩) ?_
  refine zw_aload_n hX dX14_unit_0 rfl ?_
  obtain ⟨b1, g, h⟩ := zb_some h
  refine zw_getr hX zl_X14_20 dX14_unit_1 g ?_
  refine zw_aload_n hX dX14_unit_4 rfl ?_
  obtain ⟨v2, g, h⟩ := zb_some h
  refine zw_geti hX zl_X14_89 dX14_unit_5 g ?_
  refine zw_iload_n hX dX14_unit_8 rfl ?_
  obtain ⟨S3, g, h⟩ := zb_some h
  refine zw_si hX dX14_unit_9 g ?_
  refine zw_aload_n hX dX14_unit_10 rfl ?_
  refine zw_dup hX dX14_unit_11 rfl ?_
  obtain ⟨v4, g, h⟩ := zb_some h
  refine zw_geti hX zl_X14_89 dX14_unit_12 g ?_
  refine zw_iconst (v := (1 : Int32)) hX dX14_unit_15 (by decide) ?_
  refine zw_iadd hX dX14_unit_16 ?_
  obtain ⟨S5, g, h⟩ := zb_some h
  refine zw_putv hX zl_X14_89 zt_14_6 dX14_unit_17 rfl rfl g ?_
  refine zw_aload_n hX dX14_unit_20 rfl ?_
  obtain ⟨v6, g, h⟩ := zb_some h
  refine zw_geti hX zl_X14_89 dX14_unit_21 g ?_
  obtain rfl := Option.some.inj h
  exact zw_iret hX hr dX14_unit_24 rfl ⟨rfl, rfl⟩
def zf_X14_letter (N : Nat) (a0 : Nat) (i1 : Int32) (S : zm_S) : Option (Unit × zm_S) := (zg_r S a0 14 34).bind (fun b1 => (zg_i S a0 14 35).bind (fun v2 => (zs_i S b1 v2 i1).bind (fun S3 => (zg_i S3 a0 14 35).bind (fun v4 => (zp S3 a0 14 35 (.int (v4 + (1 : Int32)))).bind (fun S5 => some ((), S5))))))
set_option maxHeartbeats 4000000 in
set_option maxRecDepth 100000 in
theorem zt_X14_letter {l : Launch} {V : zm_V} {N : Nat} {S : zm_S} {out : (Unit × zm_S)} {d : Nat} {a0 : Nat} {i1 : Int32} (hd : 1 ≤ d) (h : zf_X14_letter N a0 i1 S = some out) : zm_Met l zk_E V yX14_letter (.code yX14_letter cX14_letter 2 none) d [.ref a0, .int i1] S 0 0 (zo_v out) zo_x := by
  refine zm_of (by decide +kernel) (Nat.le_of_ble_eq_true rfl) ?_
  intro p e R s m args below meth c hRR hX hr hxt
  have hR : R.frames = d ∧ R.locals = 64 * d := by rw [hRR]; exact ⟨rfl, rfl⟩
  have hX : zm_X p R s m args meth c RX14 "letter" cX14_letter 2 zk_E V 0 0 := hX
  unfold zf_X14_letter at h
  refine zw_sub (lv' := [(0, .ref a0), (1, .int i1)]) (List.forall_mem_cons.mpr ⟨rfl, (List.forall_mem_cons.mpr ⟨rfl, zs_nil⟩)⟩) ?_
  refine zw_aload_n hX dX14_letter_0 rfl ?_
  obtain ⟨b1, g, h⟩ := zb_some h
  refine zw_getr hX zl_X14_86 dX14_letter_1 g ?_
  refine zw_aload_n hX dX14_letter_4 rfl ?_
  obtain ⟨v2, g, h⟩ := zb_some h
  refine zw_geti hX zl_X14_93 dX14_letter_5 g ?_
  refine zw_iload_n hX dX14_letter_8 rfl ?_
  obtain ⟨S3, g, h⟩ := zb_some h
  refine zw_si hX dX14_letter_9 g ?_
  refine zw_aload_n hX dX14_letter_10 rfl ?_
  refine zw_dup hX dX14_letter_11 rfl ?_
  obtain ⟨v4, g, h⟩ := zb_some h
  refine zw_geti hX zl_X14_93 dX14_letter_12 g ?_
  refine zw_iconst (v := (1 : Int32)) hX dX14_letter_15 (by decide) ?_
  refine zw_iadd hX dX14_letter_16 ?_
  obtain ⟨S5, g, h⟩ := zb_some h
  refine zw_putv hX zl_X14_93 zt_14_35 dX14_letter_17 rfl rfl g ?_
  obtain rfl := Option.some.inj h
  exact zw_vret hX hr dX14_letter_20 ⟨rfl, rfl⟩
def zf_X14_number_J81 (N : Nat) (a0 : Nat) (i1 : Int32) (S : zm_S) : Option (Unit × zm_S) := (zi S a0 14).bind (fun _ => (zf_X14_letter N a0 ((48 : Int32) + (i1 - i1 / (10 : Int32) * (10 : Int32))) S).bind (fun r3 => (zi r3.2 a0 14).bind (fun _ => (zf_X14_letter N a0 (32 : Int32) r3.2).bind (fun r6 => some ((), r6.2)))))
set_option maxHeartbeats 4000000 in
set_option maxRecDepth 100000 in
theorem zt_X14_number_J81 {p : Program} {l : Launch} {e : Env} {R : Room} {s : State} {m : MethodId} {args : Array Value} {below : List Frame} {meth : Method} {c : Code} {V : zm_V} {mc ms d rc rs : Nat} (hX : zm_X p R s m args meth c RX14 "number" cX14_number 2 zk_E V mc ms) (hr : meth.sig.returnType = none) (hR : R.frames = d ∧ R.locals = 64 * d) (hd : 2 ≤ d) {N : Nat} {a0 : Nat} {i1 : Int32} {out : (Unit × zm_S)} {S : zm_S} (h : zf_X14_number_J81 N a0 i1 S = some out) : zw p l e R s m args below meth c (vx_MQ below (zm_Qc zk_E V (zo_v out)) (zm_XC zk_E V zo_x) args s mc ms (fun q => V.2.2.2.1 ≤ q)) 2 zk_E V mc ms 81 [(0, .ref a0), (1, .int i1)] [] S rc rs := by
  unfold zf_X14_number_J81 at h
  refine zw_aload_n hX dX14_number_81 rfl ?_
  refine zw_bipush (v := (48 : Int32)) hX dX14_number_82 (by decide) ?_
  refine zw_iload_n hX dX14_number_84 rfl ?_
  refine zw_bipush (v := (10 : Int32)) hX dX14_number_85 (by decide) ?_
  refine zw_irem hX dX14_number_87 (by decide) ?_
  refine zw_iadd hX dX14_number_88 ?_
  obtain ⟨_, gi, h⟩ := zb_some h
  obtain ⟨r3, g, h⟩ := zb_some h
  refine zc_Vv (as := [.int ((48 : Int32) + (i1 - i1 / (10 : Int32) * (10 : Int32)))]) hX gi (zt_X14_letter (d := d - 1) (by omega) g) zl_X14_96 rfl dX14_number_89 ⟨rfl, rfl, Nat.le_of_ble_eq_true rfl⟩ ⟨by omega, by omega⟩ ?_
  refine zw_aload_n hX dX14_number_92 rfl ?_
  refine zw_bipush (v := (32 : Int32)) hX dX14_number_93 (by decide) ?_
  obtain ⟨_, gi, h⟩ := zb_some h
  obtain ⟨r6, g, h⟩ := zb_some h
  refine zc_Vv (as := [.int (32 : Int32)]) hX gi (zt_X14_letter (d := d - 1) (by omega) g) zl_X14_96 rfl dX14_number_95 ⟨rfl, rfl, Nat.le_of_ble_eq_true rfl⟩ ⟨by omega, by omega⟩ ?_
  obtain rfl := Option.some.inj h
  exact zw_vret hX hr dX14_number_98 ⟨rfl, rfl⟩
def zf_X14_number_J61 (N : Nat) (a0 : Nat) (i1 : Int32) (S : zm_S) : Option (Unit × zm_S) := if i1 ≤ (9 : Int32) then zf_X14_number_J81 N a0 i1 S else (zi S a0 14).bind (fun _ => (zf_X14_letter N a0 ((48 : Int32) + ((i1 / (10 : Int32)) - (i1 / (10 : Int32)) / (10 : Int32) * (10 : Int32))) S).bind (fun r9 => zf_X14_number_J81 N a0 i1 r9.2))
set_option maxHeartbeats 4000000 in
set_option maxRecDepth 100000 in
theorem zt_X14_number_J61 {p : Program} {l : Launch} {e : Env} {R : Room} {s : State} {m : MethodId} {args : Array Value} {below : List Frame} {meth : Method} {c : Code} {V : zm_V} {mc ms d rc rs : Nat} (hX : zm_X p R s m args meth c RX14 "number" cX14_number 2 zk_E V mc ms) (hr : meth.sig.returnType = none) (hR : R.frames = d ∧ R.locals = 64 * d) (hd : 2 ≤ d) {N : Nat} {a0 : Nat} {i1 : Int32} {out : (Unit × zm_S)} {S : zm_S} (h : zf_X14_number_J61 N a0 i1 S = some out) : zw p l e R s m args below meth c (vx_MQ below (zm_Qc zk_E V (zo_v out)) (zm_XC zk_E V zo_x) args s mc ms (fun q => V.2.2.2.1 ≤ q)) 2 zk_E V mc ms 61 [(0, .ref a0), (1, .int i1)] [] S rc rs := by
  unfold zf_X14_number_J61 at h
  refine zw_iload_n hX dX14_number_61 rfl ?_
  refine zw_bipush (v := (9 : Int32)) hX dX14_number_62 (by decide) ?_
  refine zw_icmp_le (tgt := 81) hX dX14_number_64 (by decide) (fun c64 => ?_) (fun c64 => ?_)
  · rw [if_pos c64] at h
    refine zw_sub (lv' := [(0, .ref a0), (1, .int i1)]) (List.forall_mem_cons.mpr ⟨rfl, (List.forall_mem_cons.mpr ⟨rfl, zs_nil⟩)⟩) ?_
    exact zt_X14_number_J81 hX hr hR hd h
  · rw [if_neg c64] at h
    refine zw_aload_n hX dX14_number_67 rfl ?_
    refine zw_bipush (v := (48 : Int32)) hX dX14_number_68 (by decide) ?_
    refine zw_iload_n hX dX14_number_70 rfl ?_
    refine zw_bipush (v := (10 : Int32)) hX dX14_number_71 (by decide) ?_
    refine zw_idiv hX dX14_number_73 (by decide) ?_
    refine zw_bipush (v := (10 : Int32)) hX dX14_number_74 (by decide) ?_
    refine zw_irem hX dX14_number_76 (by decide) ?_
    refine zw_iadd hX dX14_number_77 ?_
    obtain ⟨_, gi, h⟩ := zb_some h
    obtain ⟨r9, g, h⟩ := zb_some h
    refine zc_Vv (as := [.int ((48 : Int32) + ((i1 / (10 : Int32)) - (i1 / (10 : Int32)) / (10 : Int32) * (10 : Int32)))]) hX gi (zt_X14_letter (d := d - 1) (by omega) g) zl_X14_96 rfl dX14_number_78 ⟨rfl, rfl, Nat.le_of_ble_eq_true rfl⟩ ⟨by omega, by omega⟩ ?_
    refine zw_sub (lv' := [(0, .ref a0), (1, .int i1)]) (List.forall_mem_cons.mpr ⟨rfl, (List.forall_mem_cons.mpr ⟨rfl, zs_nil⟩)⟩) ?_
    exact zt_X14_number_J81 hX hr hR hd h
def zf_X14_number_J41 (N : Nat) (a0 : Nat) (i1 : Int32) (S : zm_S) : Option (Unit × zm_S) := if i1 ≤ (99 : Int32) then zf_X14_number_J61 N a0 i1 S else (zi S a0 14).bind (fun _ => (zf_X14_letter N a0 ((48 : Int32) + ((i1 / (100 : Int32)) - (i1 / (100 : Int32)) / (10 : Int32) * (10 : Int32))) S).bind (fun r12 => zf_X14_number_J61 N a0 i1 r12.2))
set_option maxHeartbeats 4000000 in
set_option maxRecDepth 100000 in
theorem zt_X14_number_J41 {p : Program} {l : Launch} {e : Env} {R : Room} {s : State} {m : MethodId} {args : Array Value} {below : List Frame} {meth : Method} {c : Code} {V : zm_V} {mc ms d rc rs : Nat} (hX : zm_X p R s m args meth c RX14 "number" cX14_number 2 zk_E V mc ms) (hr : meth.sig.returnType = none) (hR : R.frames = d ∧ R.locals = 64 * d) (hd : 2 ≤ d) {N : Nat} {a0 : Nat} {i1 : Int32} {out : (Unit × zm_S)} {S : zm_S} (h : zf_X14_number_J41 N a0 i1 S = some out) : zw p l e R s m args below meth c (vx_MQ below (zm_Qc zk_E V (zo_v out)) (zm_XC zk_E V zo_x) args s mc ms (fun q => V.2.2.2.1 ≤ q)) 2 zk_E V mc ms 41 [(0, .ref a0), (1, .int i1)] [] S rc rs := by
  unfold zf_X14_number_J41 at h
  refine zw_iload_n hX dX14_number_41 rfl ?_
  refine zw_bipush (v := (99 : Int32)) hX dX14_number_42 (by decide) ?_
  refine zw_icmp_le (tgt := 61) hX dX14_number_44 (by decide) (fun c44 => ?_) (fun c44 => ?_)
  · rw [if_pos c44] at h
    refine zw_sub (lv' := [(0, .ref a0), (1, .int i1)]) (List.forall_mem_cons.mpr ⟨rfl, (List.forall_mem_cons.mpr ⟨rfl, zs_nil⟩)⟩) ?_
    exact zt_X14_number_J61 hX hr hR hd h
  · rw [if_neg c44] at h
    refine zw_aload_n hX dX14_number_47 rfl ?_
    refine zw_bipush (v := (48 : Int32)) hX dX14_number_48 (by decide) ?_
    refine zw_iload_n hX dX14_number_50 rfl ?_
    refine zw_bipush (v := (100 : Int32)) hX dX14_number_51 (by decide) ?_
    refine zw_idiv hX dX14_number_53 (by decide) ?_
    refine zw_bipush (v := (10 : Int32)) hX dX14_number_54 (by decide) ?_
    refine zw_irem hX dX14_number_56 (by decide) ?_
    refine zw_iadd hX dX14_number_57 ?_
    obtain ⟨_, gi, h⟩ := zb_some h
    obtain ⟨r12, g, h⟩ := zb_some h
    refine zc_Vv (as := [.int ((48 : Int32) + ((i1 / (100 : Int32)) - (i1 / (100 : Int32)) / (10 : Int32) * (10 : Int32)))]) hX gi (zt_X14_letter (d := d - 1) (by omega) g) zl_X14_96 rfl dX14_number_58 ⟨rfl, rfl, Nat.le_of_ble_eq_true rfl⟩ ⟨by omega, by omega⟩ ?_
    refine zw_sub (lv' := [(0, .ref a0), (1, .int i1)]) (List.forall_mem_cons.mpr ⟨rfl, (List.forall_mem_cons.mpr ⟨rfl, zs_nil⟩)⟩) ?_
    exact zt_X14_number_J61 hX hr hR hd h
def zf_X14_number_J19 (N : Nat) (a0 : Nat) (i1 : Int32) (S : zm_S) : Option (Unit × zm_S) := if i1 ≤ (999 : Int32) then zf_X14_number_J41 N a0 i1 S else (zi S a0 14).bind (fun _ => (zf_X14_letter N a0 ((48 : Int32) + ((i1 / (1000 : Int32)) - (i1 / (1000 : Int32)) / (10 : Int32) * (10 : Int32))) S).bind (fun r15 => zf_X14_number_J41 N a0 i1 r15.2))
set_option maxHeartbeats 4000000 in
set_option maxRecDepth 100000 in
theorem zt_X14_number_J19 {p : Program} {l : Launch} {e : Env} {R : Room} {s : State} {m : MethodId} {args : Array Value} {below : List Frame} {meth : Method} {c : Code} {V : zm_V} {mc ms d rc rs : Nat} (hX : zm_X p R s m args meth c RX14 "number" cX14_number 2 zk_E V mc ms) (hr : meth.sig.returnType = none) (hR : R.frames = d ∧ R.locals = 64 * d) (hd : 2 ≤ d) {N : Nat} {a0 : Nat} {i1 : Int32} {out : (Unit × zm_S)} {S : zm_S} (h : zf_X14_number_J19 N a0 i1 S = some out) : zw p l e R s m args below meth c (vx_MQ below (zm_Qc zk_E V (zo_v out)) (zm_XC zk_E V zo_x) args s mc ms (fun q => V.2.2.2.1 ≤ q)) 2 zk_E V mc ms 19 [(0, .ref a0), (1, .int i1)] [] S rc rs := by
  unfold zf_X14_number_J19 at h
  refine zw_iload_n hX dX14_number_19 rfl ?_
  refine zw_sipush (v := (999 : Int32)) hX dX14_number_20 (by decide) ?_
  refine zw_icmp_le (tgt := 41) hX dX14_number_23 (by decide) (fun c23 => ?_) (fun c23 => ?_)
  · rw [if_pos c23] at h
    refine zw_sub (lv' := [(0, .ref a0), (1, .int i1)]) (List.forall_mem_cons.mpr ⟨rfl, (List.forall_mem_cons.mpr ⟨rfl, zs_nil⟩)⟩) ?_
    exact zt_X14_number_J41 hX hr hR hd h
  · rw [if_neg c23] at h
    refine zw_aload_n hX dX14_number_26 rfl ?_
    refine zw_bipush (v := (48 : Int32)) hX dX14_number_27 (by decide) ?_
    refine zw_iload_n hX dX14_number_29 rfl ?_
    refine zw_sipush (v := (1000 : Int32)) hX dX14_number_30 (by decide) ?_
    refine zw_idiv hX dX14_number_33 (by decide) ?_
    refine zw_bipush (v := (10 : Int32)) hX dX14_number_34 (by decide) ?_
    refine zw_irem hX dX14_number_36 (by decide) ?_
    refine zw_iadd hX dX14_number_37 ?_
    obtain ⟨_, gi, h⟩ := zb_some h
    obtain ⟨r15, g, h⟩ := zb_some h
    refine zc_Vv (as := [.int ((48 : Int32) + ((i1 / (1000 : Int32)) - (i1 / (1000 : Int32)) / (10 : Int32) * (10 : Int32)))]) hX gi (zt_X14_letter (d := d - 1) (by omega) g) zl_X14_96 rfl dX14_number_38 ⟨rfl, rfl, Nat.le_of_ble_eq_true rfl⟩ ⟨by omega, by omega⟩ ?_
    refine zw_sub (lv' := [(0, .ref a0), (1, .int i1)]) (List.forall_mem_cons.mpr ⟨rfl, (List.forall_mem_cons.mpr ⟨rfl, zs_nil⟩)⟩) ?_
    exact zt_X14_number_J41 hX hr hR hd h
def zf_X14_number (N : Nat) (a0 : Nat) (i1 : Int32) (S : zm_S) : Option (Unit × zm_S) := if i1 ≤ (9999 : Int32) then zf_X14_number_J19 N a0 i1 S else (zi S a0 14).bind (fun _ => (zf_X14_letter N a0 ((48 : Int32) + (i1 / (10000 : Int32))) S).bind (fun r18 => zf_X14_number_J19 N a0 i1 r18.2))
set_option maxHeartbeats 4000000 in
set_option maxRecDepth 100000 in
theorem zt_X14_number {l : Launch} {V : zm_V} {N : Nat} {S : zm_S} {out : (Unit × zm_S)} {d : Nat} {a0 : Nat} {i1 : Int32} (hd : 2 ≤ d) (h : zf_X14_number N a0 i1 S = some out) : zm_Met l zk_E V yX14_number (.code yX14_number cX14_number 2 none) d [.ref a0, .int i1] S 0 0 (zo_v out) zo_x := by
  refine zm_of (by decide +kernel) (Nat.le_of_ble_eq_true rfl) ?_
  intro p e R s m args below meth c hRR hX hr hxt
  have hR : R.frames = d ∧ R.locals = 64 * d := by rw [hRR]; exact ⟨rfl, rfl⟩
  have hX : zm_X p R s m args meth c RX14 "number" cX14_number 2 zk_E V 0 0 := hX
  unfold zf_X14_number at h
  refine zw_sub (lv' := [(0, .ref a0), (1, .int i1)]) (List.forall_mem_cons.mpr ⟨rfl, (List.forall_mem_cons.mpr ⟨rfl, zs_nil⟩)⟩) ?_
  refine zw_iload_n hX dX14_number_0 rfl ?_
  refine zw_sipush (v := (9999 : Int32)) hX dX14_number_1 (by decide) ?_
  refine zw_icmp_le (tgt := 19) hX dX14_number_4 (by decide) (fun c4 => ?_) (fun c4 => ?_)
  · rw [if_pos c4] at h
    refine zw_sub (lv' := [(0, .ref a0), (1, .int i1)]) (List.forall_mem_cons.mpr ⟨rfl, (List.forall_mem_cons.mpr ⟨rfl, zs_nil⟩)⟩) ?_
    exact zt_X14_number_J19 hX hr hR hd h
  · rw [if_neg c4] at h
    refine zw_aload_n hX dX14_number_7 rfl ?_
    refine zw_bipush (v := (48 : Int32)) hX dX14_number_8 (by decide) ?_
    refine zw_iload_n hX dX14_number_10 rfl ?_
    refine zw_sipush (v := (10000 : Int32)) hX dX14_number_11 (by decide) ?_
    refine zw_idiv hX dX14_number_14 (by decide) ?_
    refine zw_iadd hX dX14_number_15 ?_
    obtain ⟨_, gi, h⟩ := zb_some h
    obtain ⟨r18, g, h⟩ := zb_some h
    refine zc_Vv (as := [.int ((48 : Int32) + (i1 / (10000 : Int32)))]) hX gi (zt_X14_letter (d := d - 1) (by omega) g) zl_X14_96 rfl dX14_number_16 ⟨rfl, rfl, Nat.le_of_ble_eq_true rfl⟩ ⟨by omega, by omega⟩ ?_
    refine zw_sub (lv' := [(0, .ref a0), (1, .int i1)]) (List.forall_mem_cons.mpr ⟨rfl, (List.forall_mem_cons.mpr ⟨rfl, zs_nil⟩)⟩) ?_
    exact zt_X14_number_J19 hX hr hR hd h
def zf_X14_word_L2 (N : Nat) : Nat → Nat → Int32 → zm_S → Option ((Unit × zm_S) ⊕ ((Unit) × zm_S))
  | 0, _, _, _ => none
  | n + 1, a0, i2, S => if i2 ≤ 0 then some (.inr ((), S)) else (zi S a0 14).bind (fun _ => (zf_X14_letter N a0 ((96 : Int32) + (i2 - i2 / (32 : Int32) * (32 : Int32))) S).bind (fun r3 => zf_X14_word_L2 N n a0 (i2 / (32 : Int32)) r3.2))
set_option maxHeartbeats 4000000 in
set_option maxRecDepth 100000 in
theorem zt_X14_word_L2 {p : Program} {l : Launch} {e : Env} {R : Room} {s : State} {m : MethodId} {args : Array Value} {below : List Frame} {meth : Method} {c : Code} {V : zm_V} {mc ms d rc rs : Nat} (hX : zm_X p R s m args meth c RX14 "word" cX14_word 3 zk_E V mc ms) (hr : meth.sig.returnType = none) (hR : R.frames = d ∧ R.locals = 64 * d) (hd : 2 ≤ d) {N : Nat} {res : (Unit × zm_S) ⊕ ((Unit) × zm_S)} {out : (Unit × zm_S)} (a0 : Nat) (hf : ∀ o, res = .inl o → o = out) (hk : ∀ (S' : zm_S), res = .inr ((), S') → zw p l e R s m args below meth c (vx_MQ below (zm_Qc zk_E V (zo_v out)) (zm_XC zk_E V zo_x) args s mc ms (fun q => V.2.2.2.1 ≤ q)) 3 zk_E V mc ms 25 [(0, .ref a0)] [] S' rc rs) : ∀ (n : Nat) (i2 : Int32) (S : zm_S), zf_X14_word_L2 N n a0 i2 S = some res → zw p l e R s m args below meth c (vx_MQ below (zm_Qc zk_E V (zo_v out)) (zm_XC zk_E V zo_x) args s mc ms (fun q => V.2.2.2.1 ≤ q)) 3 zk_E V mc ms 2 [(0, .ref a0), (2, .int i2)] [] S rc rs := by
  intro n
  induction n with
  | zero => intro i2 S h; cases h
  | succ n ih =>
    intro i2 S h
    rw [zf_X14_word_L2] at h
    refine zw_iload_n hX dX14_word_2 rfl ?_
    refine zw_if_le (tgt := 25) hX dX14_word_3 (by decide) (fun c3 => ?_) (fun c3 => ?_)
    · rw [if_pos c3] at h
      refine zw_sub (lv' := [(0, .ref a0)]) (List.forall_mem_cons.mpr ⟨rfl, zs_nil⟩) ?_
      exact hk  _ (Option.some.inj h).symm
    · rw [if_neg c3] at h
      refine zw_aload_n hX dX14_word_6 rfl ?_
      refine zw_bipush (v := (96 : Int32)) hX dX14_word_7 (by decide) ?_
      refine zw_iload_n hX dX14_word_9 rfl ?_
      refine zw_bipush (v := (32 : Int32)) hX dX14_word_10 (by decide) ?_
      refine zw_irem hX dX14_word_12 (by decide) ?_
      refine zw_iadd hX dX14_word_13 ?_
      obtain ⟨_, gi, h⟩ := zb_some h
      obtain ⟨r3, g, h⟩ := zb_some h
      refine zc_Vv (as := [.int ((96 : Int32) + (i2 - i2 / (32 : Int32) * (32 : Int32)))]) hX gi (zt_X14_letter (d := d - 1) (by omega) g) zl_X14_96 rfl dX14_word_14 ⟨rfl, rfl, Nat.le_of_ble_eq_true rfl⟩ ⟨by omega, by omega⟩ ?_
      refine zw_iload_n hX dX14_word_17 rfl ?_
      refine zw_bipush (v := (32 : Int32)) hX dX14_word_18 (by decide) ?_
      refine zw_idiv hX dX14_word_20 (by decide) ?_
      refine zw_istore_n hX dX14_word_21 (by decide) ?_
      refine zw_goto (tgt := 2) hX dX14_word_22 (by decide) ?_
      refine zw_sub (lv' := [(0, .ref a0), (2, .int (i2 / (32 : Int32)))]) (List.forall_mem_cons.mpr ⟨rfl, (List.forall_mem_cons.mpr ⟨rfl, zs_nil⟩)⟩) ?_
      exact ih _ _ h
def zf_X14_word (N : Nat) (a0 : Nat) (i1 : Int32) (S : zm_S) : Option (Unit × zm_S) := (zf_X14_word_L2 N N a0 i1 S).bind (fun r => match r with | .inl o => some o | .inr (_, S4) => (zi S4 a0 14).bind (fun _ => (zf_X14_letter N a0 (32 : Int32) S4).bind (fun r7 => some ((), r7.2))))
set_option maxHeartbeats 4000000 in
set_option maxRecDepth 100000 in
theorem zt_X14_word {l : Launch} {V : zm_V} {N : Nat} {S : zm_S} {out : (Unit × zm_S)} {d : Nat} {a0 : Nat} {i1 : Int32} (hd : 2 ≤ d) (h : zf_X14_word N a0 i1 S = some out) : zm_Met l zk_E V yX14_word (.code yX14_word cX14_word 3 none) d [.ref a0, .int i1] S 0 0 (zo_v out) zo_x := by
  refine zm_of (by decide +kernel) (Nat.le_of_ble_eq_true rfl) ?_
  intro p e R s m args below meth c hRR hX hr hxt
  have hR : R.frames = d ∧ R.locals = 64 * d := by rw [hRR]; exact ⟨rfl, rfl⟩
  have hX : zm_X p R s m args meth c RX14 "word" cX14_word 3 zk_E V 0 0 := hX
  unfold zf_X14_word at h
  refine zw_sub (lv' := [(0, .ref a0), (1, .int i1)]) (List.forall_mem_cons.mpr ⟨rfl, (List.forall_mem_cons.mpr ⟨rfl, zs_nil⟩)⟩) ?_
  refine zw_iload_n hX dX14_word_0 rfl ?_
  refine zw_istore_n hX dX14_word_1 (by decide) ?_
  obtain ⟨r, g, h⟩ := zb_some h
  refine zw_sub (lv' := [(0, .ref a0), (2, .int i1)]) (List.forall_mem_cons.mpr ⟨rfl, (List.forall_mem_cons.mpr ⟨rfl, zs_nil⟩)⟩) ?_
  refine zt_X14_word_L2 hX hr hR hd (res := r) (out := out) a0 ?_ ?_ N _ _ g
  · intro o ho
    subst ho
    exact Option.some.inj h
  · intro  S4 hx
    subst hx
    try dsimp only at h
    refine zw_aload_n hX dX14_word_25 rfl ?_
    refine zw_bipush (v := (32 : Int32)) hX dX14_word_26 (by decide) ?_
    obtain ⟨_, gi, h⟩ := zb_some h
    obtain ⟨r7, g, h⟩ := zb_some h
    refine zc_Vv (as := [.int (32 : Int32)]) hX gi (zt_X14_letter (d := d - 1) (by omega) g) zl_X14_96 rfl dX14_word_28 ⟨rfl, rfl, Nat.le_of_ble_eq_true rfl⟩ ⟨by omega, by omega⟩ ?_
    obtain rfl := Option.some.inj h
    exact zw_vret hX hr dX14_word_31 ⟨rfl, rfl⟩
def zf_X14_stop (N : Nat) (a0 : Nat) (S : zm_S) : Option (Unit × zm_S) := (zi S a0 14).bind (fun _ => (zf_X14_letter N a0 (59 : Int32) S).bind (fun r3 => (zi r3.2 a0 14).bind (fun _ => (zf_X14_letter N a0 (32 : Int32) r3.2).bind (fun r6 => some ((), r6.2)))))
set_option maxHeartbeats 4000000 in
set_option maxRecDepth 100000 in
theorem zt_X14_stop {l : Launch} {V : zm_V} {N : Nat} {S : zm_S} {out : (Unit × zm_S)} {d : Nat} {a0 : Nat} (hd : 2 ≤ d) (h : zf_X14_stop N a0 S = some out) : zm_Met l zk_E V yX14_stop (.code yX14_stop cX14_stop 1 none) d [.ref a0] S 0 0 (zo_v out) zo_x := by
  refine zm_of (by decide +kernel) (Nat.le_of_ble_eq_true rfl) ?_
  intro p e R s m args below meth c hRR hX hr hxt
  have hR : R.frames = d ∧ R.locals = 64 * d := by rw [hRR]; exact ⟨rfl, rfl⟩
  have hX : zm_X p R s m args meth c RX14 "stop" cX14_stop 1 zk_E V 0 0 := hX
  unfold zf_X14_stop at h
  refine zw_sub (lv' := [(0, .ref a0)]) (List.forall_mem_cons.mpr ⟨rfl, zs_nil⟩) ?_
  refine zw_aload_n hX dX14_stop_0 rfl ?_
  refine zw_bipush (v := (59 : Int32)) hX dX14_stop_1 (by decide) ?_
  obtain ⟨_, gi, h⟩ := zb_some h
  obtain ⟨r3, g, h⟩ := zb_some h
  refine zc_Vv (as := [.int (59 : Int32)]) hX gi (zt_X14_letter (d := d - 1) (by omega) g) zl_X14_96 rfl dX14_stop_3 ⟨rfl, rfl, Nat.le_of_ble_eq_true rfl⟩ ⟨by omega, by omega⟩ ?_
  refine zw_aload_n hX dX14_stop_6 rfl ?_
  refine zw_bipush (v := (32 : Int32)) hX dX14_stop_7 (by decide) ?_
  obtain ⟨_, gi, h⟩ := zb_some h
  obtain ⟨r6, g, h⟩ := zb_some h
  refine zc_Vv (as := [.int (32 : Int32)]) hX gi (zt_X14_letter (d := d - 1) (by omega) g) zl_X14_96 rfl dX14_stop_9 ⟨rfl, rfl, Nat.le_of_ble_eq_true rfl⟩ ⟨by omega, by omega⟩ ?_
  obtain rfl := Option.some.inj h
  exact zw_vret hX hr dX14_stop_12 ⟨rfl, rfl⟩
def zf_X14_isSaid (N : Nat) (i0 : Int32) (S : zm_S) : Option (Int32 × zm_S) := if i0 < 0 then some ((0 : Int32), S) else if (9999 : Int32) < i0 then some ((0 : Int32), S) else some ((1 : Int32), S)
set_option maxHeartbeats 4000000 in
set_option maxRecDepth 100000 in
theorem zt_X14_isSaid {l : Launch} {V : zm_V} {N : Nat} {S : zm_S} {out : (Int32 × zm_S)} {d : Nat} {i0 : Int32} (hd : 1 ≤ d) (h : zf_X14_isSaid N i0 S = some out) : zm_Met l zk_E V yX14_isSaid (.code yX14_isSaid cX14_isSaid 1 (some .boolean)) d [.int i0] S 0 0 (zo_i out) zo_x := by
  refine zm_of (by decide +kernel) (Nat.le_of_ble_eq_true rfl) ?_
  intro p e R s m args below meth c hRR hX hr hxt
  have hR : R.frames = d ∧ R.locals = 64 * d := by rw [hRR]; exact ⟨rfl, rfl⟩
  have hX : zm_X p R s m args meth c RX14 "isSaid" cX14_isSaid 1 zk_E V 0 0 := hX
  unfold zf_X14_isSaid at h
  refine zw_sub (lv' := [(0, .int i0)]) (List.forall_mem_cons.mpr ⟨rfl, zs_nil⟩) ?_
  refine zw_iload_n hX dX14_isSaid_0 rfl ?_
  refine zw_if_lt (tgt := 15) hX dX14_isSaid_1 (by decide) (fun c1 => ?_) (fun c1 => ?_)
  · rw [if_pos c1] at h
    refine zw_iconst (v := (0 : Int32)) hX dX14_isSaid_15 (by decide) ?_
    obtain rfl := Option.some.inj h
    exact zw_iret hX hr dX14_isSaid_16 rfl ⟨rfl, rfl⟩
  · rw [if_neg c1] at h
    refine zw_iload_n hX dX14_isSaid_4 rfl ?_
    refine zw_sipush (v := (9999 : Int32)) hX dX14_isSaid_5 (by decide) ?_
    refine zw_icmp_gt (tgt := 15) hX dX14_isSaid_8 (by decide) (fun c8 => ?_) (fun c8 => ?_)
    · rw [if_pos c8] at h
      refine zw_iconst (v := (0 : Int32)) hX dX14_isSaid_15 (by decide) ?_
      obtain rfl := Option.some.inj h
      exact zw_iret hX hr dX14_isSaid_16 rfl ⟨rfl, rfl⟩
    · rw [if_neg c8] at h
      refine zw_iconst (v := (1 : Int32)) hX dX14_isSaid_11 (by decide) ?_
      refine zw_goto (tgt := 16) hX dX14_isSaid_12 (by decide) ?_
      obtain rfl := Option.some.inj h
      exact zw_iret hX hr dX14_isSaid_16 rfl ⟨rfl, rfl⟩
def zf_X14_sentence_J184 (N : Nat) (a0 : Nat) (t0 : Nat) (t1 : Int32) (S : zm_S) : Option (Unit × zm_S) := (zi S t0 14).bind (fun _ => (zf_X14_number N t0 t1 S).bind (fun r12 => (zi r12.2 a0 14).bind (fun _ => (zf_X14_stop N a0 r12.2).bind (fun r15 => some ((), r15.2)))))
set_option maxHeartbeats 4000000 in
set_option maxRecDepth 100000 in
theorem zt_X14_sentence_J184 {p : Program} {l : Launch} {e : Env} {R : Room} {s : State} {m : MethodId} {args : Array Value} {below : List Frame} {meth : Method} {c : Code} {V : zm_V} {mc ms d rc rs : Nat} (hX : zm_X p R s m args meth c RX14 "sentence" cX14_sentence 7 zk_E V mc ms) (hr : meth.sig.returnType = none) (hR : R.frames = d ∧ R.locals = 64 * d) (hd : 3 ≤ d) {N : Nat} {a0 : Nat} {t0 : Nat} {t1 : Int32} {out : (Unit × zm_S)} {S : zm_S} (h : zf_X14_sentence_J184 N a0 t0 t1 S = some out) : zw p l e R s m args below meth c (vx_MQ below (zm_Qc zk_E V (zo_v out)) (zm_XC zk_E V zo_x) args s mc ms (fun q => V.2.2.2.1 ≤ q)) 7 zk_E V mc ms 184 [(0, .ref a0)] [.int t1, .ref t0] S rc rs := by
  unfold zf_X14_sentence_J184 at h
  obtain ⟨_, gi, h⟩ := zb_some h
  obtain ⟨r12, g, h⟩ := zb_some h
  refine zc_Vv (as := [.int t1]) hX gi (zt_X14_number (d := d - 1) (by omega) g) zl_X14_114 rfl dX14_sentence_184 ⟨rfl, rfl, Nat.le_of_ble_eq_true rfl⟩ ⟨by omega, by omega⟩ ?_
  refine zw_aload_n hX dX14_sentence_187 rfl ?_
  obtain ⟨_, gi, h⟩ := zb_some h
  obtain ⟨r15, g, h⟩ := zb_some h
  refine zc_Vv (as := []) hX gi (zt_X14_stop (d := d - 1) (by omega) g) zl_X14_122 rfl dX14_sentence_188 ⟨rfl, rfl, Nat.le_of_ble_eq_true rfl⟩ ⟨by omega, by omega⟩ ?_
  obtain rfl := Option.some.inj h
  exact zw_vret hX hr dX14_sentence_191 ⟨rfl, rfl⟩
def zf_X14_sentence_J166 (N : Nat) (a0 : Nat) (i1 : Int32) (i3 : Int32) (i4 : Int32) (S : zm_S) : Option (Unit × zm_S) := (zi S a0 14).bind (fun _ => (zf_X14_word N a0 (628196 : Int32) S).bind (fun r9 => if i1 = (2 : Int32) then zf_X14_sentence_J184 N a0 a0 i3 r9.2 else zf_X14_sentence_J184 N a0 a0 i4 r9.2))
set_option maxHeartbeats 4000000 in
set_option maxRecDepth 100000 in
theorem zt_X14_sentence_J166 {p : Program} {l : Launch} {e : Env} {R : Room} {s : State} {m : MethodId} {args : Array Value} {below : List Frame} {meth : Method} {c : Code} {V : zm_V} {mc ms d rc rs : Nat} (hX : zm_X p R s m args meth c RX14 "sentence" cX14_sentence 7 zk_E V mc ms) (hr : meth.sig.returnType = none) (hR : R.frames = d ∧ R.locals = 64 * d) (hd : 3 ≤ d) {N : Nat} {a0 : Nat} {i1 : Int32} {i3 : Int32} {i4 : Int32} {out : (Unit × zm_S)} {S : zm_S} (h : zf_X14_sentence_J166 N a0 i1 i3 i4 S = some out) : zw p l e R s m args below meth c (vx_MQ below (zm_Qc zk_E V (zo_v out)) (zm_XC zk_E V zo_x) args s mc ms (fun q => V.2.2.2.1 ≤ q)) 7 zk_E V mc ms 166 [(0, .ref a0), (1, .int i1), (3, .int i3), (4, .int i4)] [] S rc rs := by
  unfold zf_X14_sentence_J166 at h
  refine zw_aload_n hX dX14_sentence_166 rfl ?_
  refine zw_ldc (v := (628196 : Int32)) hX dX14_sentence_167 zl_X14_121 ?_
  obtain ⟨_, gi, h⟩ := zb_some h
  obtain ⟨r9, g, h⟩ := zb_some h
  refine zc_Vv (as := [.int (628196 : Int32)]) hX gi (zt_X14_word (d := d - 1) (by omega) g) zl_X14_111 rfl dX14_sentence_169 ⟨rfl, rfl, Nat.le_of_ble_eq_true rfl⟩ ⟨by omega, by omega⟩ ?_
  refine zw_aload_n hX dX14_sentence_172 rfl ?_
  refine zw_iload_n hX dX14_sentence_173 rfl ?_
  refine zw_iconst (v := (2 : Int32)) hX dX14_sentence_174 (by decide) ?_
  refine zw_icmp_ne (tgt := 182) hX dX14_sentence_175 (by decide) (fun c175 => ?_) (fun c175 => ?_)
  · rw [if_neg c175] at h
    refine zw_iload hX dX14_sentence_182 rfl ?_
    refine zw_sub (lv' := [(0, .ref a0)]) (List.forall_mem_cons.mpr ⟨rfl, zs_nil⟩) ?_
    exact zt_X14_sentence_J184 hX hr hR hd h
  · rw [if_pos c175] at h
    refine zw_iload_n hX dX14_sentence_178 rfl ?_
    refine zw_goto (tgt := 184) hX dX14_sentence_179 (by decide) ?_
    refine zw_sub (lv' := [(0, .ref a0)]) (List.forall_mem_cons.mpr ⟨rfl, zs_nil⟩) ?_
    exact zt_X14_sentence_J184 hX hr hR hd h
def zf_X14_sentence_J144 (N : Nat) (a0 : Nat) (i1 : Int32) (i3 : Int32) (i4 : Int32) (S : zm_S) : Option (Unit × zm_S) := if i1 = (3 : Int32) then (zi S a0 14).bind (fun _ => (zf_X14_letter N a0 (38 : Int32) S).bind (fun r18 => (zi r18.2 a0 14).bind (fun _ => (zf_X14_letter N a0 (32 : Int32) r18.2).bind (fun r21 => (zi r21.2 a0 14).bind (fun _ => (zf_X14_number N a0 i3 r21.2).bind (fun r24 => zf_X14_sentence_J166 N a0 i1 i3 i4 r24.2)))))) else zf_X14_sentence_J166 N a0 i1 i3 i4 S
set_option maxHeartbeats 4000000 in
set_option maxRecDepth 100000 in
theorem zt_X14_sentence_J144 {p : Program} {l : Launch} {e : Env} {R : Room} {s : State} {m : MethodId} {args : Array Value} {below : List Frame} {meth : Method} {c : Code} {V : zm_V} {mc ms d rc rs : Nat} (hX : zm_X p R s m args meth c RX14 "sentence" cX14_sentence 7 zk_E V mc ms) (hr : meth.sig.returnType = none) (hR : R.frames = d ∧ R.locals = 64 * d) (hd : 3 ≤ d) {N : Nat} {a0 : Nat} {i1 : Int32} {i3 : Int32} {i4 : Int32} {out : (Unit × zm_S)} {S : zm_S} (h : zf_X14_sentence_J144 N a0 i1 i3 i4 S = some out) : zw p l e R s m args below meth c (vx_MQ below (zm_Qc zk_E V (zo_v out)) (zm_XC zk_E V zo_x) args s mc ms (fun q => V.2.2.2.1 ≤ q)) 7 zk_E V mc ms 144 [(0, .ref a0), (1, .int i1), (3, .int i3), (4, .int i4)] [] S rc rs := by
  unfold zf_X14_sentence_J144 at h
  refine zw_iload_n hX dX14_sentence_144 rfl ?_
  refine zw_iconst (v := (3 : Int32)) hX dX14_sentence_145 (by decide) ?_
  refine zw_icmp_ne (tgt := 166) hX dX14_sentence_146 (by decide) (fun c146 => ?_) (fun c146 => ?_)
  · rw [if_neg c146] at h
    refine zw_sub (lv' := [(0, .ref a0), (1, .int i1), (3, .int i3), (4, .int i4)]) (List.forall_mem_cons.mpr ⟨rfl, (List.forall_mem_cons.mpr ⟨rfl, (List.forall_mem_cons.mpr ⟨rfl, (List.forall_mem_cons.mpr ⟨rfl, zs_nil⟩)⟩)⟩)⟩) ?_
    exact zt_X14_sentence_J166 hX hr hR hd h
  · rw [if_pos c146] at h
    refine zw_aload_n hX dX14_sentence_149 rfl ?_
    refine zw_bipush (v := (38 : Int32)) hX dX14_sentence_150 (by decide) ?_
    obtain ⟨_, gi, h⟩ := zb_some h
    obtain ⟨r18, g, h⟩ := zb_some h
    refine zc_Vv (as := [.int (38 : Int32)]) hX gi (zt_X14_letter (d := d - 1) (by omega) g) zl_X14_96 rfl dX14_sentence_152 ⟨rfl, rfl, Nat.le_of_ble_eq_true rfl⟩ ⟨by omega, by omega⟩ ?_
    refine zw_aload_n hX dX14_sentence_155 rfl ?_
    refine zw_bipush (v := (32 : Int32)) hX dX14_sentence_156 (by decide) ?_
    obtain ⟨_, gi, h⟩ := zb_some h
    obtain ⟨r21, g, h⟩ := zb_some h
    refine zc_Vv (as := [.int (32 : Int32)]) hX gi (zt_X14_letter (d := d - 1) (by omega) g) zl_X14_96 rfl dX14_sentence_158 ⟨rfl, rfl, Nat.le_of_ble_eq_true rfl⟩ ⟨by omega, by omega⟩ ?_
    refine zw_aload_n hX dX14_sentence_161 rfl ?_
    refine zw_iload_n hX dX14_sentence_162 rfl ?_
    obtain ⟨_, gi, h⟩ := zb_some h
    obtain ⟨r24, g, h⟩ := zb_some h
    refine zc_Vv (as := [.int i3]) hX gi (zt_X14_number (d := d - 1) (by omega) g) zl_X14_114 rfl dX14_sentence_163 ⟨rfl, rfl, Nat.le_of_ble_eq_true rfl⟩ ⟨by omega, by omega⟩ ?_
    refine zw_sub (lv' := [(0, .ref a0), (1, .int i1), (3, .int i3), (4, .int i4)]) (List.forall_mem_cons.mpr ⟨rfl, (List.forall_mem_cons.mpr ⟨rfl, (List.forall_mem_cons.mpr ⟨rfl, (List.forall_mem_cons.mpr ⟨rfl, zs_nil⟩)⟩)⟩)⟩) ?_
    exact zt_X14_sentence_J166 hX hr hR hd h
def zf_X14_sentence_L66 (N : Nat) : Nat → Nat → Int32 → Int32 → Int32 → zm_S → Option ((Unit × zm_S) ⊕ ((Unit) × zm_S))
  | 0, _, _, _, _, _ => none
  | n + 1, a0, i4, i5, i6, S => if i5 ≤ i6 then some (.inr ((), S)) else (zi S a0 14).bind (fun _ => (zf_X14_number N a0 (i4 + i6) S).bind (fun r60 => zf_X14_sentence_L66 N n a0 i4 i5 (i6 + (1 : Int32)) r60.2))
set_option maxHeartbeats 4000000 in
set_option maxRecDepth 100000 in
theorem zt_X14_sentence_L66 {p : Program} {l : Launch} {e : Env} {R : Room} {s : State} {m : MethodId} {args : Array Value} {below : List Frame} {meth : Method} {c : Code} {V : zm_V} {mc ms d rc rs : Nat} (hX : zm_X p R s m args meth c RX14 "sentence" cX14_sentence 7 zk_E V mc ms) (hr : meth.sig.returnType = none) (hR : R.frames = d ∧ R.locals = 64 * d) (hd : 3 ≤ d) {N : Nat} {res : (Unit × zm_S) ⊕ ((Unit) × zm_S)} {out : (Unit × zm_S)} (a0 : Nat) (i4 : Int32) (i5 : Int32) (hf : ∀ o, res = .inl o → o = out) (hk : ∀ (S' : zm_S), res = .inr ((), S') → zw p l e R s m args below meth c (vx_MQ below (zm_Qc zk_E V (zo_v out)) (zm_XC zk_E V zo_x) args s mc ms (fun q => V.2.2.2.1 ≤ q)) 7 zk_E V mc ms 88 [(0, .ref a0)] [] S' rc rs) : ∀ (n : Nat) (i6 : Int32) (S : zm_S), zf_X14_sentence_L66 N n a0 i4 i5 i6 S = some res → zw p l e R s m args below meth c (vx_MQ below (zm_Qc zk_E V (zo_v out)) (zm_XC zk_E V zo_x) args s mc ms (fun q => V.2.2.2.1 ≤ q)) 7 zk_E V mc ms 66 [(0, .ref a0), (4, .int i4), (5, .int i5), (6, .int i6)] [] S rc rs := by
  intro n
  induction n with
  | zero => intro i6 S h; cases h
  | succ n ih =>
    intro i6 S h
    rw [zf_X14_sentence_L66] at h
    refine zw_iload hX dX14_sentence_66 rfl ?_
    refine zw_iload hX dX14_sentence_68 rfl ?_
    refine zw_icmp_ge (tgt := 88) hX dX14_sentence_70 (by decide) (fun c70 => ?_) (fun c70 => ?_)
    · rw [if_pos c70] at h
      refine zw_sub (lv' := [(0, .ref a0)]) (List.forall_mem_cons.mpr ⟨rfl, zs_nil⟩) ?_
      exact hk  _ (Option.some.inj h).symm
    · rw [if_neg c70] at h
      refine zw_aload_n hX dX14_sentence_73 rfl ?_
      refine zw_iload hX dX14_sentence_74 rfl ?_
      refine zw_iload hX dX14_sentence_76 rfl ?_
      refine zw_iadd hX dX14_sentence_78 ?_
      obtain ⟨_, gi, h⟩ := zb_some h
      obtain ⟨r60, g, h⟩ := zb_some h
      refine zc_Vv (as := [.int (i4 + i6)]) hX gi (zt_X14_number (d := d - 1) (by omega) g) zl_X14_114 rfl dX14_sentence_79 ⟨rfl, rfl, Nat.le_of_ble_eq_true rfl⟩ ⟨by omega, by omega⟩ ?_
      refine zw_iinc (v := (i6 + (1 : Int32))) hX dX14_sentence_82 rfl rfl (by decide) ?_
      refine zw_goto (tgt := 66) hX dX14_sentence_85 (by decide) ?_
      refine zw_sub (lv' := [(0, .ref a0), (4, .int i4), (5, .int i5), (6, .int (i6 + (1 : Int32)))]) (List.forall_mem_cons.mpr ⟨rfl, (List.forall_mem_cons.mpr ⟨rfl, (List.forall_mem_cons.mpr ⟨rfl, (List.forall_mem_cons.mpr ⟨rfl, zs_nil⟩)⟩)⟩)⟩) ?_
      exact ih _ _ h
def zf_X14_sentence_J33 (N : Nat) (a0 : Nat) (i1 : Int32) (i2 : Int32) (i3 : Int32) (i4 : Int32) (i5 : Int32) (t0 : Nat) (t1 : Int32) (S : zm_S) : Option (Unit × zm_S) := (zi S t0 14).bind (fun _ => (zf_X14_word N t0 t1 S).bind (fun r3 => (zi r3.2 a0 14).bind (fun _ => (zf_X14_number N a0 i2 r3.2).bind (fun r6 => if i1 = 0 then (zi r6.2 a0 14).bind (fun _ => (zf_X14_word N a0 (20059310 : Int32) r6.2).bind (fun r51 => (zi r51.2 a0 14).bind (fun _ => (zf_X14_number N a0 i3 r51.2).bind (fun r54 => (zi r54.2 a0 14).bind (fun _ => (zf_X14_word N a0 (207 : Int32) r54.2).bind (fun r57 => (zf_X14_sentence_L66 N N a0 i4 i5 (0 : Int32) r57.2).bind (fun r => match r with | .inl o => some o | .inr (_, S61) => (zi S61 a0 14).bind (fun _ => (zf_X14_stop N a0 S61).bind (fun r64 => some ((), r64.2)))))))))) else if i1 = (1 : Int32) then (zi r6.2 a0 14).bind (fun _ => (zf_X14_word N a0 (145707 : Int32) r6.2).bind (fun r30 => (zi r30.2 a0 14).bind (fun _ => (zf_X14_number N a0 i3 r30.2).bind (fun r33 => (zi r33.2 a0 14).bind (fun _ => (zf_X14_word N a0 (374834 : Int32) r33.2).bind (fun r36 => (zi r36.2 a0 14).bind (fun _ => (zf_X14_number N a0 i4 r36.2).bind (fun r39 => (zi r39.2 a0 14).bind (fun _ => (zf_X14_word N a0 (26259620 : Int32) r39.2).bind (fun r42 => (zi r42.2 a0 14).bind (fun _ => (zf_X14_number N a0 i5 r42.2).bind (fun r45 => (zi r45.2 a0 14).bind (fun _ => (zf_X14_stop N a0 r45.2).bind (fun r48 => some ((), r48.2))))))))))))))) else if i1 = (2 : Int32) then zf_X14_sentence_J144 N a0 i1 i3 i4 r6.2 else if i1 = (3 : Int32) then zf_X14_sentence_J144 N a0 i1 i3 i4 r6.2 else (zi r6.2 a0 14).bind (fun _ => (zf_X14_stop N a0 r6.2).bind (fun r27 => some ((), r27.2)))))))
set_option maxHeartbeats 4000000 in
set_option maxRecDepth 100000 in
theorem zt_X14_sentence_J33 {p : Program} {l : Launch} {e : Env} {R : Room} {s : State} {m : MethodId} {args : Array Value} {below : List Frame} {meth : Method} {c : Code} {V : zm_V} {mc ms d rc rs : Nat} (hX : zm_X p R s m args meth c RX14 "sentence" cX14_sentence 7 zk_E V mc ms) (hr : meth.sig.returnType = none) (hR : R.frames = d ∧ R.locals = 64 * d) (hd : 3 ≤ d) {N : Nat} {a0 : Nat} {i1 : Int32} {i2 : Int32} {i3 : Int32} {i4 : Int32} {i5 : Int32} {t0 : Nat} {t1 : Int32} {out : (Unit × zm_S)} {S : zm_S} (h : zf_X14_sentence_J33 N a0 i1 i2 i3 i4 i5 t0 t1 S = some out) : zw p l e R s m args below meth c (vx_MQ below (zm_Qc zk_E V (zo_v out)) (zm_XC zk_E V zo_x) args s mc ms (fun q => V.2.2.2.1 ≤ q)) 7 zk_E V mc ms 33 [(0, .ref a0), (1, .int i1), (2, .int i2), (3, .int i3), (4, .int i4), (5, .int i5)] [.int t1, .ref t0] S rc rs := by
  unfold zf_X14_sentence_J33 at h
  obtain ⟨_, gi, h⟩ := zb_some h
  obtain ⟨r3, g, h⟩ := zb_some h
  refine zc_Vv (as := [.int t1]) hX gi (zt_X14_word (d := d - 1) (by omega) g) zl_X14_111 rfl dX14_sentence_33 ⟨rfl, rfl, Nat.le_of_ble_eq_true rfl⟩ ⟨by omega, by omega⟩ ?_
  refine zw_aload_n hX dX14_sentence_36 rfl ?_
  refine zw_iload_n hX dX14_sentence_37 rfl ?_
  obtain ⟨_, gi, h⟩ := zb_some h
  obtain ⟨r6, g, h⟩ := zb_some h
  refine zc_Vv (as := [.int i2]) hX gi (zt_X14_number (d := d - 1) (by omega) g) zl_X14_114 rfl dX14_sentence_38 ⟨rfl, rfl, Nat.le_of_ble_eq_true rfl⟩ ⟨by omega, by omega⟩ ?_
  refine zw_iload_n hX dX14_sentence_41 rfl ?_
  refine zw_if_ne (tgt := 91) hX dX14_sentence_42 (by decide) (fun c42 => ?_) (fun c42 => ?_)
  · rw [if_neg c42] at h
    refine zw_iload_n hX dX14_sentence_91 rfl ?_
    refine zw_iconst (v := (1 : Int32)) hX dX14_sentence_92 (by decide) ?_
    refine zw_icmp_ne (tgt := 134) hX dX14_sentence_93 (by decide) (fun c93 => ?_) (fun c93 => ?_)
    · rw [if_neg c93] at h
      refine zw_iload_n hX dX14_sentence_134 rfl ?_
      refine zw_iconst (v := (2 : Int32)) hX dX14_sentence_135 (by decide) ?_
      refine zw_icmp_eq (tgt := 144) hX dX14_sentence_136 (by decide) (fun c136 => ?_) (fun c136 => ?_)
      · rw [if_pos c136] at h
        refine zw_sub (lv' := [(0, .ref a0), (1, .int i1), (3, .int i3), (4, .int i4)]) (List.forall_mem_cons.mpr ⟨rfl, (List.forall_mem_cons.mpr ⟨rfl, (List.forall_mem_cons.mpr ⟨rfl, (List.forall_mem_cons.mpr ⟨rfl, zs_nil⟩)⟩)⟩)⟩) ?_
        exact zt_X14_sentence_J144 hX hr hR hd h
      · rw [if_neg c136] at h
        refine zw_iload_n hX dX14_sentence_139 rfl ?_
        refine zw_iconst (v := (3 : Int32)) hX dX14_sentence_140 (by decide) ?_
        refine zw_icmp_ne (tgt := 187) hX dX14_sentence_141 (by decide) (fun c141 => ?_) (fun c141 => ?_)
        · rw [if_neg c141] at h
          refine zw_aload_n hX dX14_sentence_187 rfl ?_
          obtain ⟨_, gi, h⟩ := zb_some h
          obtain ⟨r27, g, h⟩ := zb_some h
          refine zc_Vv (as := []) hX gi (zt_X14_stop (d := d - 1) (by omega) g) zl_X14_122 rfl dX14_sentence_188 ⟨rfl, rfl, Nat.le_of_ble_eq_true rfl⟩ ⟨by omega, by omega⟩ ?_
          obtain rfl := Option.some.inj h
          exact zw_vret hX hr dX14_sentence_191 ⟨rfl, rfl⟩
        · rw [if_pos c141] at h
          refine zw_sub (lv' := [(0, .ref a0), (1, .int i1), (3, .int i3), (4, .int i4)]) (List.forall_mem_cons.mpr ⟨rfl, (List.forall_mem_cons.mpr ⟨rfl, (List.forall_mem_cons.mpr ⟨rfl, (List.forall_mem_cons.mpr ⟨rfl, zs_nil⟩)⟩)⟩)⟩) ?_
          exact zt_X14_sentence_J144 hX hr hR hd h
    · rw [if_pos c93] at h
      refine zw_aload_n hX dX14_sentence_96 rfl ?_
      refine zw_ldc (v := (145707 : Int32)) hX dX14_sentence_97 zl_X14_118 ?_
      obtain ⟨_, gi, h⟩ := zb_some h
      obtain ⟨r30, g, h⟩ := zb_some h
      refine zc_Vv (as := [.int (145707 : Int32)]) hX gi (zt_X14_word (d := d - 1) (by omega) g) zl_X14_111 rfl dX14_sentence_99 ⟨rfl, rfl, Nat.le_of_ble_eq_true rfl⟩ ⟨by omega, by omega⟩ ?_
      refine zw_aload_n hX dX14_sentence_102 rfl ?_
      refine zw_iload_n hX dX14_sentence_103 rfl ?_
      obtain ⟨_, gi, h⟩ := zb_some h
      obtain ⟨r33, g, h⟩ := zb_some h
      refine zc_Vv (as := [.int i3]) hX gi (zt_X14_number (d := d - 1) (by omega) g) zl_X14_114 rfl dX14_sentence_104 ⟨rfl, rfl, Nat.le_of_ble_eq_true rfl⟩ ⟨by omega, by omega⟩ ?_
      refine zw_aload_n hX dX14_sentence_107 rfl ?_
      refine zw_ldc (v := (374834 : Int32)) hX dX14_sentence_108 zl_X14_119 ?_
      obtain ⟨_, gi, h⟩ := zb_some h
      obtain ⟨r36, g, h⟩ := zb_some h
      refine zc_Vv (as := [.int (374834 : Int32)]) hX gi (zt_X14_word (d := d - 1) (by omega) g) zl_X14_111 rfl dX14_sentence_110 ⟨rfl, rfl, Nat.le_of_ble_eq_true rfl⟩ ⟨by omega, by omega⟩ ?_
      refine zw_aload_n hX dX14_sentence_113 rfl ?_
      refine zw_iload hX dX14_sentence_114 rfl ?_
      obtain ⟨_, gi, h⟩ := zb_some h
      obtain ⟨r39, g, h⟩ := zb_some h
      refine zc_Vv (as := [.int i4]) hX gi (zt_X14_number (d := d - 1) (by omega) g) zl_X14_114 rfl dX14_sentence_116 ⟨rfl, rfl, Nat.le_of_ble_eq_true rfl⟩ ⟨by omega, by omega⟩ ?_
      refine zw_aload_n hX dX14_sentence_119 rfl ?_
      refine zw_ldc (v := (26259620 : Int32)) hX dX14_sentence_120 zl_X14_120 ?_
      obtain ⟨_, gi, h⟩ := zb_some h
      obtain ⟨r42, g, h⟩ := zb_some h
      refine zc_Vv (as := [.int (26259620 : Int32)]) hX gi (zt_X14_word (d := d - 1) (by omega) g) zl_X14_111 rfl dX14_sentence_122 ⟨rfl, rfl, Nat.le_of_ble_eq_true rfl⟩ ⟨by omega, by omega⟩ ?_
      refine zw_aload_n hX dX14_sentence_125 rfl ?_
      refine zw_iload hX dX14_sentence_126 rfl ?_
      obtain ⟨_, gi, h⟩ := zb_some h
      obtain ⟨r45, g, h⟩ := zb_some h
      refine zc_Vv (as := [.int i5]) hX gi (zt_X14_number (d := d - 1) (by omega) g) zl_X14_114 rfl dX14_sentence_128 ⟨rfl, rfl, Nat.le_of_ble_eq_true rfl⟩ ⟨by omega, by omega⟩ ?_
      refine zw_goto (tgt := 187) hX dX14_sentence_131 (by decide) ?_
      refine zw_aload_n hX dX14_sentence_187 rfl ?_
      obtain ⟨_, gi, h⟩ := zb_some h
      obtain ⟨r48, g, h⟩ := zb_some h
      refine zc_Vv (as := []) hX gi (zt_X14_stop (d := d - 1) (by omega) g) zl_X14_122 rfl dX14_sentence_188 ⟨rfl, rfl, Nat.le_of_ble_eq_true rfl⟩ ⟨by omega, by omega⟩ ?_
      obtain rfl := Option.some.inj h
      exact zw_vret hX hr dX14_sentence_191 ⟨rfl, rfl⟩
  · rw [if_pos c42] at h
    refine zw_aload_n hX dX14_sentence_45 rfl ?_
    refine zw_ldc (v := (20059310 : Int32)) hX dX14_sentence_46 zl_X14_117 ?_
    obtain ⟨_, gi, h⟩ := zb_some h
    obtain ⟨r51, g, h⟩ := zb_some h
    refine zc_Vv (as := [.int (20059310 : Int32)]) hX gi (zt_X14_word (d := d - 1) (by omega) g) zl_X14_111 rfl dX14_sentence_48 ⟨rfl, rfl, Nat.le_of_ble_eq_true rfl⟩ ⟨by omega, by omega⟩ ?_
    refine zw_aload_n hX dX14_sentence_51 rfl ?_
    refine zw_iload_n hX dX14_sentence_52 rfl ?_
    obtain ⟨_, gi, h⟩ := zb_some h
    obtain ⟨r54, g, h⟩ := zb_some h
    refine zc_Vv (as := [.int i3]) hX gi (zt_X14_number (d := d - 1) (by omega) g) zl_X14_114 rfl dX14_sentence_53 ⟨rfl, rfl, Nat.le_of_ble_eq_true rfl⟩ ⟨by omega, by omega⟩ ?_
    refine zw_aload_n hX dX14_sentence_56 rfl ?_
    refine zw_sipush (v := (207 : Int32)) hX dX14_sentence_57 (by decide) ?_
    obtain ⟨_, gi, h⟩ := zb_some h
    obtain ⟨r57, g, h⟩ := zb_some h
    refine zc_Vv (as := [.int (207 : Int32)]) hX gi (zt_X14_word (d := d - 1) (by omega) g) zl_X14_111 rfl dX14_sentence_60 ⟨rfl, rfl, Nat.le_of_ble_eq_true rfl⟩ ⟨by omega, by omega⟩ ?_
    refine zw_iconst (v := (0 : Int32)) hX dX14_sentence_63 (by decide) ?_
    refine zw_istore hX dX14_sentence_64 (by decide) ?_
    obtain ⟨r, g, h⟩ := zb_some h
    refine zw_sub (lv' := [(0, .ref a0), (4, .int i4), (5, .int i5), (6, .int (0 : Int32))]) (List.forall_mem_cons.mpr ⟨rfl, (List.forall_mem_cons.mpr ⟨rfl, (List.forall_mem_cons.mpr ⟨rfl, (List.forall_mem_cons.mpr ⟨rfl, zs_nil⟩)⟩)⟩)⟩) ?_
    refine zt_X14_sentence_L66 hX hr hR hd (res := r) (out := out) a0 i4 i5 ?_ ?_ N _ _ g
    · intro o ho
      subst ho
      exact Option.some.inj h
    · intro  S61 hx
      subst hx
      try dsimp only at h
      refine zw_goto (tgt := 187) hX dX14_sentence_88 (by decide) ?_
      refine zw_aload_n hX dX14_sentence_187 rfl ?_
      obtain ⟨_, gi, h⟩ := zb_some h
      obtain ⟨r64, g, h⟩ := zb_some h
      refine zc_Vv (as := []) hX gi (zt_X14_stop (d := d - 1) (by omega) g) zl_X14_122 rfl dX14_sentence_188 ⟨rfl, rfl, Nat.le_of_ble_eq_true rfl⟩ ⟨by omega, by omega⟩ ?_
      obtain rfl := Option.some.inj h
      exact zw_vret hX hr dX14_sentence_191 ⟨rfl, rfl⟩
def zf_X14_sentence (N : Nat) (a0 : Nat) (i1 : Int32) (i2 : Int32) (i3 : Int32) (i4 : Int32) (i5 : Int32) (S : zm_S) : Option (Unit × zm_S) := if i1 = 0 then zf_X14_sentence_J33 N a0 i1 i2 i3 i4 i5 a0 (178682 : Int32) S else if i1 = (1 : Int32) then zf_X14_sentence_J33 N a0 i1 i2 i3 i4 i5 a0 (20577 : Int32) S else if i1 = (4 : Int32) then zf_X14_sentence_J33 N a0 i1 i2 i3 i4 i5 a0 (143848 : Int32) S else zf_X14_sentence_J33 N a0 i1 i2 i3 i4 i5 a0 (464151 : Int32) S
set_option maxHeartbeats 4000000 in
set_option maxRecDepth 100000 in
theorem zt_X14_sentence {l : Launch} {V : zm_V} {N : Nat} {S : zm_S} {out : (Unit × zm_S)} {d : Nat} {a0 : Nat} {i1 : Int32} {i2 : Int32} {i3 : Int32} {i4 : Int32} {i5 : Int32} (hd : 3 ≤ d) (h : zf_X14_sentence N a0 i1 i2 i3 i4 i5 S = some out) : zm_Met l zk_E V yX14_sentence (.code yX14_sentence cX14_sentence 7 none) d [.ref a0, .int i1, .int i2, .int i3, .int i4, .int i5] S 0 0 (zo_v out) zo_x := by
  refine zm_of (by decide +kernel) (Nat.le_of_ble_eq_true rfl) ?_
  intro p e R s m args below meth c hRR hX hr hxt
  have hR : R.frames = d ∧ R.locals = 64 * d := by rw [hRR]; exact ⟨rfl, rfl⟩
  have hX : zm_X p R s m args meth c RX14 "sentence" cX14_sentence 7 zk_E V 0 0 := hX
  unfold zf_X14_sentence at h
  refine zw_sub (lv' := [(0, .ref a0), (1, .int i1), (2, .int i2), (3, .int i3), (4, .int i4), (5, .int i5)]) (List.forall_mem_cons.mpr ⟨rfl, (List.forall_mem_cons.mpr ⟨rfl, (List.forall_mem_cons.mpr ⟨rfl, (List.forall_mem_cons.mpr ⟨rfl, (List.forall_mem_cons.mpr ⟨rfl, (List.forall_mem_cons.mpr ⟨rfl, zs_nil⟩)⟩)⟩)⟩)⟩)⟩) ?_
  refine zw_aload_n hX dX14_sentence_0 rfl ?_
  refine zw_iload_n hX dX14_sentence_1 rfl ?_
  refine zw_if_ne (tgt := 10) hX dX14_sentence_2 (by decide) (fun c2 => ?_) (fun c2 => ?_)
  · rw [if_neg c2] at h
    refine zw_iload_n hX dX14_sentence_10 rfl ?_
    refine zw_iconst (v := (1 : Int32)) hX dX14_sentence_11 (by decide) ?_
    refine zw_icmp_ne (tgt := 21) hX dX14_sentence_12 (by decide) (fun c12 => ?_) (fun c12 => ?_)
    · rw [if_neg c12] at h
      refine zw_iload_n hX dX14_sentence_21 rfl ?_
      refine zw_iconst (v := (4 : Int32)) hX dX14_sentence_22 (by decide) ?_
      refine zw_icmp_ne (tgt := 31) hX dX14_sentence_23 (by decide) (fun c23 => ?_) (fun c23 => ?_)
      · rw [if_neg c23] at h
        refine zw_ldc (v := (464151 : Int32)) hX dX14_sentence_31 zl_X14_110 ?_
        refine zw_sub (lv' := [(0, .ref a0), (1, .int i1), (2, .int i2), (3, .int i3), (4, .int i4), (5, .int i5)]) (List.forall_mem_cons.mpr ⟨rfl, (List.forall_mem_cons.mpr ⟨rfl, (List.forall_mem_cons.mpr ⟨rfl, (List.forall_mem_cons.mpr ⟨rfl, (List.forall_mem_cons.mpr ⟨rfl, (List.forall_mem_cons.mpr ⟨rfl, zs_nil⟩)⟩)⟩)⟩)⟩)⟩) ?_
        exact zt_X14_sentence_J33 hX hr hR hd h
      · rw [if_pos c23] at h
        refine zw_ldc (v := (143848 : Int32)) hX dX14_sentence_26 zl_X14_109 ?_
        refine zw_goto (tgt := 33) hX dX14_sentence_28 (by decide) ?_
        refine zw_sub (lv' := [(0, .ref a0), (1, .int i1), (2, .int i2), (3, .int i3), (4, .int i4), (5, .int i5)]) (List.forall_mem_cons.mpr ⟨rfl, (List.forall_mem_cons.mpr ⟨rfl, (List.forall_mem_cons.mpr ⟨rfl, (List.forall_mem_cons.mpr ⟨rfl, (List.forall_mem_cons.mpr ⟨rfl, (List.forall_mem_cons.mpr ⟨rfl, zs_nil⟩)⟩)⟩)⟩)⟩)⟩) ?_
        exact zt_X14_sentence_J33 hX hr hR hd h
    · rw [if_pos c12] at h
      refine zw_sipush (v := (20577 : Int32)) hX dX14_sentence_15 (by decide) ?_
      refine zw_goto (tgt := 33) hX dX14_sentence_18 (by decide) ?_
      refine zw_sub (lv' := [(0, .ref a0), (1, .int i1), (2, .int i2), (3, .int i3), (4, .int i4), (5, .int i5)]) (List.forall_mem_cons.mpr ⟨rfl, (List.forall_mem_cons.mpr ⟨rfl, (List.forall_mem_cons.mpr ⟨rfl, (List.forall_mem_cons.mpr ⟨rfl, (List.forall_mem_cons.mpr ⟨rfl, (List.forall_mem_cons.mpr ⟨rfl, zs_nil⟩)⟩)⟩)⟩)⟩)⟩) ?_
      exact zt_X14_sentence_J33 hX hr hR hd h
  · rw [if_pos c2] at h
    refine zw_ldc (v := (178682 : Int32)) hX dX14_sentence_5 zl_X14_108 ?_
    refine zw_goto (tgt := 33) hX dX14_sentence_7 (by decide) ?_
    refine zw_sub (lv' := [(0, .ref a0), (1, .int i1), (2, .int i2), (3, .int i3), (4, .int i4), (5, .int i5)]) (List.forall_mem_cons.mpr ⟨rfl, (List.forall_mem_cons.mpr ⟨rfl, (List.forall_mem_cons.mpr ⟨rfl, (List.forall_mem_cons.mpr ⟨rfl, (List.forall_mem_cons.mpr ⟨rfl, (List.forall_mem_cons.mpr ⟨rfl, zs_nil⟩)⟩)⟩)⟩)⟩)⟩) ?_
    exact zt_X14_sentence_J33 hX hr hR hd h
def zf_X14_make (N : Nat) (a0 : Nat) (i1 : Int32) (i2 : Int32) (i3 : Int32) (i4 : Int32) (i5 : Int32) (S : zm_S) : Option (Unit × zm_S) := (zp S a0 14 35 (.int (0 : Int32))).bind (fun S1 => (zi S1 a0 14).bind (fun _ => (zf_X14_sentence N a0 i1 i2 i3 i4 i5 S1).bind (fun r4 => some ((), r4.2))))
set_option maxHeartbeats 4000000 in
set_option maxRecDepth 100000 in
theorem zt_X14_make {l : Launch} {V : zm_V} {N : Nat} {S : zm_S} {out : (Unit × zm_S)} {d : Nat} {a0 : Nat} {i1 : Int32} {i2 : Int32} {i3 : Int32} {i4 : Int32} {i5 : Int32} (hd : 4 ≤ d) (h : zf_X14_make N a0 i1 i2 i3 i4 i5 S = some out) : zm_Met l zk_E V yX14_make (.code yX14_make cX14_make 6 none) d [.ref a0, .int i1, .int i2, .int i3, .int i4, .int i5] S 0 0 (zo_v out) zo_x := by
  refine zm_of (by decide +kernel) (Nat.le_of_ble_eq_true rfl) ?_
  intro p e R s m args below meth c hRR hX hr hxt
  have hR : R.frames = d ∧ R.locals = 64 * d := by rw [hRR]; exact ⟨rfl, rfl⟩
  have hX : zm_X p R s m args meth c RX14 "make" cX14_make 6 zk_E V 0 0 := hX
  unfold zf_X14_make at h
  refine zw_sub (lv' := [(0, .ref a0), (1, .int i1), (2, .int i2), (3, .int i3), (4, .int i4), (5, .int i5)]) (List.forall_mem_cons.mpr ⟨rfl, (List.forall_mem_cons.mpr ⟨rfl, (List.forall_mem_cons.mpr ⟨rfl, (List.forall_mem_cons.mpr ⟨rfl, (List.forall_mem_cons.mpr ⟨rfl, (List.forall_mem_cons.mpr ⟨rfl, zs_nil⟩)⟩)⟩)⟩)⟩)⟩) ?_
  refine zw_aload_n hX dX14_make_0 rfl ?_
  refine zw_iconst (v := (0 : Int32)) hX dX14_make_1 (by decide) ?_
  obtain ⟨S1, g, h⟩ := zb_some h
  refine zw_putv hX zl_X14_93 zt_14_35 dX14_make_2 rfl rfl g ?_
  refine zw_aload_n hX dX14_make_5 rfl ?_
  refine zw_iload_n hX dX14_make_6 rfl ?_
  refine zw_iload_n hX dX14_make_7 rfl ?_
  refine zw_iload_n hX dX14_make_8 rfl ?_
  refine zw_iload hX dX14_make_9 rfl ?_
  refine zw_iload hX dX14_make_11 rfl ?_
  obtain ⟨_, gi, h⟩ := zb_some h
  obtain ⟨r4, g, h⟩ := zb_some h
  refine zc_Vv (as := [.int i1, .int i2, .int i3, .int i4, .int i5]) hX gi (zt_X14_sentence (d := d - 1) (by omega) g) zl_X14_100 rfl dX14_make_13 ⟨rfl, rfl, Nat.le_of_ble_eq_true rfl⟩ ⟨by omega, by omega⟩ ?_
  obtain rfl := Option.some.inj h
  exact zw_vret hX hr dX14_make_16 ⟨rfl, rfl⟩
def zf_X14_say_L2 (N : Nat) : Nat → Nat → Int32 → zm_S → Option ((Int32 × zm_S) ⊕ ((Unit) × zm_S))
  | 0, _, _, _ => none
  | n + 1, a0, i1, S => (zg_i S a0 14 35).bind (fun v1 => if v1 ≤ i1 then some (.inr ((), S)) else (zg_r S a0 14 34).bind (fun b2 => (za_x S 0 b2 i1).bind (fun v3 => (zi S a0 14).bind (fun _ => (zf_X14_unit N a0 v3 S).bind (fun r6 => zf_X14_say_L2 N n a0 (i1 + (1 : Int32)) r6.2)))))
set_option maxHeartbeats 4000000 in
set_option maxRecDepth 100000 in
theorem zt_X14_say_L2 {p : Program} {l : Launch} {e : Env} {R : Room} {s : State} {m : MethodId} {args : Array Value} {below : List Frame} {meth : Method} {c : Code} {V : zm_V} {mc ms d rc rs : Nat} (hX : zm_X p R s m args meth c RX14 "say" cX14_say 3 zk_E V mc ms) (hr : meth.sig.returnType = (some .int)) (hR : R.frames = d ∧ R.locals = 64 * d) (hd : 2 ≤ d) {N : Nat} {res : (Int32 × zm_S) ⊕ ((Unit) × zm_S)} {out : (Int32 × zm_S)} (a0 : Nat) (hf : ∀ o, res = .inl o → o = out) (hk : ∀ (S' : zm_S), res = .inr ((), S') → zw p l e R s m args below meth c (vx_MQ below (zm_Qc zk_E V (zo_i out)) (zm_XC zk_E V zo_x) args s mc ms (fun q => V.2.2.2.1 ≤ q)) 3 zk_E V mc ms 27 [(0, .ref a0)] [] S' rc rs) : ∀ (n : Nat) (i1 : Int32) (S : zm_S), zf_X14_say_L2 N n a0 i1 S = some res → zw p l e R s m args below meth c (vx_MQ below (zm_Qc zk_E V (zo_i out)) (zm_XC zk_E V zo_x) args s mc ms (fun q => V.2.2.2.1 ≤ q)) 3 zk_E V mc ms 2 [(0, .ref a0), (1, .int i1)] [] S rc rs := by
  intro n
  induction n with
  | zero => intro i1 S h; cases h
  | succ n ih =>
    intro i1 S h
    rw [zf_X14_say_L2] at h
    refine zw_iload_n hX dX14_say_2 rfl ?_
    refine zw_aload_n hX dX14_say_3 rfl ?_
    obtain ⟨v1, g, h⟩ := zb_some h
    refine zw_geti hX zl_X14_93 dX14_say_4 g ?_
    refine zw_icmp_ge (tgt := 27) hX dX14_say_7 (by decide) (fun c7 => ?_) (fun c7 => ?_)
    · rw [if_pos c7] at h
      refine zw_sub (lv' := [(0, .ref a0)]) (List.forall_mem_cons.mpr ⟨rfl, zs_nil⟩) ?_
      exact hk  _ (Option.some.inj h).symm
    · rw [if_neg c7] at h
      refine zw_aload_n hX dX14_say_10 rfl ?_
      refine zw_aload_n hX dX14_say_11 rfl ?_
      obtain ⟨b2, g, h⟩ := zb_some h
      refine zw_getr hX zl_X14_86 dX14_say_12 g ?_
      refine zw_iload_n hX dX14_say_15 rfl ?_
      obtain ⟨v3, g, h⟩ := zb_some h
      refine zw_xi hX dX14_say_16 g ?_
      obtain ⟨_, gi, h⟩ := zb_some h
      obtain ⟨r6, g, h⟩ := zb_some h
      refine zc_Vi (as := [.int v3]) hX gi (zt_X14_unit (d := d - 1) (by omega) g) zl_X14_104 rfl dX14_say_17 ⟨rfl, rfl, Nat.le_of_ble_eq_true rfl⟩ ⟨by omega, by omega⟩ ?_
      refine zw_istore_n hX dX14_say_20 (by decide) ?_
      refine zw_iinc (v := (i1 + (1 : Int32))) hX dX14_say_21 rfl rfl (by decide) ?_
      refine zw_goto (tgt := 2) hX dX14_say_24 (by decide) ?_
      refine zw_sub (lv' := [(0, .ref a0), (1, .int (i1 + (1 : Int32)))]) (List.forall_mem_cons.mpr ⟨rfl, (List.forall_mem_cons.mpr ⟨rfl, zs_nil⟩)⟩) ?_
      exact ih _ _ h
def zf_X14_say (N : Nat) (a0 : Nat) (S : zm_S) : Option (Int32 × zm_S) := (zf_X14_say_L2 N N a0 (0 : Int32) S).bind (fun r => match r with | .inl o => some o | .inr (_, S7) => (zg_i S7 a0 14 6).bind (fun v8 => some (v8, S7)))
set_option maxHeartbeats 4000000 in
set_option maxRecDepth 100000 in
theorem zt_X14_say {l : Launch} {V : zm_V} {N : Nat} {S : zm_S} {out : (Int32 × zm_S)} {d : Nat} {a0 : Nat} (hd : 2 ≤ d) (h : zf_X14_say N a0 S = some out) : zm_Met l zk_E V yX14_say (.code yX14_say cX14_say 3 (some .int)) d [.ref a0] S 0 0 (zo_i out) zo_x := by
  refine zm_of (by decide +kernel) (Nat.le_of_ble_eq_true rfl) ?_
  intro p e R s m args below meth c hRR hX hr hxt
  have hR : R.frames = d ∧ R.locals = 64 * d := by rw [hRR]; exact ⟨rfl, rfl⟩
  have hX : zm_X p R s m args meth c RX14 "say" cX14_say 3 zk_E V 0 0 := hX
  unfold zf_X14_say at h
  refine zw_sub (lv' := [(0, .ref a0)]) (List.forall_mem_cons.mpr ⟨rfl, zs_nil⟩) ?_
  refine zw_iconst (v := (0 : Int32)) hX dX14_say_0 (by decide) ?_
  refine zw_istore_n hX dX14_say_1 (by decide) ?_
  obtain ⟨r, g, h⟩ := zb_some h
  refine zw_sub (lv' := [(0, .ref a0), (1, .int (0 : Int32))]) (List.forall_mem_cons.mpr ⟨rfl, (List.forall_mem_cons.mpr ⟨rfl, zs_nil⟩)⟩) ?_
  refine zt_X14_say_L2 hX hr hR hd (res := r) (out := out) a0 ?_ ?_ N _ _ g
  · intro o ho
    subst ho
    exact Option.some.inj h
  · intro  S7 hx
    subst hx
    try dsimp only at h
    refine zw_aload_n hX dX14_say_27 rfl ?_
    obtain ⟨v8, g, h⟩ := zb_some h
    refine zw_geti hX zl_X14_89 dX14_say_28 g ?_
    obtain rfl := Option.some.inj h
    exact zw_iret hX hr dX14_say_31 rfl ⟨rfl, rfl⟩
def zf_X14_sort_J32 (N : Nat) (i0 : Int32) (S : zm_S) : Option (Int32 × zm_S) := if i0 ≤ (47 : Int32) then some ((3 : Int32), S) else if (58 : Int32) ≤ i0 then some ((3 : Int32), S) else some ((2 : Int32), S)
set_option maxHeartbeats 4000000 in
set_option maxRecDepth 100000 in
theorem zt_X14_sort_J32 {p : Program} {l : Launch} {e : Env} {R : Room} {s : State} {m : MethodId} {args : Array Value} {below : List Frame} {meth : Method} {c : Code} {V : zm_V} {mc ms d rc rs : Nat} (hX : zm_X p R s m args meth c RX14 "sort" cX14_sort 1 zk_E V mc ms) (hr : meth.sig.returnType = (some .int)) (hR : R.frames = d ∧ R.locals = 64 * d) (hd : 1 ≤ d) {N : Nat} {i0 : Int32} {out : (Int32 × zm_S)} {S : zm_S} (h : zf_X14_sort_J32 N i0 S = some out) : zw p l e R s m args below meth c (vx_MQ below (zm_Qc zk_E V (zo_i out)) (zm_XC zk_E V zo_x) args s mc ms (fun q => V.2.2.2.1 ≤ q)) 1 zk_E V mc ms 32 [(0, .int i0)] [] S rc rs := by
  unfold zf_X14_sort_J32 at h
  refine zw_iload_n hX dX14_sort_32 rfl ?_
  refine zw_bipush (v := (47 : Int32)) hX dX14_sort_33 (by decide) ?_
  refine zw_icmp_le (tgt := 48) hX dX14_sort_35 (by decide) (fun c35 => ?_) (fun c35 => ?_)
  · rw [if_pos c35] at h
    refine zw_iconst (v := (3 : Int32)) hX dX14_sort_48 (by decide) ?_
    obtain rfl := Option.some.inj h
    exact zw_iret hX hr dX14_sort_49 rfl ⟨rfl, rfl⟩
  · rw [if_neg c35] at h
    refine zw_iload_n hX dX14_sort_38 rfl ?_
    refine zw_bipush (v := (58 : Int32)) hX dX14_sort_39 (by decide) ?_
    refine zw_icmp_ge (tgt := 48) hX dX14_sort_41 (by decide) (fun c41 => ?_) (fun c41 => ?_)
    · rw [if_pos c41] at h
      refine zw_iconst (v := (3 : Int32)) hX dX14_sort_48 (by decide) ?_
      obtain rfl := Option.some.inj h
      exact zw_iret hX hr dX14_sort_49 rfl ⟨rfl, rfl⟩
    · rw [if_neg c41] at h
      refine zw_iconst (v := (2 : Int32)) hX dX14_sort_44 (by decide) ?_
      refine zw_goto (tgt := 49) hX dX14_sort_45 (by decide) ?_
      obtain rfl := Option.some.inj h
      exact zw_iret hX hr dX14_sort_49 rfl ⟨rfl, rfl⟩
def zf_X14_sort (N : Nat) (i0 : Int32) (S : zm_S) : Option (Int32 × zm_S) := if i0 = (32 : Int32) then some ((0 : Int32), S) else if i0 = (10 : Int32) then some ((0 : Int32), S) else if i0 ≤ (96 : Int32) then zf_X14_sort_J32 N i0 S else if (123 : Int32) ≤ i0 then zf_X14_sort_J32 N i0 S else some ((1 : Int32), S)
set_option maxHeartbeats 4000000 in
set_option maxRecDepth 100000 in
theorem zt_X14_sort {l : Launch} {V : zm_V} {N : Nat} {S : zm_S} {out : (Int32 × zm_S)} {d : Nat} {i0 : Int32} (hd : 1 ≤ d) (h : zf_X14_sort N i0 S = some out) : zm_Met l zk_E V yX14_sort (.code yX14_sort cX14_sort 1 (some .int)) d [.int i0] S 0 0 (zo_i out) zo_x := by
  refine zm_of (by decide +kernel) (Nat.le_of_ble_eq_true rfl) ?_
  intro p e R s m args below meth c hRR hX hr hxt
  have hR : R.frames = d ∧ R.locals = 64 * d := by rw [hRR]; exact ⟨rfl, rfl⟩
  have hX : zm_X p R s m args meth c RX14 "sort" cX14_sort 1 zk_E V 0 0 := hX
  unfold zf_X14_sort at h
  refine zw_sub (lv' := [(0, .int i0)]) (List.forall_mem_cons.mpr ⟨rfl, zs_nil⟩) ?_
  refine zw_iload_n hX dX14_sort_0 rfl ?_
  refine zw_bipush (v := (32 : Int32)) hX dX14_sort_1 (by decide) ?_
  refine zw_icmp_eq (tgt := 12) hX dX14_sort_3 (by decide) (fun c3 => ?_) (fun c3 => ?_)
  · rw [if_pos c3] at h
    refine zw_iconst (v := (0 : Int32)) hX dX14_sort_12 (by decide) ?_
    refine zw_goto (tgt := 49) hX dX14_sort_13 (by decide) ?_
    obtain rfl := Option.some.inj h
    exact zw_iret hX hr dX14_sort_49 rfl ⟨rfl, rfl⟩
  · rw [if_neg c3] at h
    refine zw_iload_n hX dX14_sort_6 rfl ?_
    refine zw_bipush (v := (10 : Int32)) hX dX14_sort_7 (by decide) ?_
    refine zw_icmp_ne (tgt := 16) hX dX14_sort_9 (by decide) (fun c9 => ?_) (fun c9 => ?_)
    · rw [if_neg c9] at h
      refine zw_iload_n hX dX14_sort_16 rfl ?_
      refine zw_bipush (v := (96 : Int32)) hX dX14_sort_17 (by decide) ?_
      refine zw_icmp_le (tgt := 32) hX dX14_sort_19 (by decide) (fun c19 => ?_) (fun c19 => ?_)
      · rw [if_pos c19] at h
        refine zw_sub (lv' := [(0, .int i0)]) (List.forall_mem_cons.mpr ⟨rfl, zs_nil⟩) ?_
        exact zt_X14_sort_J32 hX hr hR hd h
      · rw [if_neg c19] at h
        refine zw_iload_n hX dX14_sort_22 rfl ?_
        refine zw_bipush (v := (123 : Int32)) hX dX14_sort_23 (by decide) ?_
        refine zw_icmp_ge (tgt := 32) hX dX14_sort_25 (by decide) (fun c25 => ?_) (fun c25 => ?_)
        · rw [if_pos c25] at h
          refine zw_sub (lv' := [(0, .int i0)]) (List.forall_mem_cons.mpr ⟨rfl, zs_nil⟩) ?_
          exact zt_X14_sort_J32 hX hr hR hd h
        · rw [if_neg c25] at h
          refine zw_iconst (v := (1 : Int32)) hX dX14_sort_28 (by decide) ?_
          refine zw_goto (tgt := 49) hX dX14_sort_29 (by decide) ?_
          obtain rfl := Option.some.inj h
          exact zw_iret hX hr dX14_sort_49 rfl ⟨rfl, rfl⟩
    · rw [if_pos c9] at h
      refine zw_iconst (v := (0 : Int32)) hX dX14_sort_12 (by decide) ?_
      refine zw_goto (tgt := 49) hX dX14_sort_13 (by decide) ?_
      obtain rfl := Option.some.inj h
      exact zw_iret hX hr dX14_sort_49 rfl ⟨rfl, rfl⟩
def zf_X14_list_J79 (N : Nat) (k : Nat → Int32 → Int32 → zm_S → Option ((Unit × zm_S) ⊕ ((Unit) × zm_S))) (a0 : Nat) (i2 : Int32) (i3 : Int32) (S : zm_S) : Option ((Unit × zm_S) ⊕ ((Unit) × zm_S)) := k a0 i3 (i2 + (1 : Int32)) S
set_option maxHeartbeats 4000000 in
set_option maxRecDepth 100000 in
theorem zt_X14_list_J79 {p : Program} {l : Launch} {e : Env} {R : Room} {s : State} {m : MethodId} {args : Array Value} {below : List Frame} {meth : Method} {c : Code} {V : zm_V} {mc ms d rc rs : Nat} (hX : zm_X p R s m args meth c RX14 "list" cX14_list 4 zk_E V mc ms) (hr : meth.sig.returnType = none) (hR : R.frames = d ∧ R.locals = 64 * d) (hd : 2 ≤ d) {N : Nat} {k : Nat → Int32 → Int32 → zm_S → Option ((Unit × zm_S) ⊕ ((Unit) × zm_S))} {a0 : Nat} {i2 : Int32} {i3 : Int32} {res : (Unit × zm_S) ⊕ ((Unit) × zm_S)} {out : (Unit × zm_S)}   (hf : ∀ o, res = .inl o → o = out) (hk : ∀ (S' : zm_S), res = .inr ((), S') → zw p l e R s m args below meth c (vx_MQ below (zm_Qc zk_E V (zo_v out)) (zm_XC zk_E V zo_x) args s mc ms (fun q => V.2.2.2.1 ≤ q)) 4 zk_E V mc ms 87 [] [] S' rc rs) (hrec : ∀ (i1' : Int32) (i2' : Int32) (S : zm_S), k a0 i1' i2' S = some res → zw p l e R s m args below meth c (vx_MQ below (zm_Qc zk_E V (zo_v out)) (zm_XC zk_E V zo_x) args s mc ms (fun q => V.2.2.2.1 ≤ q)) 4 zk_E V mc ms 9 [(0, .ref a0), (1, .int i1'), (2, .int i2')] [] S rc rs) {S : zm_S} (h : zf_X14_list_J79 N k a0 i2 i3 S = some res) : zw p l e R s m args below meth c (vx_MQ below (zm_Qc zk_E V (zo_v out)) (zm_XC zk_E V zo_x) args s mc ms (fun q => V.2.2.2.1 ≤ q)) 4 zk_E V mc ms 79 [(0, .ref a0), (2, .int i2), (3, .int i3)] [] S rc rs := by
  unfold zf_X14_list_J79 at h
  refine zw_iload_n hX dX14_list_79 rfl ?_
  refine zw_istore_n hX dX14_list_80 (by decide) ?_
  refine zw_iinc (v := (i2 + (1 : Int32))) hX dX14_list_81 rfl rfl (by decide) ?_
  refine zw_goto (tgt := 9) hX dX14_list_84 (by decide) ?_
  refine zw_sub (lv' := [(0, .ref a0), (1, .int i3), (2, .int (i2 + (1 : Int32)))]) (List.forall_mem_cons.mpr ⟨rfl, (List.forall_mem_cons.mpr ⟨rfl, (List.forall_mem_cons.mpr ⟨rfl, zs_nil⟩)⟩)⟩) ?_
  exact hrec _ _ _ h
def zf_X14_list_J61 (N : Nat) (k : Nat → Int32 → Int32 → zm_S → Option ((Unit × zm_S) ⊕ ((Unit) × zm_S))) (a0 : Nat) (i2 : Int32) (i3 : Int32) (S : zm_S) : Option ((Unit × zm_S) ⊕ ((Unit) × zm_S)) := if i3 ≤ 0 then zf_X14_list_J79 N (k) a0 i2 i3 S else (zg_r S a0 14 9).bind (fun b8 => (zg_i S a0 14 7).bind (fun v9 => (zs_i S b8 (v9 - (1 : Int32)) (i2 + (1 : Int32))).bind (fun S10 => zf_X14_list_J79 N (k) a0 i2 i3 S10)))
set_option maxHeartbeats 4000000 in
set_option maxRecDepth 100000 in
theorem zt_X14_list_J61 {p : Program} {l : Launch} {e : Env} {R : Room} {s : State} {m : MethodId} {args : Array Value} {below : List Frame} {meth : Method} {c : Code} {V : zm_V} {mc ms d rc rs : Nat} (hX : zm_X p R s m args meth c RX14 "list" cX14_list 4 zk_E V mc ms) (hr : meth.sig.returnType = none) (hR : R.frames = d ∧ R.locals = 64 * d) (hd : 2 ≤ d) {N : Nat} {k : Nat → Int32 → Int32 → zm_S → Option ((Unit × zm_S) ⊕ ((Unit) × zm_S))} {a0 : Nat} {i2 : Int32} {i3 : Int32} {res : (Unit × zm_S) ⊕ ((Unit) × zm_S)} {out : (Unit × zm_S)}   (hf : ∀ o, res = .inl o → o = out) (hk : ∀ (S' : zm_S), res = .inr ((), S') → zw p l e R s m args below meth c (vx_MQ below (zm_Qc zk_E V (zo_v out)) (zm_XC zk_E V zo_x) args s mc ms (fun q => V.2.2.2.1 ≤ q)) 4 zk_E V mc ms 87 [] [] S' rc rs) (hrec : ∀ (i1' : Int32) (i2' : Int32) (S : zm_S), k a0 i1' i2' S = some res → zw p l e R s m args below meth c (vx_MQ below (zm_Qc zk_E V (zo_v out)) (zm_XC zk_E V zo_x) args s mc ms (fun q => V.2.2.2.1 ≤ q)) 4 zk_E V mc ms 9 [(0, .ref a0), (1, .int i1'), (2, .int i2')] [] S rc rs) {S : zm_S} (h : zf_X14_list_J61 N k a0 i2 i3 S = some res) : zw p l e R s m args below meth c (vx_MQ below (zm_Qc zk_E V (zo_v out)) (zm_XC zk_E V zo_x) args s mc ms (fun q => V.2.2.2.1 ≤ q)) 4 zk_E V mc ms 61 [(0, .ref a0), (2, .int i2), (3, .int i3)] [] S rc rs := by
  unfold zf_X14_list_J61 at h
  refine zw_iload_n hX dX14_list_61 rfl ?_
  refine zw_if_le (tgt := 79) hX dX14_list_62 (by decide) (fun c62 => ?_) (fun c62 => ?_)
  · rw [if_pos c62] at h
    refine zw_sub (lv' := [(0, .ref a0), (2, .int i2), (3, .int i3)]) (List.forall_mem_cons.mpr ⟨rfl, (List.forall_mem_cons.mpr ⟨rfl, (List.forall_mem_cons.mpr ⟨rfl, zs_nil⟩)⟩)⟩) ?_
    exact zt_X14_list_J79 hX hr hR hd hf hk hrec h
  · rw [if_neg c62] at h
    refine zw_aload_n hX dX14_list_65 rfl ?_
    obtain ⟨b8, g, h⟩ := zb_some h
    refine zw_getr hX zl_X14_26 dX14_list_66 g ?_
    refine zw_aload_n hX dX14_list_69 rfl ?_
    obtain ⟨v9, g, h⟩ := zb_some h
    refine zw_geti hX zl_X14_125 dX14_list_70 g ?_
    refine zw_iconst (v := (1 : Int32)) hX dX14_list_73 (by decide) ?_
    refine zw_isub hX dX14_list_74 ?_
    refine zw_iload_n hX dX14_list_75 rfl ?_
    refine zw_iconst (v := (1 : Int32)) hX dX14_list_76 (by decide) ?_
    refine zw_iadd hX dX14_list_77 ?_
    obtain ⟨S10, g, h⟩ := zb_some h
    refine zw_si hX dX14_list_78 g ?_
    refine zw_sub (lv' := [(0, .ref a0), (2, .int i2), (3, .int i3)]) (List.forall_mem_cons.mpr ⟨rfl, (List.forall_mem_cons.mpr ⟨rfl, (List.forall_mem_cons.mpr ⟨rfl, zs_nil⟩)⟩)⟩) ?_
    exact zt_X14_list_J79 hX hr hR hd hf hk hrec h
def zf_X14_list_J41 (N : Nat) (k : Nat → Int32 → Int32 → zm_S → Option ((Unit × zm_S) ⊕ ((Unit) × zm_S))) (a0 : Nat) (i2 : Int32) (i3 : Int32) (S : zm_S) : Option ((Unit × zm_S) ⊕ ((Unit) × zm_S)) := (zg_r S a0 14 8).bind (fun b11 => (zg_i S a0 14 7).bind (fun v12 => (zs_i S b11 v12 i2).bind (fun S13 => (zg_i S13 a0 14 7).bind (fun v14 => (zp S13 a0 14 7 (.int (v14 + (1 : Int32)))).bind (fun S15 => zf_X14_list_J61 N (k) a0 i2 i3 S15)))))
set_option maxHeartbeats 4000000 in
set_option maxRecDepth 100000 in
theorem zt_X14_list_J41 {p : Program} {l : Launch} {e : Env} {R : Room} {s : State} {m : MethodId} {args : Array Value} {below : List Frame} {meth : Method} {c : Code} {V : zm_V} {mc ms d rc rs : Nat} (hX : zm_X p R s m args meth c RX14 "list" cX14_list 4 zk_E V mc ms) (hr : meth.sig.returnType = none) (hR : R.frames = d ∧ R.locals = 64 * d) (hd : 2 ≤ d) {N : Nat} {k : Nat → Int32 → Int32 → zm_S → Option ((Unit × zm_S) ⊕ ((Unit) × zm_S))} {a0 : Nat} {i2 : Int32} {i3 : Int32} {res : (Unit × zm_S) ⊕ ((Unit) × zm_S)} {out : (Unit × zm_S)}   (hf : ∀ o, res = .inl o → o = out) (hk : ∀ (S' : zm_S), res = .inr ((), S') → zw p l e R s m args below meth c (vx_MQ below (zm_Qc zk_E V (zo_v out)) (zm_XC zk_E V zo_x) args s mc ms (fun q => V.2.2.2.1 ≤ q)) 4 zk_E V mc ms 87 [] [] S' rc rs) (hrec : ∀ (i1' : Int32) (i2' : Int32) (S : zm_S), k a0 i1' i2' S = some res → zw p l e R s m args below meth c (vx_MQ below (zm_Qc zk_E V (zo_v out)) (zm_XC zk_E V zo_x) args s mc ms (fun q => V.2.2.2.1 ≤ q)) 4 zk_E V mc ms 9 [(0, .ref a0), (1, .int i1'), (2, .int i2')] [] S rc rs) {S : zm_S} (h : zf_X14_list_J41 N k a0 i2 i3 S = some res) : zw p l e R s m args below meth c (vx_MQ below (zm_Qc zk_E V (zo_v out)) (zm_XC zk_E V zo_x) args s mc ms (fun q => V.2.2.2.1 ≤ q)) 4 zk_E V mc ms 41 [(0, .ref a0), (2, .int i2), (3, .int i3)] [] S rc rs := by
  unfold zf_X14_list_J41 at h
  refine zw_aload_n hX dX14_list_41 rfl ?_
  obtain ⟨b11, g, h⟩ := zb_some h
  refine zw_getr hX zl_X14_23 dX14_list_42 g ?_
  refine zw_aload_n hX dX14_list_45 rfl ?_
  obtain ⟨v12, g, h⟩ := zb_some h
  refine zw_geti hX zl_X14_125 dX14_list_46 g ?_
  refine zw_iload_n hX dX14_list_49 rfl ?_
  obtain ⟨S13, g, h⟩ := zb_some h
  refine zw_si hX dX14_list_50 g ?_
  refine zw_aload_n hX dX14_list_51 rfl ?_
  refine zw_dup hX dX14_list_52 rfl ?_
  obtain ⟨v14, g, h⟩ := zb_some h
  refine zw_geti hX zl_X14_125 dX14_list_53 g ?_
  refine zw_iconst (v := (1 : Int32)) hX dX14_list_56 (by decide) ?_
  refine zw_iadd hX dX14_list_57 ?_
  obtain ⟨S15, g, h⟩ := zb_some h
  refine zw_putv hX zl_X14_125 zt_14_7 dX14_list_58 rfl rfl g ?_
  refine zw_sub (lv' := [(0, .ref a0), (2, .int i2), (3, .int i3)]) (List.forall_mem_cons.mpr ⟨rfl, (List.forall_mem_cons.mpr ⟨rfl, (List.forall_mem_cons.mpr ⟨rfl, zs_nil⟩)⟩)⟩) ?_
  exact zt_X14_list_J61 hX hr hR hd hf hk hrec h
def zf_X14_list_L9 (N : Nat) : Nat → Nat → Int32 → Int32 → zm_S → Option ((Unit × zm_S) ⊕ ((Unit) × zm_S))
  | 0, _, _, _, _ => none
  | n + 1, a0, i1, i2, S => (zg_i S a0 14 6).bind (fun v2 => if v2 ≤ i2 then some (.inr ((), S)) else (zg_r S a0 14 5).bind (fun b3 => (za_x S 0 b3 i2).bind (fun v4 => (zf_X14_sort N v4 S).bind (fun r7 => if r7.1 ≤ 0 then zf_X14_list_J61 N (zf_X14_list_L9 N n) a0 i2 r7.1 r7.2 else if r7.1 = (3 : Int32) then zf_X14_list_J41 N (zf_X14_list_L9 N n) a0 i2 r7.1 r7.2 else if r7.1 = i1 then zf_X14_list_J61 N (zf_X14_list_L9 N n) a0 i2 r7.1 r7.2 else zf_X14_list_J41 N (zf_X14_list_L9 N n) a0 i2 r7.1 r7.2))))
set_option maxHeartbeats 4000000 in
set_option maxRecDepth 100000 in
theorem zt_X14_list_L9 {p : Program} {l : Launch} {e : Env} {R : Room} {s : State} {m : MethodId} {args : Array Value} {below : List Frame} {meth : Method} {c : Code} {V : zm_V} {mc ms d rc rs : Nat} (hX : zm_X p R s m args meth c RX14 "list" cX14_list 4 zk_E V mc ms) (hr : meth.sig.returnType = none) (hR : R.frames = d ∧ R.locals = 64 * d) (hd : 2 ≤ d) {N : Nat} {res : (Unit × zm_S) ⊕ ((Unit) × zm_S)} {out : (Unit × zm_S)} (a0 : Nat) (hf : ∀ o, res = .inl o → o = out) (hk : ∀ (S' : zm_S), res = .inr ((), S') → zw p l e R s m args below meth c (vx_MQ below (zm_Qc zk_E V (zo_v out)) (zm_XC zk_E V zo_x) args s mc ms (fun q => V.2.2.2.1 ≤ q)) 4 zk_E V mc ms 87 [] [] S' rc rs) : ∀ (n : Nat) (i1 : Int32) (i2 : Int32) (S : zm_S), zf_X14_list_L9 N n a0 i1 i2 S = some res → zw p l e R s m args below meth c (vx_MQ below (zm_Qc zk_E V (zo_v out)) (zm_XC zk_E V zo_x) args s mc ms (fun q => V.2.2.2.1 ≤ q)) 4 zk_E V mc ms 9 [(0, .ref a0), (1, .int i1), (2, .int i2)] [] S rc rs := by
  intro n
  induction n with
  | zero => intro i1 i2 S h; cases h
  | succ n ih =>
    intro i1 i2 S h
    rw [zf_X14_list_L9] at h
    refine zw_iload_n hX dX14_list_9 rfl ?_
    refine zw_aload_n hX dX14_list_10 rfl ?_
    obtain ⟨v2, g, h⟩ := zb_some h
    refine zw_geti hX zl_X14_89 dX14_list_11 g ?_
    refine zw_icmp_ge (tgt := 87) hX dX14_list_14 (by decide) (fun c14 => ?_) (fun c14 => ?_)
    · rw [if_pos c14] at h
      refine zw_sub (lv' := []) zs_nil ?_
      exact hk  _ (Option.some.inj h).symm
    · rw [if_neg c14] at h
      refine zw_aload_n hX dX14_list_17 rfl ?_
      obtain ⟨b3, g, h⟩ := zb_some h
      refine zw_getr hX zl_X14_20 dX14_list_18 g ?_
      refine zw_iload_n hX dX14_list_21 rfl ?_
      obtain ⟨v4, g, h⟩ := zb_some h
      refine zw_xi hX dX14_list_22 g ?_
      obtain ⟨r7, g, h⟩ := zb_some h
      refine zc_Si (as := [.int v4]) hX (zt_X14_sort (d := d - 1) (by omega) g) zl_X14_128 dX14_list_23 ⟨rfl, rfl, Nat.le_of_ble_eq_true rfl⟩ ⟨by omega, by omega⟩ ?_
      refine zw_istore_n hX dX14_list_26 (by decide) ?_
      refine zw_iload_n hX dX14_list_27 rfl ?_
      refine zw_if_le (tgt := 61) hX dX14_list_28 (by decide) (fun c28 => ?_) (fun c28 => ?_)
      · rw [if_pos c28] at h
        refine zw_sub (lv' := [(0, .ref a0), (2, .int i2), (3, .int r7.1)]) (List.forall_mem_cons.mpr ⟨rfl, (List.forall_mem_cons.mpr ⟨rfl, (List.forall_mem_cons.mpr ⟨rfl, zs_nil⟩)⟩)⟩) ?_
        exact zt_X14_list_J61 hX hr hR hd hf hk ih h
      · rw [if_neg c28] at h
        refine zw_iload_n hX dX14_list_31 rfl ?_
        refine zw_iconst (v := (3 : Int32)) hX dX14_list_32 (by decide) ?_
        refine zw_icmp_eq (tgt := 41) hX dX14_list_33 (by decide) (fun c33 => ?_) (fun c33 => ?_)
        · rw [if_pos c33] at h
          refine zw_sub (lv' := [(0, .ref a0), (2, .int i2), (3, .int r7.1)]) (List.forall_mem_cons.mpr ⟨rfl, (List.forall_mem_cons.mpr ⟨rfl, (List.forall_mem_cons.mpr ⟨rfl, zs_nil⟩)⟩)⟩) ?_
          exact zt_X14_list_J41 hX hr hR hd hf hk ih h
        · rw [if_neg c33] at h
          refine zw_iload_n hX dX14_list_36 rfl ?_
          refine zw_iload_n hX dX14_list_37 rfl ?_
          refine zw_icmp_eq (tgt := 61) hX dX14_list_38 (by decide) (fun c38 => ?_) (fun c38 => ?_)
          · rw [if_pos c38] at h
            refine zw_sub (lv' := [(0, .ref a0), (2, .int i2), (3, .int r7.1)]) (List.forall_mem_cons.mpr ⟨rfl, (List.forall_mem_cons.mpr ⟨rfl, (List.forall_mem_cons.mpr ⟨rfl, zs_nil⟩)⟩)⟩) ?_
            exact zt_X14_list_J61 hX hr hR hd hf hk ih h
          · rw [if_neg c38] at h
            refine zw_sub (lv' := [(0, .ref a0), (2, .int i2), (3, .int r7.1)]) (List.forall_mem_cons.mpr ⟨rfl, (List.forall_mem_cons.mpr ⟨rfl, (List.forall_mem_cons.mpr ⟨rfl, zs_nil⟩)⟩)⟩) ?_
            exact zt_X14_list_J41 hX hr hR hd hf hk ih h
def zf_X14_list (N : Nat) (a0 : Nat) (S : zm_S) : Option (Unit × zm_S) := (zp S a0 14 7 (.int (0 : Int32))).bind (fun S1 => (zf_X14_list_L9 N N a0 (0 : Int32) (0 : Int32) S1).bind (fun r => match r with | .inl o => some o | .inr (_, S16) => some ((), S16)))
set_option maxHeartbeats 4000000 in
set_option maxRecDepth 100000 in
theorem zt_X14_list {l : Launch} {V : zm_V} {N : Nat} {S : zm_S} {out : (Unit × zm_S)} {d : Nat} {a0 : Nat} (hd : 2 ≤ d) (h : zf_X14_list N a0 S = some out) : zm_Met l zk_E V yX14_list (.code yX14_list cX14_list 4 none) d [.ref a0] S 0 0 (zo_v out) zo_x := by
  refine zm_of (by decide +kernel) (Nat.le_of_ble_eq_true rfl) ?_
  intro p e R s m args below meth c hRR hX hr hxt
  have hR : R.frames = d ∧ R.locals = 64 * d := by rw [hRR]; exact ⟨rfl, rfl⟩
  have hX : zm_X p R s m args meth c RX14 "list" cX14_list 4 zk_E V 0 0 := hX
  unfold zf_X14_list at h
  refine zw_sub (lv' := [(0, .ref a0)]) (List.forall_mem_cons.mpr ⟨rfl, zs_nil⟩) ?_
  refine zw_aload_n hX dX14_list_0 rfl ?_
  refine zw_iconst (v := (0 : Int32)) hX dX14_list_1 (by decide) ?_
  obtain ⟨S1, g, h⟩ := zb_some h
  refine zw_putv hX zl_X14_125 zt_14_7 dX14_list_2 rfl rfl g ?_
  refine zw_iconst (v := (0 : Int32)) hX dX14_list_5 (by decide) ?_
  refine zw_istore_n hX dX14_list_6 (by decide) ?_
  refine zw_iconst (v := (0 : Int32)) hX dX14_list_7 (by decide) ?_
  refine zw_istore_n hX dX14_list_8 (by decide) ?_
  obtain ⟨r, g, h⟩ := zb_some h
  refine zw_sub (lv' := [(0, .ref a0), (1, .int (0 : Int32)), (2, .int (0 : Int32))]) (List.forall_mem_cons.mpr ⟨rfl, (List.forall_mem_cons.mpr ⟨rfl, (List.forall_mem_cons.mpr ⟨rfl, zs_nil⟩)⟩)⟩) ?_
  refine zt_X14_list_L9 hX hr hR hd (res := r) (out := out) a0 ?_ ?_ N _ _ _ g
  · intro o ho
    subst ho
    exact Option.some.inj h
  · intro  S16 hx
    subst hx
    try dsimp only at h
    obtain rfl := Option.some.inj h
    exact zw_vret hX hr dX14_list_87 ⟨rfl, rfl⟩
def zf_X14_letters_L71 (N : Nat) : Nat → Nat → Int32 → Int32 → zm_S → Option ((Int32 × zm_S) ⊕ ((Int32) × zm_S))
  | 0, _, _, _, _ => none
  | n + 1, a0, i1, i2, S => (zg_r S a0 14 8).bind (fun b20 => (zg_i S a0 14 10).bind (fun v21 => (za_x S 0 b20 v21).bind (fun v22 => if i2 < v22 then some (.inr (i1, S)) else (zg_r S a0 14 5).bind (fun b23 => (za_x S 0 b23 i2).bind (fun v24 => zf_X14_letters_L71 N n a0 ((((32 : Int32) * i1) + v24) - (96 : Int32)) (i2 + (-1 : Int32)) S)))))
set_option maxHeartbeats 4000000 in
set_option maxRecDepth 100000 in
theorem zt_X14_letters_L71 {p : Program} {l : Launch} {e : Env} {R : Room} {s : State} {m : MethodId} {args : Array Value} {below : List Frame} {meth : Method} {c : Code} {V : zm_V} {mc ms d rc rs : Nat} (hX : zm_X p R s m args meth c RX14 "letters" cX14_letters 3 zk_E V mc ms) (hr : meth.sig.returnType = (some .int)) (hR : R.frames = d ∧ R.locals = 64 * d) (hd : 2 ≤ d) {N : Nat} {res : (Int32 × zm_S) ⊕ ((Int32) × zm_S)} {out : (Int32 × zm_S)} (a0 : Nat) (hf : ∀ o, res = .inl o → o = out) (hk : ∀ (x1 : Int32) (S' : zm_S), res = .inr (x1, S') → zw p l e R s m args below meth c (vx_MQ below (zm_Qc zk_E V (zo_i out)) (zm_XC zk_E V zo_x) args s mc ms (fun q => V.2.2.2.1 ≤ q)) 3 zk_E V mc ms 105 [(1, .int x1)] [] S' rc rs) : ∀ (n : Nat) (i1 : Int32) (i2 : Int32) (S : zm_S), zf_X14_letters_L71 N n a0 i1 i2 S = some res → zw p l e R s m args below meth c (vx_MQ below (zm_Qc zk_E V (zo_i out)) (zm_XC zk_E V zo_x) args s mc ms (fun q => V.2.2.2.1 ≤ q)) 3 zk_E V mc ms 71 [(0, .ref a0), (1, .int i1), (2, .int i2)] [] S rc rs := by
  intro n
  induction n with
  | zero => intro i1 i2 S h; cases h
  | succ n ih =>
    intro i1 i2 S h
    rw [zf_X14_letters_L71] at h
    refine zw_iload_n hX dX14_letters_71 rfl ?_
    refine zw_aload_n hX dX14_letters_72 rfl ?_
    obtain ⟨b20, g, h⟩ := zb_some h
    refine zw_getr hX zl_X14_23 dX14_letters_73 g ?_
    refine zw_aload_n hX dX14_letters_76 rfl ?_
    obtain ⟨v21, g, h⟩ := zb_some h
    refine zw_geti hX zl_X14_131 dX14_letters_77 g ?_
    obtain ⟨v22, g, h⟩ := zb_some h
    refine zw_xi hX dX14_letters_80 g ?_
    refine zw_icmp_lt (tgt := 105) hX dX14_letters_81 (by decide) (fun c81 => ?_) (fun c81 => ?_)
    · rw [if_pos c81] at h
      refine zw_sub (lv' := [(1, .int i1)]) (List.forall_mem_cons.mpr ⟨rfl, zs_nil⟩) ?_
      exact hk _ _ (Option.some.inj h).symm
    · rw [if_neg c81] at h
      refine zw_bipush (v := (32 : Int32)) hX dX14_letters_84 (by decide) ?_
      refine zw_iload_n hX dX14_letters_86 rfl ?_
      refine zw_imul hX dX14_letters_87 ?_
      refine zw_aload_n hX dX14_letters_88 rfl ?_
      obtain ⟨b23, g, h⟩ := zb_some h
      refine zw_getr hX zl_X14_20 dX14_letters_89 g ?_
      refine zw_iload_n hX dX14_letters_92 rfl ?_
      obtain ⟨v24, g, h⟩ := zb_some h
      refine zw_xi hX dX14_letters_93 g ?_
      refine zw_iadd hX dX14_letters_94 ?_
      refine zw_bipush (v := (96 : Int32)) hX dX14_letters_95 (by decide) ?_
      refine zw_isub hX dX14_letters_97 ?_
      refine zw_istore_n hX dX14_letters_98 (by decide) ?_
      refine zw_iinc (v := (i2 + (-1 : Int32))) hX dX14_letters_99 rfl rfl (by decide) ?_
      refine zw_goto (tgt := 71) hX dX14_letters_102 (by decide) ?_
      refine zw_sub (lv' := [(0, .ref a0), (1, .int ((((32 : Int32) * i1) + v24) - (96 : Int32))), (2, .int (i2 + (-1 : Int32)))]) (List.forall_mem_cons.mpr ⟨rfl, (List.forall_mem_cons.mpr ⟨rfl, (List.forall_mem_cons.mpr ⟨rfl, zs_nil⟩)⟩)⟩) ?_
      exact ih _ _ _ h
def zf_X14_letters (N : Nat) (a0 : Nat) (S : zm_S) : Option (Int32 × zm_S) := (zg_i S a0 14 10).bind (fun v1 => (zg_i S a0 14 7).bind (fun v2 => if v2 ≤ v1 then some ((-1 : Int32), S) else (zg_r S a0 14 5).bind (fun b3 => (zg_r S a0 14 8).bind (fun b4 => (zg_i S a0 14 10).bind (fun v5 => (za_x S 0 b4 v5).bind (fun v6 => (za_x S 0 b3 v6).bind (fun v7 => (zf_X14_sort N v7 S).bind (fun r10 => if r10.1 = (1 : Int32) then (zg_r r10.2 a0 14 9).bind (fun b11 => (zg_i r10.2 a0 14 10).bind (fun v12 => (za_x r10.2 0 b11 v12).bind (fun v13 => (zg_r r10.2 a0 14 8).bind (fun b14 => (zg_i r10.2 a0 14 10).bind (fun v15 => (za_x r10.2 0 b14 v15).bind (fun v16 => if (v13 - v16) ≤ (5 : Int32) then (zg_r r10.2 a0 14 9).bind (fun b17 => (zg_i r10.2 a0 14 10).bind (fun v18 => (za_x r10.2 0 b17 v18).bind (fun v19 => (zf_X14_letters_L71 N N a0 (0 : Int32) (v19 - (1 : Int32)) r10.2).bind (fun r => match r with | .inl o => some o | .inr (v26, S25) => some (v26, S25))))) else some ((-1 : Int32), r10.2))))))) else some ((-1 : Int32), r10.2)))))))))
set_option maxHeartbeats 4000000 in
set_option maxRecDepth 100000 in
theorem zt_X14_letters {l : Launch} {V : zm_V} {N : Nat} {S : zm_S} {out : (Int32 × zm_S)} {d : Nat} {a0 : Nat} (hd : 2 ≤ d) (h : zf_X14_letters N a0 S = some out) : zm_Met l zk_E V yX14_letters (.code yX14_letters cX14_letters 3 (some .int)) d [.ref a0] S 0 0 (zo_i out) zo_x := by
  refine zm_of (by decide +kernel) (Nat.le_of_ble_eq_true rfl) ?_
  intro p e R s m args below meth c hRR hX hr hxt
  have hR : R.frames = d ∧ R.locals = 64 * d := by rw [hRR]; exact ⟨rfl, rfl⟩
  have hX : zm_X p R s m args meth c RX14 "letters" cX14_letters 3 zk_E V 0 0 := hX
  unfold zf_X14_letters at h
  refine zw_sub (lv' := [(0, .ref a0)]) (List.forall_mem_cons.mpr ⟨rfl, zs_nil⟩) ?_
  refine zw_aload_n hX dX14_letters_0 rfl ?_
  obtain ⟨v1, g, h⟩ := zb_some h
  refine zw_geti hX zl_X14_131 dX14_letters_1 g ?_
  refine zw_aload_n hX dX14_letters_4 rfl ?_
  obtain ⟨v2, g, h⟩ := zb_some h
  refine zw_geti hX zl_X14_125 dX14_letters_5 g ?_
  refine zw_icmp_ge (tgt := 55) hX dX14_letters_8 (by decide) (fun c8 => ?_) (fun c8 => ?_)
  · rw [if_pos c8] at h
    refine zw_iconst (v := (-1 : Int32)) hX dX14_letters_55 (by decide) ?_
    obtain rfl := Option.some.inj h
    exact zw_iret hX hr dX14_letters_56 rfl ⟨rfl, rfl⟩
  · rw [if_neg c8] at h
    refine zw_aload_n hX dX14_letters_11 rfl ?_
    obtain ⟨b3, g, h⟩ := zb_some h
    refine zw_getr hX zl_X14_20 dX14_letters_12 g ?_
    refine zw_aload_n hX dX14_letters_15 rfl ?_
    obtain ⟨b4, g, h⟩ := zb_some h
    refine zw_getr hX zl_X14_23 dX14_letters_16 g ?_
    refine zw_aload_n hX dX14_letters_19 rfl ?_
    obtain ⟨v5, g, h⟩ := zb_some h
    refine zw_geti hX zl_X14_131 dX14_letters_20 g ?_
    obtain ⟨v6, g, h⟩ := zb_some h
    refine zw_xi hX dX14_letters_23 g ?_
    obtain ⟨v7, g, h⟩ := zb_some h
    refine zw_xi hX dX14_letters_24 g ?_
    obtain ⟨r10, g, h⟩ := zb_some h
    refine zc_Si (as := [.int v7]) hX (zt_X14_sort (d := d - 1) (by omega) g) zl_X14_128 dX14_letters_25 ⟨rfl, rfl, Nat.le_of_ble_eq_true rfl⟩ ⟨by omega, by omega⟩ ?_
    refine zw_iconst (v := (1 : Int32)) hX dX14_letters_28 (by decide) ?_
    refine zw_icmp_ne (tgt := 55) hX dX14_letters_29 (by decide) (fun c29 => ?_) (fun c29 => ?_)
    · rw [if_neg c29] at h
      refine zw_iconst (v := (-1 : Int32)) hX dX14_letters_55 (by decide) ?_
      obtain rfl := Option.some.inj h
      exact zw_iret hX hr dX14_letters_56 rfl ⟨rfl, rfl⟩
    · rw [if_pos c29] at h
      refine zw_aload_n hX dX14_letters_32 rfl ?_
      obtain ⟨b11, g, h⟩ := zb_some h
      refine zw_getr hX zl_X14_26 dX14_letters_33 g ?_
      refine zw_aload_n hX dX14_letters_36 rfl ?_
      obtain ⟨v12, g, h⟩ := zb_some h
      refine zw_geti hX zl_X14_131 dX14_letters_37 g ?_
      obtain ⟨v13, g, h⟩ := zb_some h
      refine zw_xi hX dX14_letters_40 g ?_
      refine zw_aload_n hX dX14_letters_41 rfl ?_
      obtain ⟨b14, g, h⟩ := zb_some h
      refine zw_getr hX zl_X14_23 dX14_letters_42 g ?_
      refine zw_aload_n hX dX14_letters_45 rfl ?_
      obtain ⟨v15, g, h⟩ := zb_some h
      refine zw_geti hX zl_X14_131 dX14_letters_46 g ?_
      obtain ⟨v16, g, h⟩ := zb_some h
      refine zw_xi hX dX14_letters_49 g ?_
      refine zw_isub hX dX14_letters_50 ?_
      refine zw_iconst (v := (5 : Int32)) hX dX14_letters_51 (by decide) ?_
      refine zw_icmp_le (tgt := 57) hX dX14_letters_52 (by decide) (fun c52 => ?_) (fun c52 => ?_)
      · rw [if_pos c52] at h
        refine zw_iconst (v := (0 : Int32)) hX dX14_letters_57 (by decide) ?_
        refine zw_istore_n hX dX14_letters_58 (by decide) ?_
        refine zw_aload_n hX dX14_letters_59 rfl ?_
        obtain ⟨b17, g, h⟩ := zb_some h
        refine zw_getr hX zl_X14_26 dX14_letters_60 g ?_
        refine zw_aload_n hX dX14_letters_63 rfl ?_
        obtain ⟨v18, g, h⟩ := zb_some h
        refine zw_geti hX zl_X14_131 dX14_letters_64 g ?_
        obtain ⟨v19, g, h⟩ := zb_some h
        refine zw_xi hX dX14_letters_67 g ?_
        refine zw_iconst (v := (1 : Int32)) hX dX14_letters_68 (by decide) ?_
        refine zw_isub hX dX14_letters_69 ?_
        refine zw_istore_n hX dX14_letters_70 (by decide) ?_
        obtain ⟨r, g, h⟩ := zb_some h
        refine zw_sub (lv' := [(0, .ref a0), (1, .int (0 : Int32)), (2, .int (v19 - (1 : Int32)))]) (List.forall_mem_cons.mpr ⟨rfl, (List.forall_mem_cons.mpr ⟨rfl, (List.forall_mem_cons.mpr ⟨rfl, zs_nil⟩)⟩)⟩) ?_
        refine zt_X14_letters_L71 hX hr hR hd (res := r) (out := out) a0 ?_ ?_ N _ _ _ g
        · intro o ho
          subst ho
          exact Option.some.inj h
        · intro v26 S25 hx
          subst hx
          try dsimp only at h
          refine zw_iload_n hX dX14_letters_105 rfl ?_
          obtain rfl := Option.some.inj h
          exact zw_iret hX hr dX14_letters_106 rfl ⟨rfl, rfl⟩
      · rw [if_neg c52] at h
        refine zw_iconst (v := (-1 : Int32)) hX dX14_letters_55 (by decide) ?_
        obtain rfl := Option.some.inj h
        exact zw_iret hX hr dX14_letters_56 rfl ⟨rfl, rfl⟩
def zf_X14_isSign (N : Nat) (a0 : Nat) (i1 : Int32) (S : zm_S) : Option (Int32 × zm_S) := (zg_i S a0 14 10).bind (fun v1 => (zg_i S a0 14 7).bind (fun v2 => if v2 ≤ v1 then some ((0 : Int32), S) else (zg_r S a0 14 9).bind (fun b3 => (zg_i S a0 14 10).bind (fun v4 => (za_x S 0 b3 v4).bind (fun v5 => (zg_r S a0 14 8).bind (fun b6 => (zg_i S a0 14 10).bind (fun v7 => (za_x S 0 b6 v7).bind (fun v8 => if (v5 - v8) = (1 : Int32) then (zg_r S a0 14 5).bind (fun b9 => (zg_r S a0 14 8).bind (fun b10 => (zg_i S a0 14 10).bind (fun v11 => (za_x S 0 b10 v11).bind (fun v12 => (za_x S 0 b9 v12).bind (fun v13 => if v13 = i1 then some ((1 : Int32), S) else some ((0 : Int32), S)))))) else some ((0 : Int32), S)))))))))
set_option maxHeartbeats 4000000 in
set_option maxRecDepth 100000 in
theorem zt_X14_isSign {l : Launch} {V : zm_V} {N : Nat} {S : zm_S} {out : (Int32 × zm_S)} {d : Nat} {a0 : Nat} {i1 : Int32} (hd : 1 ≤ d) (h : zf_X14_isSign N a0 i1 S = some out) : zm_Met l zk_E V yX14_isSign (.code yX14_isSign cX14_isSign 2 (some .boolean)) d [.ref a0, .int i1] S 0 0 (zo_i out) zo_x := by
  refine zm_of (by decide +kernel) (Nat.le_of_ble_eq_true rfl) ?_
  intro p e R s m args below meth c hRR hX hr hxt
  have hR : R.frames = d ∧ R.locals = 64 * d := by rw [hRR]; exact ⟨rfl, rfl⟩
  have hX : zm_X p R s m args meth c RX14 "isSign" cX14_isSign 2 zk_E V 0 0 := hX
  unfold zf_X14_isSign at h
  refine zw_sub (lv' := [(0, .ref a0), (1, .int i1)]) (List.forall_mem_cons.mpr ⟨rfl, (List.forall_mem_cons.mpr ⟨rfl, zs_nil⟩)⟩) ?_
  refine zw_aload_n hX dX14_isSign_0 rfl ?_
  obtain ⟨v1, g, h⟩ := zb_some h
  refine zw_geti hX zl_X14_131 dX14_isSign_1 g ?_
  refine zw_aload_n hX dX14_isSign_4 rfl ?_
  obtain ⟨v2, g, h⟩ := zb_some h
  refine zw_geti hX zl_X14_125 dX14_isSign_5 g ?_
  refine zw_icmp_ge (tgt := 56) hX dX14_isSign_8 (by decide) (fun c8 => ?_) (fun c8 => ?_)
  · rw [if_pos c8] at h
    refine zw_iconst (v := (0 : Int32)) hX dX14_isSign_56 (by decide) ?_
    obtain rfl := Option.some.inj h
    exact zw_iret hX hr dX14_isSign_57 rfl ⟨rfl, rfl⟩
  · rw [if_neg c8] at h
    refine zw_aload_n hX dX14_isSign_11 rfl ?_
    obtain ⟨b3, g, h⟩ := zb_some h
    refine zw_getr hX zl_X14_26 dX14_isSign_12 g ?_
    refine zw_aload_n hX dX14_isSign_15 rfl ?_
    obtain ⟨v4, g, h⟩ := zb_some h
    refine zw_geti hX zl_X14_131 dX14_isSign_16 g ?_
    obtain ⟨v5, g, h⟩ := zb_some h
    refine zw_xi hX dX14_isSign_19 g ?_
    refine zw_aload_n hX dX14_isSign_20 rfl ?_
    obtain ⟨b6, g, h⟩ := zb_some h
    refine zw_getr hX zl_X14_23 dX14_isSign_21 g ?_
    refine zw_aload_n hX dX14_isSign_24 rfl ?_
    obtain ⟨v7, g, h⟩ := zb_some h
    refine zw_geti hX zl_X14_131 dX14_isSign_25 g ?_
    obtain ⟨v8, g, h⟩ := zb_some h
    refine zw_xi hX dX14_isSign_28 g ?_
    refine zw_isub hX dX14_isSign_29 ?_
    refine zw_iconst (v := (1 : Int32)) hX dX14_isSign_30 (by decide) ?_
    refine zw_icmp_ne (tgt := 56) hX dX14_isSign_31 (by decide) (fun c31 => ?_) (fun c31 => ?_)
    · rw [if_neg c31] at h
      refine zw_iconst (v := (0 : Int32)) hX dX14_isSign_56 (by decide) ?_
      obtain rfl := Option.some.inj h
      exact zw_iret hX hr dX14_isSign_57 rfl ⟨rfl, rfl⟩
    · rw [if_pos c31] at h
      refine zw_aload_n hX dX14_isSign_34 rfl ?_
      obtain ⟨b9, g, h⟩ := zb_some h
      refine zw_getr hX zl_X14_20 dX14_isSign_35 g ?_
      refine zw_aload_n hX dX14_isSign_38 rfl ?_
      obtain ⟨b10, g, h⟩ := zb_some h
      refine zw_getr hX zl_X14_23 dX14_isSign_39 g ?_
      refine zw_aload_n hX dX14_isSign_42 rfl ?_
      obtain ⟨v11, g, h⟩ := zb_some h
      refine zw_geti hX zl_X14_131 dX14_isSign_43 g ?_
      obtain ⟨v12, g, h⟩ := zb_some h
      refine zw_xi hX dX14_isSign_46 g ?_
      obtain ⟨v13, g, h⟩ := zb_some h
      refine zw_xi hX dX14_isSign_47 g ?_
      refine zw_iload_n hX dX14_isSign_48 rfl ?_
      refine zw_icmp_ne (tgt := 56) hX dX14_isSign_49 (by decide) (fun c49 => ?_) (fun c49 => ?_)
      · rw [if_neg c49] at h
        refine zw_iconst (v := (0 : Int32)) hX dX14_isSign_56 (by decide) ?_
        obtain rfl := Option.some.inj h
        exact zw_iret hX hr dX14_isSign_57 rfl ⟨rfl, rfl⟩
      · rw [if_pos c49] at h
        refine zw_iconst (v := (1 : Int32)) hX dX14_isSign_52 (by decide) ?_
        refine zw_goto (tgt := 57) hX dX14_isSign_53 (by decide) ?_
        obtain rfl := Option.some.inj h
        exact zw_iret hX hr dX14_isSign_57 rfl ⟨rfl, rfl⟩
def zf_X14_want_J19 (N : Nat) (a0 : Nat) (S : zm_S) : Option (Int32 × zm_S) := (zg_i S a0 14 11).bind (fun v1 => if 0 ≤ v1 then some ((0 : Int32), S) else some ((1 : Int32), S))
set_option maxHeartbeats 4000000 in
set_option maxRecDepth 100000 in
theorem zt_X14_want_J19 {p : Program} {l : Launch} {e : Env} {R : Room} {s : State} {m : MethodId} {args : Array Value} {below : List Frame} {meth : Method} {c : Code} {V : zm_V} {mc ms d rc rs : Nat} (hX : zm_X p R s m args meth c RX14 "want" cX14_want 2 zk_E V mc ms) (hr : meth.sig.returnType = (some .boolean)) (hR : R.frames = d ∧ R.locals = 64 * d) (hd : 1 ≤ d) {N : Nat} {a0 : Nat} {out : (Int32 × zm_S)} {S : zm_S} (h : zf_X14_want_J19 N a0 S = some out) : zw p l e R s m args below meth c (vx_MQ below (zm_Qc zk_E V (zo_i out)) (zm_XC zk_E V zo_x) args s mc ms (fun q => V.2.2.2.1 ≤ q)) 2 zk_E V mc ms 19 [(0, .ref a0)] [] S rc rs := by
  unfold zf_X14_want_J19 at h
  refine zw_aload_n hX dX14_want_19 rfl ?_
  obtain ⟨v1, g, h⟩ := zb_some h
  refine zw_geti hX zl_X14_134 dX14_want_20 g ?_
  refine zw_if_ge (tgt := 30) hX dX14_want_23 (by decide) (fun c23 => ?_) (fun c23 => ?_)
  · rw [if_pos c23] at h
    refine zw_iconst (v := (0 : Int32)) hX dX14_want_30 (by decide) ?_
    obtain rfl := Option.some.inj h
    exact zw_iret hX hr dX14_want_31 rfl ⟨rfl, rfl⟩
  · rw [if_neg c23] at h
    refine zw_iconst (v := (1 : Int32)) hX dX14_want_26 (by decide) ?_
    refine zw_goto (tgt := 31) hX dX14_want_27 (by decide) ?_
    obtain rfl := Option.some.inj h
    exact zw_iret hX hr dX14_want_31 rfl ⟨rfl, rfl⟩
def zf_X14_want (N : Nat) (a0 : Nat) (i1 : Int32) (S : zm_S) : Option (Int32 × zm_S) := if i1 = 0 then (zg_i S a0 14 11).bind (fun v2 => if 0 ≤ v2 then zf_X14_want_J19 N a0 S else (zg_i S a0 14 10).bind (fun v3 => (zp S a0 14 11 (.int v3)).bind (fun S4 => zf_X14_want_J19 N a0 S4))) else zf_X14_want_J19 N a0 S
set_option maxHeartbeats 4000000 in
set_option maxRecDepth 100000 in
theorem zt_X14_want {l : Launch} {V : zm_V} {N : Nat} {S : zm_S} {out : (Int32 × zm_S)} {d : Nat} {a0 : Nat} {i1 : Int32} (hd : 1 ≤ d) (h : zf_X14_want N a0 i1 S = some out) : zm_Met l zk_E V yX14_want (.code yX14_want cX14_want 2 (some .boolean)) d [.ref a0, .int i1] S 0 0 (zo_i out) zo_x := by
  refine zm_of (by decide +kernel) (Nat.le_of_ble_eq_true rfl) ?_
  intro p e R s m args below meth c hRR hX hr hxt
  have hR : R.frames = d ∧ R.locals = 64 * d := by rw [hRR]; exact ⟨rfl, rfl⟩
  have hX : zm_X p R s m args meth c RX14 "want" cX14_want 2 zk_E V 0 0 := hX
  unfold zf_X14_want at h
  refine zw_sub (lv' := [(0, .ref a0), (1, .int i1)]) (List.forall_mem_cons.mpr ⟨rfl, (List.forall_mem_cons.mpr ⟨rfl, zs_nil⟩)⟩) ?_
  refine zw_iload_n hX dX14_want_0 rfl ?_
  refine zw_if_ne (tgt := 19) hX dX14_want_1 (by decide) (fun c1 => ?_) (fun c1 => ?_)
  · rw [if_neg c1] at h
    refine zw_sub (lv' := [(0, .ref a0)]) (List.forall_mem_cons.mpr ⟨rfl, zs_nil⟩) ?_
    exact zt_X14_want_J19 hX hr hR hd h
  · rw [if_pos c1] at h
    refine zw_aload_n hX dX14_want_4 rfl ?_
    obtain ⟨v2, g, h⟩ := zb_some h
    refine zw_geti hX zl_X14_134 dX14_want_5 g ?_
    refine zw_if_ge (tgt := 19) hX dX14_want_8 (by decide) (fun c8 => ?_) (fun c8 => ?_)
    · rw [if_pos c8] at h
      refine zw_sub (lv' := [(0, .ref a0)]) (List.forall_mem_cons.mpr ⟨rfl, zs_nil⟩) ?_
      exact zt_X14_want_J19 hX hr hR hd h
    · rw [if_neg c8] at h
      refine zw_aload_n hX dX14_want_11 rfl ?_
      refine zw_aload_n hX dX14_want_12 rfl ?_
      obtain ⟨v3, g, h⟩ := zb_some h
      refine zw_geti hX zl_X14_131 dX14_want_13 g ?_
      obtain ⟨S4, g, h⟩ := zb_some h
      refine zw_putv hX zl_X14_134 zt_14_11 dX14_want_16 rfl rfl g ?_
      refine zw_sub (lv' := [(0, .ref a0)]) (List.forall_mem_cons.mpr ⟨rfl, zs_nil⟩) ?_
      exact zt_X14_want_J19 hX hr hR hd h
def zf_X14_take_J14 (N : Nat) (a0 : Nat) (t0 : Nat) (t1 : Int32) (S : zm_S) : Option (Unit × zm_S) := (zi S t0 14).bind (fun _ => (zf_X14_want N t0 t1 S).bind (fun r6 => if r6.1 = 0 then some ((), r6.2) else (zg_i r6.2 a0 14 10).bind (fun v7 => (zp r6.2 a0 14 10 (.int (v7 + (1 : Int32)))).bind (fun S8 => some ((), S8)))))
set_option maxHeartbeats 4000000 in
set_option maxRecDepth 100000 in
theorem zt_X14_take_J14 {p : Program} {l : Launch} {e : Env} {R : Room} {s : State} {m : MethodId} {args : Array Value} {below : List Frame} {meth : Method} {c : Code} {V : zm_V} {mc ms d rc rs : Nat} (hX : zm_X p R s m args meth c RX14 "take" cX14_take 2 zk_E V mc ms) (hr : meth.sig.returnType = none) (hR : R.frames = d ∧ R.locals = 64 * d) (hd : 3 ≤ d) {N : Nat} {a0 : Nat} {t0 : Nat} {t1 : Int32} {out : (Unit × zm_S)} {S : zm_S} (h : zf_X14_take_J14 N a0 t0 t1 S = some out) : zw p l e R s m args below meth c (vx_MQ below (zm_Qc zk_E V (zo_v out)) (zm_XC zk_E V zo_x) args s mc ms (fun q => V.2.2.2.1 ≤ q)) 2 zk_E V mc ms 14 [(0, .ref a0)] [.int t1, .ref t0] S rc rs := by
  unfold zf_X14_take_J14 at h
  obtain ⟨_, gi, h⟩ := zb_some h
  obtain ⟨r6, g, h⟩ := zb_some h
  refine zc_Vi (as := [.int t1]) hX gi (zt_X14_want (d := d - 1) (by omega) g) zl_X14_141 rfl dX14_take_14 ⟨rfl, rfl, Nat.le_of_ble_eq_true rfl⟩ ⟨by omega, by omega⟩ ?_
  refine zw_if_eq (tgt := 30) hX dX14_take_17 (by decide) (fun c17 => ?_) (fun c17 => ?_)
  · rw [if_pos c17] at h
    obtain rfl := Option.some.inj h
    exact zw_vret hX hr dX14_take_30 ⟨rfl, rfl⟩
  · rw [if_neg c17] at h
    refine zw_aload_n hX dX14_take_20 rfl ?_
    refine zw_dup hX dX14_take_21 rfl ?_
    obtain ⟨v7, g, h⟩ := zb_some h
    refine zw_geti hX zl_X14_131 dX14_take_22 g ?_
    refine zw_iconst (v := (1 : Int32)) hX dX14_take_25 (by decide) ?_
    refine zw_iadd hX dX14_take_26 ?_
    obtain ⟨S8, g, h⟩ := zb_some h
    refine zw_putv hX zl_X14_131 zt_14_10 dX14_take_27 rfl rfl g ?_
    obtain rfl := Option.some.inj h
    exact zw_vret hX hr dX14_take_30 ⟨rfl, rfl⟩
def zf_X14_take (N : Nat) (a0 : Nat) (i1 : Int32) (S : zm_S) : Option (Unit × zm_S) := (zi S a0 14).bind (fun _ => (zf_X14_letters N a0 S).bind (fun r3 => if r3.1 = i1 then zf_X14_take_J14 N a0 a0 (1 : Int32) r3.2 else zf_X14_take_J14 N a0 a0 (0 : Int32) r3.2))
set_option maxHeartbeats 4000000 in
set_option maxRecDepth 100000 in
theorem zt_X14_take {l : Launch} {V : zm_V} {N : Nat} {S : zm_S} {out : (Unit × zm_S)} {d : Nat} {a0 : Nat} {i1 : Int32} (hd : 3 ≤ d) (h : zf_X14_take N a0 i1 S = some out) : zm_Met l zk_E V yX14_take (.code yX14_take cX14_take 2 none) d [.ref a0, .int i1] S 0 0 (zo_v out) zo_x := by
  refine zm_of (by decide +kernel) (Nat.le_of_ble_eq_true rfl) ?_
  intro p e R s m args below meth c hRR hX hr hxt
  have hR : R.frames = d ∧ R.locals = 64 * d := by rw [hRR]; exact ⟨rfl, rfl⟩
  have hX : zm_X p R s m args meth c RX14 "take" cX14_take 2 zk_E V 0 0 := hX
  unfold zf_X14_take at h
  refine zw_sub (lv' := [(0, .ref a0), (1, .int i1)]) (List.forall_mem_cons.mpr ⟨rfl, (List.forall_mem_cons.mpr ⟨rfl, zs_nil⟩)⟩) ?_
  refine zw_aload_n hX dX14_take_0 rfl ?_
  refine zw_aload_n hX dX14_take_1 rfl ?_
  obtain ⟨_, gi, h⟩ := zb_some h
  obtain ⟨r3, g, h⟩ := zb_some h
  refine zc_Vi (as := []) hX gi (zt_X14_letters (d := d - 1) (by omega) g) zl_X14_137 rfl dX14_take_2 ⟨rfl, rfl, Nat.le_of_ble_eq_true rfl⟩ ⟨by omega, by omega⟩ ?_
  refine zw_iload_n hX dX14_take_5 rfl ?_
  refine zw_icmp_ne (tgt := 13) hX dX14_take_6 (by decide) (fun c6 => ?_) (fun c6 => ?_)
  · rw [if_neg c6] at h
    refine zw_iconst (v := (0 : Int32)) hX dX14_take_13 (by decide) ?_
    refine zw_sub (lv' := [(0, .ref a0)]) (List.forall_mem_cons.mpr ⟨rfl, zs_nil⟩) ?_
    exact zt_X14_take_J14 hX hr hR hd h
  · rw [if_pos c6] at h
    refine zw_iconst (v := (1 : Int32)) hX dX14_take_9 (by decide) ?_
    refine zw_goto (tgt := 14) hX dX14_take_10 (by decide) ?_
    refine zw_sub (lv' := [(0, .ref a0)]) (List.forall_mem_cons.mpr ⟨rfl, zs_nil⟩) ?_
    exact zt_X14_take_J14 hX hr hR hd h
def zf_X14_takeStop (N : Nat) (a0 : Nat) (S : zm_S) : Option (Unit × zm_S) := (zi S a0 14).bind (fun _ => (zf_X14_isSign N a0 (59 : Int32) S).bind (fun r3 => (zi r3.2 a0 14).bind (fun _ => (zf_X14_want N a0 r3.1 r3.2).bind (fun r6 => if r6.1 = 0 then some ((), r6.2) else (zg_i r6.2 a0 14 10).bind (fun v7 => (zp r6.2 a0 14 10 (.int (v7 + (1 : Int32)))).bind (fun S8 => some ((), S8)))))))
set_option maxHeartbeats 4000000 in
set_option maxRecDepth 100000 in
theorem zt_X14_takeStop {l : Launch} {V : zm_V} {N : Nat} {S : zm_S} {out : (Unit × zm_S)} {d : Nat} {a0 : Nat} (hd : 2 ≤ d) (h : zf_X14_takeStop N a0 S = some out) : zm_Met l zk_E V yX14_takeStop (.code yX14_takeStop cX14_takeStop 1 none) d [.ref a0] S 0 0 (zo_v out) zo_x := by
  refine zm_of (by decide +kernel) (Nat.le_of_ble_eq_true rfl) ?_
  intro p e R s m args below meth c hRR hX hr hxt
  have hR : R.frames = d ∧ R.locals = 64 * d := by rw [hRR]; exact ⟨rfl, rfl⟩
  have hX : zm_X p R s m args meth c RX14 "takeStop" cX14_takeStop 1 zk_E V 0 0 := hX
  unfold zf_X14_takeStop at h
  refine zw_sub (lv' := [(0, .ref a0)]) (List.forall_mem_cons.mpr ⟨rfl, zs_nil⟩) ?_
  refine zw_aload_n hX dX14_takeStop_0 rfl ?_
  refine zw_aload_n hX dX14_takeStop_1 rfl ?_
  refine zw_bipush (v := (59 : Int32)) hX dX14_takeStop_2 (by decide) ?_
  obtain ⟨_, gi, h⟩ := zb_some h
  obtain ⟨r3, g, h⟩ := zb_some h
  refine zc_Vi (as := [.int (59 : Int32)]) hX gi (zt_X14_isSign (d := d - 1) (by omega) g) zl_X14_145 rfl dX14_takeStop_4 ⟨rfl, rfl, Nat.le_of_ble_eq_true rfl⟩ ⟨by omega, by omega⟩ ?_
  obtain ⟨_, gi, h⟩ := zb_some h
  obtain ⟨r6, g, h⟩ := zb_some h
  refine zc_Vi (as := [.int r3.1]) hX gi (zt_X14_want (d := d - 1) (by omega) g) zl_X14_141 rfl dX14_takeStop_7 ⟨rfl, rfl, Nat.le_of_ble_eq_true rfl⟩ ⟨by omega, by omega⟩ ?_
  refine zw_if_eq (tgt := 23) hX dX14_takeStop_10 (by decide) (fun c10 => ?_) (fun c10 => ?_)
  · rw [if_pos c10] at h
    obtain rfl := Option.some.inj h
    exact zw_vret hX hr dX14_takeStop_23 ⟨rfl, rfl⟩
  · rw [if_neg c10] at h
    refine zw_aload_n hX dX14_takeStop_13 rfl ?_
    refine zw_dup hX dX14_takeStop_14 rfl ?_
    obtain ⟨v7, g, h⟩ := zb_some h
    refine zw_geti hX zl_X14_131 dX14_takeStop_15 g ?_
    refine zw_iconst (v := (1 : Int32)) hX dX14_takeStop_18 (by decide) ?_
    refine zw_iadd hX dX14_takeStop_19 ?_
    obtain ⟨S8, g, h⟩ := zb_some h
    refine zw_putv hX zl_X14_131 zt_14_10 dX14_takeStop_20 rfl rfl g ?_
    obtain rfl := Option.some.inj h
    exact zw_vret hX hr dX14_takeStop_23 ⟨rfl, rfl⟩
def zf_X14_look_L84 (N : Nat) : Nat → Nat → Int32 → Int32 → Int32 → Int32 → Int32 → zm_S → Option ((Int32 × zm_S) ⊕ ((Int32) × zm_S))
  | 0, _, _, _, _, _, _, _ => none
  | n + 1, a0, i1, i2, i3, i4, i5, S => if i3 = 0 then some (.inr (i4, S)) else (zg_r S a0 14 9).bind (fun b3 => (zg_i S a0 14 10).bind (fun v4 => (za_x S 0 b3 v4).bind (fun v5 => if v5 ≤ i5 then some (.inr (i4, S)) else (zg_r S a0 14 5).bind (fun b6 => (za_x S 0 b6 i5).bind (fun v7 => zf_X14_look_L84 N n a0 i1 i2 i3 ((((10 : Int32) * i4) + v7) - (48 : Int32)) (i5 + (1 : Int32)) S)))))
set_option maxHeartbeats 4000000 in
set_option maxRecDepth 100000 in
theorem zt_X14_look_L84 {p : Program} {l : Launch} {e : Env} {R : Room} {s : State} {m : MethodId} {args : Array Value} {below : List Frame} {meth : Method} {c : Code} {V : zm_V} {mc ms d rc rs : Nat} (hX : zm_X p R s m args meth c RX14 "look" cX14_look 6 zk_E V mc ms) (hr : meth.sig.returnType = (some .int)) (hR : R.frames = d ∧ R.locals = 64 * d) (hd : 2 ≤ d) {N : Nat} {res : (Int32 × zm_S) ⊕ ((Int32) × zm_S)} {out : (Int32 × zm_S)} (a0 : Nat) (i1 : Int32) (i2 : Int32) (i3 : Int32) (hf : ∀ o, res = .inl o → o = out) (hk : ∀ (x4 : Int32) (S' : zm_S), res = .inr (x4, S') → zw p l e R s m args below meth c (vx_MQ below (zm_Qc zk_E V (zo_i out)) (zm_XC zk_E V zo_x) args s mc ms (fun q => V.2.2.2.1 ≤ q)) 6 zk_E V mc ms 126 [(0, .ref a0), (1, .int i1), (2, .int i2), (3, .int i3), (4, .int x4)] [] S' rc rs) : ∀ (n : Nat) (i4 : Int32) (i5 : Int32) (S : zm_S), zf_X14_look_L84 N n a0 i1 i2 i3 i4 i5 S = some res → zw p l e R s m args below meth c (vx_MQ below (zm_Qc zk_E V (zo_i out)) (zm_XC zk_E V zo_x) args s mc ms (fun q => V.2.2.2.1 ≤ q)) 6 zk_E V mc ms 84 [(0, .ref a0), (1, .int i1), (2, .int i2), (3, .int i3), (4, .int i4), (5, .int i5)] [] S rc rs := by
  intro n
  induction n with
  | zero => intro i4 i5 S h; cases h
  | succ n ih =>
    intro i4 i5 S h
    rw [zf_X14_look_L84] at h
    refine zw_iload_n hX dX14_look_84 rfl ?_
    refine zw_if_eq (tgt := 126) hX dX14_look_85 (by decide) (fun c85 => ?_) (fun c85 => ?_)
    · rw [if_pos c85] at h
      refine zw_sub (lv' := [(0, .ref a0), (1, .int i1), (2, .int i2), (3, .int i3), (4, .int i4)]) (List.forall_mem_cons.mpr ⟨rfl, (List.forall_mem_cons.mpr ⟨rfl, (List.forall_mem_cons.mpr ⟨rfl, (List.forall_mem_cons.mpr ⟨rfl, (List.forall_mem_cons.mpr ⟨rfl, zs_nil⟩)⟩)⟩)⟩)⟩) ?_
      exact hk _ _ (Option.some.inj h).symm
    · rw [if_neg c85] at h
      refine zw_iload hX dX14_look_88 rfl ?_
      refine zw_aload_n hX dX14_look_90 rfl ?_
      obtain ⟨b3, g, h⟩ := zb_some h
      refine zw_getr hX zl_X14_26 dX14_look_91 g ?_
      refine zw_aload_n hX dX14_look_94 rfl ?_
      obtain ⟨v4, g, h⟩ := zb_some h
      refine zw_geti hX zl_X14_131 dX14_look_95 g ?_
      obtain ⟨v5, g, h⟩ := zb_some h
      refine zw_xi hX dX14_look_98 g ?_
      refine zw_icmp_ge (tgt := 126) hX dX14_look_99 (by decide) (fun c99 => ?_) (fun c99 => ?_)
      · rw [if_pos c99] at h
        refine zw_sub (lv' := [(0, .ref a0), (1, .int i1), (2, .int i2), (3, .int i3), (4, .int i4)]) (List.forall_mem_cons.mpr ⟨rfl, (List.forall_mem_cons.mpr ⟨rfl, (List.forall_mem_cons.mpr ⟨rfl, (List.forall_mem_cons.mpr ⟨rfl, (List.forall_mem_cons.mpr ⟨rfl, zs_nil⟩)⟩)⟩)⟩)⟩) ?_
        exact hk _ _ (Option.some.inj h).symm
      · rw [if_neg c99] at h
        refine zw_bipush (v := (10 : Int32)) hX dX14_look_102 (by decide) ?_
        refine zw_iload hX dX14_look_104 rfl ?_
        refine zw_imul hX dX14_look_106 ?_
        refine zw_aload_n hX dX14_look_107 rfl ?_
        obtain ⟨b6, g, h⟩ := zb_some h
        refine zw_getr hX zl_X14_20 dX14_look_108 g ?_
        refine zw_iload hX dX14_look_111 rfl ?_
        obtain ⟨v7, g, h⟩ := zb_some h
        refine zw_xi hX dX14_look_113 g ?_
        refine zw_iadd hX dX14_look_114 ?_
        refine zw_bipush (v := (48 : Int32)) hX dX14_look_115 (by decide) ?_
        refine zw_isub hX dX14_look_117 ?_
        refine zw_istore hX dX14_look_118 (by decide) ?_
        refine zw_iinc (v := (i5 + (1 : Int32))) hX dX14_look_120 rfl rfl (by decide) ?_
        refine zw_goto (tgt := 84) hX dX14_look_123 (by decide) ?_
        refine zw_sub (lv' := [(0, .ref a0), (1, .int i1), (2, .int i2), (3, .int i3), (4, .int ((((10 : Int32) * i4) + v7) - (48 : Int32))), (5, .int (i5 + (1 : Int32)))]) (List.forall_mem_cons.mpr ⟨rfl, (List.forall_mem_cons.mpr ⟨rfl, (List.forall_mem_cons.mpr ⟨rfl, (List.forall_mem_cons.mpr ⟨rfl, (List.forall_mem_cons.mpr ⟨rfl, (List.forall_mem_cons.mpr ⟨rfl, zs_nil⟩)⟩)⟩)⟩)⟩)⟩) ?_
        exact ih _ _ _ h
def zf_X14_look_J148 (N : Nat) (i4 : Int32) (t0 : Nat) (t1 : Int32) (S : zm_S) : Option (Int32 × zm_S) := (zi S t0 14).bind (fun _ => (zf_X14_want N t0 t1 S).bind (fun r12 => if r12.1 = 0 then some ((-1 : Int32), r12.2) else some (i4, r12.2)))
set_option maxHeartbeats 4000000 in
set_option maxRecDepth 100000 in
theorem zt_X14_look_J148 {p : Program} {l : Launch} {e : Env} {R : Room} {s : State} {m : MethodId} {args : Array Value} {below : List Frame} {meth : Method} {c : Code} {V : zm_V} {mc ms d rc rs : Nat} (hX : zm_X p R s m args meth c RX14 "look" cX14_look 6 zk_E V mc ms) (hr : meth.sig.returnType = (some .int)) (hR : R.frames = d ∧ R.locals = 64 * d) (hd : 2 ≤ d) {N : Nat} {i4 : Int32} {t0 : Nat} {t1 : Int32} {out : (Int32 × zm_S)} {S : zm_S} (h : zf_X14_look_J148 N i4 t0 t1 S = some out) : zw p l e R s m args below meth c (vx_MQ below (zm_Qc zk_E V (zo_i out)) (zm_XC zk_E V zo_x) args s mc ms (fun q => V.2.2.2.1 ≤ q)) 6 zk_E V mc ms 148 [(4, .int i4)] [.int t1, .ref t0] S rc rs := by
  unfold zf_X14_look_J148 at h
  obtain ⟨_, gi, h⟩ := zb_some h
  obtain ⟨r12, g, h⟩ := zb_some h
  refine zc_Vi (as := [.int t1]) hX gi (zt_X14_want (d := d - 1) (by omega) g) zl_X14_141 rfl dX14_look_148 ⟨rfl, rfl, Nat.le_of_ble_eq_true rfl⟩ ⟨by omega, by omega⟩ ?_
  refine zw_if_eq (tgt := 159) hX dX14_look_151 (by decide) (fun c151 => ?_) (fun c151 => ?_)
  · rw [if_pos c151] at h
    refine zw_iconst (v := (-1 : Int32)) hX dX14_look_159 (by decide) ?_
    obtain rfl := Option.some.inj h
    exact zw_iret hX hr dX14_look_160 rfl ⟨rfl, rfl⟩
  · rw [if_neg c151] at h
    refine zw_iload hX dX14_look_154 rfl ?_
    refine zw_goto (tgt := 160) hX dX14_look_156 (by decide) ?_
    obtain rfl := Option.some.inj h
    exact zw_iret hX hr dX14_look_160 rfl ⟨rfl, rfl⟩
def zf_X14_look_J147 (N : Nat) (i4 : Int32) (t0 : Nat) (S : zm_S) : Option (Int32 × zm_S) := zf_X14_look_J148 N i4 t0 (0 : Int32) S
set_option maxHeartbeats 4000000 in
set_option maxRecDepth 100000 in
theorem zt_X14_look_J147 {p : Program} {l : Launch} {e : Env} {R : Room} {s : State} {m : MethodId} {args : Array Value} {below : List Frame} {meth : Method} {c : Code} {V : zm_V} {mc ms d rc rs : Nat} (hX : zm_X p R s m args meth c RX14 "look" cX14_look 6 zk_E V mc ms) (hr : meth.sig.returnType = (some .int)) (hR : R.frames = d ∧ R.locals = 64 * d) (hd : 2 ≤ d) {N : Nat} {i4 : Int32} {t0 : Nat} {out : (Int32 × zm_S)} {S : zm_S} (h : zf_X14_look_J147 N i4 t0 S = some out) : zw p l e R s m args below meth c (vx_MQ below (zm_Qc zk_E V (zo_i out)) (zm_XC zk_E V zo_x) args s mc ms (fun q => V.2.2.2.1 ≤ q)) 6 zk_E V mc ms 147 [(4, .int i4)] [.ref t0] S rc rs := by
  unfold zf_X14_look_J147 at h
  refine zw_iconst (v := (0 : Int32)) hX dX14_look_147 (by decide) ?_
  refine zw_sub (lv' := [(4, .int i4)]) (List.forall_mem_cons.mpr ⟨rfl, zs_nil⟩) ?_
  exact zt_X14_look_J148 hX hr hR hd h
def zf_X14_look_J126 (N : Nat) (a0 : Nat) (i1 : Int32) (i2 : Int32) (i3 : Int32) (i4 : Int32) (S : zm_S) : Option (Int32 × zm_S) := if i3 = 0 then zf_X14_look_J147 N i4 a0 S else if i4 < i1 then zf_X14_look_J147 N i4 a0 S else if i2 < i4 then zf_X14_look_J147 N i4 a0 S else zf_X14_look_J148 N i4 a0 (1 : Int32) S
set_option maxHeartbeats 4000000 in
set_option maxRecDepth 100000 in
theorem zt_X14_look_J126 {p : Program} {l : Launch} {e : Env} {R : Room} {s : State} {m : MethodId} {args : Array Value} {below : List Frame} {meth : Method} {c : Code} {V : zm_V} {mc ms d rc rs : Nat} (hX : zm_X p R s m args meth c RX14 "look" cX14_look 6 zk_E V mc ms) (hr : meth.sig.returnType = (some .int)) (hR : R.frames = d ∧ R.locals = 64 * d) (hd : 2 ≤ d) {N : Nat} {a0 : Nat} {i1 : Int32} {i2 : Int32} {i3 : Int32} {i4 : Int32} {out : (Int32 × zm_S)} {S : zm_S} (h : zf_X14_look_J126 N a0 i1 i2 i3 i4 S = some out) : zw p l e R s m args below meth c (vx_MQ below (zm_Qc zk_E V (zo_i out)) (zm_XC zk_E V zo_x) args s mc ms (fun q => V.2.2.2.1 ≤ q)) 6 zk_E V mc ms 126 [(0, .ref a0), (1, .int i1), (2, .int i2), (3, .int i3), (4, .int i4)] [] S rc rs := by
  unfold zf_X14_look_J126 at h
  refine zw_aload_n hX dX14_look_126 rfl ?_
  refine zw_iload_n hX dX14_look_127 rfl ?_
  refine zw_if_eq (tgt := 147) hX dX14_look_128 (by decide) (fun c128 => ?_) (fun c128 => ?_)
  · rw [if_pos c128] at h
    refine zw_sub (lv' := [(4, .int i4)]) (List.forall_mem_cons.mpr ⟨rfl, zs_nil⟩) ?_
    exact zt_X14_look_J147 hX hr hR hd h
  · rw [if_neg c128] at h
    refine zw_iload hX dX14_look_131 rfl ?_
    refine zw_iload_n hX dX14_look_133 rfl ?_
    refine zw_icmp_lt (tgt := 147) hX dX14_look_134 (by decide) (fun c134 => ?_) (fun c134 => ?_)
    · rw [if_pos c134] at h
      refine zw_sub (lv' := [(4, .int i4)]) (List.forall_mem_cons.mpr ⟨rfl, zs_nil⟩) ?_
      exact zt_X14_look_J147 hX hr hR hd h
    · rw [if_neg c134] at h
      refine zw_iload hX dX14_look_137 rfl ?_
      refine zw_iload_n hX dX14_look_139 rfl ?_
      refine zw_icmp_gt (tgt := 147) hX dX14_look_140 (by decide) (fun c140 => ?_) (fun c140 => ?_)
      · rw [if_pos c140] at h
        refine zw_sub (lv' := [(4, .int i4)]) (List.forall_mem_cons.mpr ⟨rfl, zs_nil⟩) ?_
        exact zt_X14_look_J147 hX hr hR hd h
      · rw [if_neg c140] at h
        refine zw_iconst (v := (1 : Int32)) hX dX14_look_143 (by decide) ?_
        refine zw_goto (tgt := 148) hX dX14_look_144 (by decide) ?_
        refine zw_sub (lv' := [(4, .int i4)]) (List.forall_mem_cons.mpr ⟨rfl, zs_nil⟩) ?_
        exact zt_X14_look_J148 hX hr hR hd h
def zf_X14_look_J82 (N : Nat) (a0 : Nat) (i1 : Int32) (i2 : Int32) (i3 : Int32) (i4 : Int32) (t0 : Int32) (S : zm_S) : Option (Int32 × zm_S) := (zf_X14_look_L84 N N a0 i1 i2 i3 i4 t0 S).bind (fun r => match r with | .inl o => some o | .inr (v9, S8) => zf_X14_look_J126 N a0 i1 i2 i3 v9 S8)
set_option maxHeartbeats 4000000 in
set_option maxRecDepth 100000 in
theorem zt_X14_look_J82 {p : Program} {l : Launch} {e : Env} {R : Room} {s : State} {m : MethodId} {args : Array Value} {below : List Frame} {meth : Method} {c : Code} {V : zm_V} {mc ms d rc rs : Nat} (hX : zm_X p R s m args meth c RX14 "look" cX14_look 6 zk_E V mc ms) (hr : meth.sig.returnType = (some .int)) (hR : R.frames = d ∧ R.locals = 64 * d) (hd : 2 ≤ d) {N : Nat} {a0 : Nat} {i1 : Int32} {i2 : Int32} {i3 : Int32} {i4 : Int32} {t0 : Int32} {out : (Int32 × zm_S)} {S : zm_S} (h : zf_X14_look_J82 N a0 i1 i2 i3 i4 t0 S = some out) : zw p l e R s m args below meth c (vx_MQ below (zm_Qc zk_E V (zo_i out)) (zm_XC zk_E V zo_x) args s mc ms (fun q => V.2.2.2.1 ≤ q)) 6 zk_E V mc ms 82 [(0, .ref a0), (1, .int i1), (2, .int i2), (3, .int i3), (4, .int i4)] [.int t0] S rc rs := by
  unfold zf_X14_look_J82 at h
  refine zw_istore hX dX14_look_82 (by decide) ?_
  obtain ⟨r, g, h⟩ := zb_some h
  refine zw_sub (lv' := [(0, .ref a0), (1, .int i1), (2, .int i2), (3, .int i3), (4, .int i4), (5, .int t0)]) (List.forall_mem_cons.mpr ⟨rfl, (List.forall_mem_cons.mpr ⟨rfl, (List.forall_mem_cons.mpr ⟨rfl, (List.forall_mem_cons.mpr ⟨rfl, (List.forall_mem_cons.mpr ⟨rfl, (List.forall_mem_cons.mpr ⟨rfl, zs_nil⟩)⟩)⟩)⟩)⟩)⟩) ?_
  refine zt_X14_look_L84 hX hr hR hd (res := r) (out := out) a0 i1 i2 i3 ?_ ?_ N _ _ _ g
  · intro o ho
    subst ho
    exact Option.some.inj h
  · intro v9 S8 hx
    subst hx
    try dsimp only at h
    refine zw_sub (lv' := [(0, .ref a0), (1, .int i1), (2, .int i2), (3, .int i3), (4, .int v9)]) (List.forall_mem_cons.mpr ⟨rfl, (List.forall_mem_cons.mpr ⟨rfl, (List.forall_mem_cons.mpr ⟨rfl, (List.forall_mem_cons.mpr ⟨rfl, (List.forall_mem_cons.mpr ⟨rfl, zs_nil⟩)⟩)⟩)⟩)⟩) ?_
    exact zt_X14_look_J126 hX hr hR hd h
def zf_X14_look_J61 (N : Nat) (a0 : Nat) (i1 : Int32) (i2 : Int32) (t0 : Int32) (S : zm_S) : Option (Int32 × zm_S) := if t0 = 0 then zf_X14_look_J82 N a0 i1 i2 t0 (0 : Int32) (0 : Int32) S else (zg_r S a0 14 8).bind (fun b13 => (zg_i S a0 14 10).bind (fun v14 => (za_x S 0 b13 v14).bind (fun v15 => zf_X14_look_J82 N a0 i1 i2 t0 (0 : Int32) v15 S)))
set_option maxHeartbeats 4000000 in
set_option maxRecDepth 100000 in
theorem zt_X14_look_J61 {p : Program} {l : Launch} {e : Env} {R : Room} {s : State} {m : MethodId} {args : Array Value} {below : List Frame} {meth : Method} {c : Code} {V : zm_V} {mc ms d rc rs : Nat} (hX : zm_X p R s m args meth c RX14 "look" cX14_look 6 zk_E V mc ms) (hr : meth.sig.returnType = (some .int)) (hR : R.frames = d ∧ R.locals = 64 * d) (hd : 2 ≤ d) {N : Nat} {a0 : Nat} {i1 : Int32} {i2 : Int32} {t0 : Int32} {out : (Int32 × zm_S)} {S : zm_S} (h : zf_X14_look_J61 N a0 i1 i2 t0 S = some out) : zw p l e R s m args below meth c (vx_MQ below (zm_Qc zk_E V (zo_i out)) (zm_XC zk_E V zo_x) args s mc ms (fun q => V.2.2.2.1 ≤ q)) 6 zk_E V mc ms 61 [(0, .ref a0), (1, .int i1), (2, .int i2)] [.int t0] S rc rs := by
  unfold zf_X14_look_J61 at h
  refine zw_istore_n hX dX14_look_61 (by decide) ?_
  refine zw_iconst (v := (0 : Int32)) hX dX14_look_62 (by decide) ?_
  refine zw_istore hX dX14_look_63 (by decide) ?_
  refine zw_iload_n hX dX14_look_65 rfl ?_
  refine zw_if_eq (tgt := 81) hX dX14_look_66 (by decide) (fun c66 => ?_) (fun c66 => ?_)
  · rw [if_pos c66] at h
    refine zw_iconst (v := (0 : Int32)) hX dX14_look_81 (by decide) ?_
    refine zw_sub (lv' := [(0, .ref a0), (1, .int i1), (2, .int i2), (3, .int t0), (4, .int (0 : Int32))]) (List.forall_mem_cons.mpr ⟨rfl, (List.forall_mem_cons.mpr ⟨rfl, (List.forall_mem_cons.mpr ⟨rfl, (List.forall_mem_cons.mpr ⟨rfl, (List.forall_mem_cons.mpr ⟨rfl, zs_nil⟩)⟩)⟩)⟩)⟩) ?_
    exact zt_X14_look_J82 hX hr hR hd h
  · rw [if_neg c66] at h
    refine zw_aload_n hX dX14_look_69 rfl ?_
    obtain ⟨b13, g, h⟩ := zb_some h
    refine zw_getr hX zl_X14_23 dX14_look_70 g ?_
    refine zw_aload_n hX dX14_look_73 rfl ?_
    obtain ⟨v14, g, h⟩ := zb_some h
    refine zw_geti hX zl_X14_131 dX14_look_74 g ?_
    obtain ⟨v15, g, h⟩ := zb_some h
    refine zw_xi hX dX14_look_77 g ?_
    refine zw_goto (tgt := 82) hX dX14_look_78 (by decide) ?_
    refine zw_sub (lv' := [(0, .ref a0), (1, .int i1), (2, .int i2), (3, .int t0), (4, .int (0 : Int32))]) (List.forall_mem_cons.mpr ⟨rfl, (List.forall_mem_cons.mpr ⟨rfl, (List.forall_mem_cons.mpr ⟨rfl, (List.forall_mem_cons.mpr ⟨rfl, (List.forall_mem_cons.mpr ⟨rfl, zs_nil⟩)⟩)⟩)⟩)⟩) ?_
    exact zt_X14_look_J82 hX hr hR hd h
def zf_X14_look_J60 (N : Nat) (a0 : Nat) (i1 : Int32) (i2 : Int32) (S : zm_S) : Option (Int32 × zm_S) := zf_X14_look_J61 N a0 i1 i2 (0 : Int32) S
set_option maxHeartbeats 4000000 in
set_option maxRecDepth 100000 in
theorem zt_X14_look_J60 {p : Program} {l : Launch} {e : Env} {R : Room} {s : State} {m : MethodId} {args : Array Value} {below : List Frame} {meth : Method} {c : Code} {V : zm_V} {mc ms d rc rs : Nat} (hX : zm_X p R s m args meth c RX14 "look" cX14_look 6 zk_E V mc ms) (hr : meth.sig.returnType = (some .int)) (hR : R.frames = d ∧ R.locals = 64 * d) (hd : 2 ≤ d) {N : Nat} {a0 : Nat} {i1 : Int32} {i2 : Int32} {out : (Int32 × zm_S)} {S : zm_S} (h : zf_X14_look_J60 N a0 i1 i2 S = some out) : zw p l e R s m args below meth c (vx_MQ below (zm_Qc zk_E V (zo_i out)) (zm_XC zk_E V zo_x) args s mc ms (fun q => V.2.2.2.1 ≤ q)) 6 zk_E V mc ms 60 [(0, .ref a0), (1, .int i1), (2, .int i2)] [] S rc rs := by
  unfold zf_X14_look_J60 at h
  refine zw_iconst (v := (0 : Int32)) hX dX14_look_60 (by decide) ?_
  refine zw_sub (lv' := [(0, .ref a0), (1, .int i1), (2, .int i2)]) (List.forall_mem_cons.mpr ⟨rfl, (List.forall_mem_cons.mpr ⟨rfl, (List.forall_mem_cons.mpr ⟨rfl, zs_nil⟩)⟩)⟩) ?_
  exact zt_X14_look_J61 hX hr hR hd h
def zf_X14_look (N : Nat) (a0 : Nat) (i1 : Int32) (i2 : Int32) (S : zm_S) : Option (Int32 × zm_S) := (zg_i S a0 14 10).bind (fun v1 => (zg_i S a0 14 7).bind (fun v2 => if v2 ≤ v1 then zf_X14_look_J60 N a0 i1 i2 S else (zg_r S a0 14 5).bind (fun b16 => (zg_r S a0 14 8).bind (fun b17 => (zg_i S a0 14 10).bind (fun v18 => (za_x S 0 b17 v18).bind (fun v19 => (za_x S 0 b16 v19).bind (fun v20 => (zf_X14_sort N v20 S).bind (fun r23 => if r23.1 = (2 : Int32) then (zg_r r23.2 a0 14 9).bind (fun b24 => (zg_i r23.2 a0 14 10).bind (fun v25 => (za_x r23.2 0 b24 v25).bind (fun v26 => (zg_r r23.2 a0 14 8).bind (fun b27 => (zg_i r23.2 a0 14 10).bind (fun v28 => (za_x r23.2 0 b27 v28).bind (fun v29 => if (6 : Int32) < (v26 - v29) then zf_X14_look_J60 N a0 i1 i2 r23.2 else zf_X14_look_J61 N a0 i1 i2 (1 : Int32) r23.2)))))) else zf_X14_look_J60 N a0 i1 i2 r23.2))))))))
set_option maxHeartbeats 4000000 in
set_option maxRecDepth 100000 in
theorem zt_X14_look {l : Launch} {V : zm_V} {N : Nat} {S : zm_S} {out : (Int32 × zm_S)} {d : Nat} {a0 : Nat} {i1 : Int32} {i2 : Int32} (hd : 2 ≤ d) (h : zf_X14_look N a0 i1 i2 S = some out) : zm_Met l zk_E V yX14_look (.code yX14_look cX14_look 6 (some .int)) d [.ref a0, .int i1, .int i2] S 0 0 (zo_i out) zo_x := by
  refine zm_of (by decide +kernel) (Nat.le_of_ble_eq_true rfl) ?_
  intro p e R s m args below meth c hRR hX hr hxt
  have hR : R.frames = d ∧ R.locals = 64 * d := by rw [hRR]; exact ⟨rfl, rfl⟩
  have hX : zm_X p R s m args meth c RX14 "look" cX14_look 6 zk_E V 0 0 := hX
  unfold zf_X14_look at h
  refine zw_sub (lv' := [(0, .ref a0), (1, .int i1), (2, .int i2)]) (List.forall_mem_cons.mpr ⟨rfl, (List.forall_mem_cons.mpr ⟨rfl, (List.forall_mem_cons.mpr ⟨rfl, zs_nil⟩)⟩)⟩) ?_
  refine zw_aload_n hX dX14_look_0 rfl ?_
  obtain ⟨v1, g, h⟩ := zb_some h
  refine zw_geti hX zl_X14_131 dX14_look_1 g ?_
  refine zw_aload_n hX dX14_look_4 rfl ?_
  obtain ⟨v2, g, h⟩ := zb_some h
  refine zw_geti hX zl_X14_125 dX14_look_5 g ?_
  refine zw_icmp_ge (tgt := 60) hX dX14_look_8 (by decide) (fun c8 => ?_) (fun c8 => ?_)
  · rw [if_pos c8] at h
    refine zw_sub (lv' := [(0, .ref a0), (1, .int i1), (2, .int i2)]) (List.forall_mem_cons.mpr ⟨rfl, (List.forall_mem_cons.mpr ⟨rfl, (List.forall_mem_cons.mpr ⟨rfl, zs_nil⟩)⟩)⟩) ?_
    exact zt_X14_look_J60 hX hr hR hd h
  · rw [if_neg c8] at h
    refine zw_aload_n hX dX14_look_11 rfl ?_
    obtain ⟨b16, g, h⟩ := zb_some h
    refine zw_getr hX zl_X14_20 dX14_look_12 g ?_
    refine zw_aload_n hX dX14_look_15 rfl ?_
    obtain ⟨b17, g, h⟩ := zb_some h
    refine zw_getr hX zl_X14_23 dX14_look_16 g ?_
    refine zw_aload_n hX dX14_look_19 rfl ?_
    obtain ⟨v18, g, h⟩ := zb_some h
    refine zw_geti hX zl_X14_131 dX14_look_20 g ?_
    obtain ⟨v19, g, h⟩ := zb_some h
    refine zw_xi hX dX14_look_23 g ?_
    obtain ⟨v20, g, h⟩ := zb_some h
    refine zw_xi hX dX14_look_24 g ?_
    obtain ⟨r23, g, h⟩ := zb_some h
    refine zc_Si (as := [.int v20]) hX (zt_X14_sort (d := d - 1) (by omega) g) zl_X14_128 dX14_look_25 ⟨rfl, rfl, Nat.le_of_ble_eq_true rfl⟩ ⟨by omega, by omega⟩ ?_
    refine zw_iconst (v := (2 : Int32)) hX dX14_look_28 (by decide) ?_
    refine zw_icmp_ne (tgt := 60) hX dX14_look_29 (by decide) (fun c29 => ?_) (fun c29 => ?_)
    · rw [if_neg c29] at h
      refine zw_sub (lv' := [(0, .ref a0), (1, .int i1), (2, .int i2)]) (List.forall_mem_cons.mpr ⟨rfl, (List.forall_mem_cons.mpr ⟨rfl, (List.forall_mem_cons.mpr ⟨rfl, zs_nil⟩)⟩)⟩) ?_
      exact zt_X14_look_J60 hX hr hR hd h
    · rw [if_pos c29] at h
      refine zw_aload_n hX dX14_look_32 rfl ?_
      obtain ⟨b24, g, h⟩ := zb_some h
      refine zw_getr hX zl_X14_26 dX14_look_33 g ?_
      refine zw_aload_n hX dX14_look_36 rfl ?_
      obtain ⟨v25, g, h⟩ := zb_some h
      refine zw_geti hX zl_X14_131 dX14_look_37 g ?_
      obtain ⟨v26, g, h⟩ := zb_some h
      refine zw_xi hX dX14_look_40 g ?_
      refine zw_aload_n hX dX14_look_41 rfl ?_
      obtain ⟨b27, g, h⟩ := zb_some h
      refine zw_getr hX zl_X14_23 dX14_look_42 g ?_
      refine zw_aload_n hX dX14_look_45 rfl ?_
      obtain ⟨v28, g, h⟩ := zb_some h
      refine zw_geti hX zl_X14_131 dX14_look_46 g ?_
      obtain ⟨v29, g, h⟩ := zb_some h
      refine zw_xi hX dX14_look_49 g ?_
      refine zw_isub hX dX14_look_50 ?_
      refine zw_bipush (v := (6 : Int32)) hX dX14_look_51 (by decide) ?_
      refine zw_icmp_gt (tgt := 60) hX dX14_look_53 (by decide) (fun c53 => ?_) (fun c53 => ?_)
      · rw [if_pos c53] at h
        refine zw_sub (lv' := [(0, .ref a0), (1, .int i1), (2, .int i2)]) (List.forall_mem_cons.mpr ⟨rfl, (List.forall_mem_cons.mpr ⟨rfl, (List.forall_mem_cons.mpr ⟨rfl, zs_nil⟩)⟩)⟩) ?_
        exact zt_X14_look_J60 hX hr hR hd h
      · rw [if_neg c53] at h
        refine zw_iconst (v := (1 : Int32)) hX dX14_look_56 (by decide) ?_
        refine zw_goto (tgt := 61) hX dX14_look_57 (by decide) ?_
        refine zw_sub (lv' := [(0, .ref a0), (1, .int i1), (2, .int i2)]) (List.forall_mem_cons.mpr ⟨rfl, (List.forall_mem_cons.mpr ⟨rfl, (List.forall_mem_cons.mpr ⟨rfl, zs_nil⟩)⟩)⟩) ?_
        exact zt_X14_look_J61 hX hr hR hd h
