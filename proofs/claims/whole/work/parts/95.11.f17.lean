/-! ===== functions of methods, by program (wip/whole/tools/gen11.py) ===== -/
theorem dX16_between_0 : decode cX16_between 0 = .ok (.iload_n 1, 1) := by decide +kernel
theorem dX16_between_1 : decode cX16_between 1 = .ok (.iload_n 2, 1) := by decide +kernel
theorem dX16_between_2 : decode cX16_between 2 = .ok (.if_icmp .ne 14, 3) := by decide +kernel
theorem dX16_between_16 : decode cX16_between 16 = .ok (.aload_n 0, 1) := by decide +kernel
theorem dX16_between_17 : decode cX16_between 17 = .ok (.iload_n 1, 1) := by decide +kernel
theorem dX16_between_18 : decode cX16_between 18 = .ok (.iload_n 2, 1) := by decide +kernel
theorem dX16_between_19 : decode cX16_between 19 = .ok (.invokevirtual 236, 3) := by decide +kernel
theorem dX16_between_22 : decode cX16_between 22 = .ok (.ireturn, 1) := by decide +kernel
theorem dX16_between_5 : decode cX16_between 5 = .ok (.aload_n 0, 1) := by decide +kernel
theorem dX16_between_6 : decode cX16_between 6 = .ok (.iload_n 1, 1) := by decide +kernel
theorem dX16_between_7 : decode cX16_between 7 = .ok (.iload_n 1, 1) := by decide +kernel
theorem dX16_between_8 : decode cX16_between 8 = .ok (.invokevirtual 236, 3) := by decide +kernel
theorem dX16_between_11 : decode cX16_between 11 = .ok (.iconst 2, 1) := by decide +kernel
theorem dX16_between_12 : decode cX16_between 12 = .ok (.idiv, 1) := by decide +kernel
theorem dX16_between_13 : decode cX16_between 13 = .ok (.goto 9, 3) := by decide +kernel
theorem dX16_way_0 : decode cX16_way 0 = .ok (.iconst 0, 1) := by decide +kernel
theorem dX16_way_1 : decode cX16_way 1 = .ok (.istore_n 3, 1) := by decide +kernel
theorem dX16_way_2 : decode cX16_way 2 = .ok (.iload_n 3, 1) := by decide +kernel
theorem dX16_way_3 : decode cX16_way 3 = .ok (.aload_n 0, 1) := by decide +kernel
theorem dX16_way_4 : decode cX16_way 4 = .ok (.getfield 171, 3) := by decide +kernel
theorem dX16_way_7 : decode cX16_way 7 = .ok (.if_icmp .gt 29, 3) := by decide +kernel
theorem dX16_way_10 : decode cX16_way 10 = .ok (.aload_n 0, 1) := by decide +kernel
theorem dX16_way_11 : decode cX16_way 11 = .ok (.getfield 86, 3) := by decide +kernel
theorem dX16_way_14 : decode cX16_way 14 = .ok (.iload_n 3, 1) := by decide +kernel
theorem dX16_way_15 : decode cX16_way 15 = .ok (.iload_n 3, 1) := by decide +kernel
theorem dX16_way_16 : decode cX16_way 16 = .ok (.iload_n 1, 1) := by decide +kernel
theorem dX16_way_17 : decode cX16_way 17 = .ok (.iconst 1, 1) := by decide +kernel
theorem dX16_way_18 : decode cX16_way 18 = .ok (.iadd, 1) := by decide +kernel
theorem dX16_way_19 : decode cX16_way 19 = .ok (.if_icmp .ne 7, 3) := by decide +kernel
theorem dX16_way_26 : decode cX16_way 26 = .ok (.sipush 1000, 3) := by decide +kernel
theorem dX16_way_29 : decode cX16_way 29 = .ok (.iastore, 1) := by decide +kernel
theorem dX16_way_30 : decode cX16_way 30 = .ok (.iinc 3 1, 3) := by decide +kernel
theorem dX16_way_33 : decode cX16_way 33 = .ok (.goto (-31), 3) := by decide +kernel
theorem dX16_way_22 : decode cX16_way 22 = .ok (.iconst 0, 1) := by decide +kernel
theorem dX16_way_23 : decode cX16_way 23 = .ok (.goto 6, 3) := by decide +kernel
theorem dX16_way_36 : decode cX16_way 36 = .ok (.iconst 1, 1) := by decide +kernel
theorem dX16_way_37 : decode cX16_way 37 = .ok (.istore_n 3, 1) := by decide +kernel
theorem dX16_way_38 : decode cX16_way 38 = .ok (.iload_n 3, 1) := by decide +kernel
theorem dX16_way_39 : decode cX16_way 39 = .ok (.ifCond .eq 98, 3) := by decide +kernel
theorem dX16_way_42 : decode cX16_way 42 = .ok (.iconst 0, 1) := by decide +kernel
theorem dX16_way_43 : decode cX16_way 43 = .ok (.istore_n 3, 1) := by decide +kernel
theorem dX16_way_44 : decode cX16_way 44 = .ok (.iconst 0, 1) := by decide +kernel
theorem dX16_way_45 : decode cX16_way 45 = .ok (.istore 4, 2) := by decide +kernel
theorem dX16_way_47 : decode cX16_way 47 = .ok (.iload 4, 2) := by decide +kernel
theorem dX16_way_49 : decode cX16_way 49 = .ok (.iconst 2, 1) := by decide +kernel
theorem dX16_way_50 : decode cX16_way 50 = .ok (.aload_n 0, 1) := by decide +kernel
theorem dX16_way_51 : decode cX16_way 51 = .ok (.getfield 143, 3) := by decide +kernel
theorem dX16_way_54 : decode cX16_way 54 = .ok (.imul, 1) := by decide +kernel
theorem dX16_way_55 : decode cX16_way 55 = .ok (.if_icmp .ge 79, 3) := by decide +kernel
theorem dX16_way_58 : decode cX16_way 58 = .ok (.aload_n 0, 1) := by decide +kernel
theorem dX16_way_59 : decode cX16_way 59 = .ok (.iload 4, 2) := by decide +kernel
theorem dX16_way_61 : decode cX16_way 61 = .ok (.invokevirtual 239, 3) := by decide +kernel
theorem dX16_way_64 : decode cX16_way 64 = .ok (.ifCond .eq 64, 3) := by decide +kernel
theorem dX16_way_128 : decode cX16_way 128 = .ok (.iinc 4 1, 3) := by decide +kernel
theorem dX16_way_131 : decode cX16_way 131 = .ok (.goto (-84), 3) := by decide +kernel
theorem dX16_way_67 : decode cX16_way 67 = .ok (.aload_n 0, 1) := by decide +kernel
theorem dX16_way_68 : decode cX16_way 68 = .ok (.getfield 86, 3) := by decide +kernel
theorem dX16_way_71 : decode cX16_way 71 = .ok (.aload_n 0, 1) := by decide +kernel
theorem dX16_way_72 : decode cX16_way 72 = .ok (.iload 4, 2) := by decide +kernel
theorem dX16_way_74 : decode cX16_way 74 = .ok (.invokevirtual 153, 3) := by decide +kernel
theorem dX16_way_77 : decode cX16_way 77 = .ok (.iconst 1, 1) := by decide +kernel
theorem dX16_way_78 : decode cX16_way 78 = .ok (.iadd, 1) := by decide +kernel
theorem dX16_way_79 : decode cX16_way 79 = .ok (.iaload, 1) := by decide +kernel
theorem dX16_way_80 : decode cX16_way 80 = .ok (.iconst 1, 1) := by decide +kernel
theorem dX16_way_81 : decode cX16_way 81 = .ok (.iadd, 1) := by decide +kernel
theorem dX16_way_82 : decode cX16_way 82 = .ok (.aload_n 0, 1) := by decide +kernel
theorem dX16_way_83 : decode cX16_way 83 = .ok (.getfield 86, 3) := by decide +kernel
theorem dX16_way_86 : decode cX16_way 86 = .ok (.aload_n 0, 1) := by decide +kernel
theorem dX16_way_87 : decode cX16_way 87 = .ok (.iload 4, 2) := by decide +kernel
theorem dX16_way_89 : decode cX16_way 89 = .ok (.invokevirtual 227, 3) := by decide +kernel
theorem dX16_way_92 : decode cX16_way 92 = .ok (.iconst 1, 1) := by decide +kernel
theorem dX16_way_93 : decode cX16_way 93 = .ok (.iadd, 1) := by decide +kernel
theorem dX16_way_94 : decode cX16_way 94 = .ok (.iaload, 1) := by decide +kernel
theorem dX16_way_95 : decode cX16_way 95 = .ok (.if_icmp .ge 33, 3) := by decide +kernel
theorem dX16_way_98 : decode cX16_way 98 = .ok (.aload_n 0, 1) := by decide +kernel
theorem dX16_way_99 : decode cX16_way 99 = .ok (.getfield 86, 3) := by decide +kernel
theorem dX16_way_102 : decode cX16_way 102 = .ok (.aload_n 0, 1) := by decide +kernel
theorem dX16_way_103 : decode cX16_way 103 = .ok (.iload 4, 2) := by decide +kernel
theorem dX16_way_105 : decode cX16_way 105 = .ok (.invokevirtual 227, 3) := by decide +kernel
theorem dX16_way_108 : decode cX16_way 108 = .ok (.iconst 1, 1) := by decide +kernel
theorem dX16_way_109 : decode cX16_way 109 = .ok (.iadd, 1) := by decide +kernel
theorem dX16_way_110 : decode cX16_way 110 = .ok (.aload_n 0, 1) := by decide +kernel
theorem dX16_way_111 : decode cX16_way 111 = .ok (.getfield 86, 3) := by decide +kernel
theorem dX16_way_114 : decode cX16_way 114 = .ok (.aload_n 0, 1) := by decide +kernel
theorem dX16_way_115 : decode cX16_way 115 = .ok (.iload 4, 2) := by decide +kernel
theorem dX16_way_117 : decode cX16_way 117 = .ok (.invokevirtual 153, 3) := by decide +kernel
theorem dX16_way_120 : decode cX16_way 120 = .ok (.iconst 1, 1) := by decide +kernel
theorem dX16_way_121 : decode cX16_way 121 = .ok (.iadd, 1) := by decide +kernel
theorem dX16_way_122 : decode cX16_way 122 = .ok (.iaload, 1) := by decide +kernel
theorem dX16_way_123 : decode cX16_way 123 = .ok (.iconst 1, 1) := by decide +kernel
theorem dX16_way_124 : decode cX16_way 124 = .ok (.iadd, 1) := by decide +kernel
theorem dX16_way_125 : decode cX16_way 125 = .ok (.iastore, 1) := by decide +kernel
theorem dX16_way_126 : decode cX16_way 126 = .ok (.iconst 1, 1) := by decide +kernel
theorem dX16_way_127 : decode cX16_way 127 = .ok (.istore_n 3, 1) := by decide +kernel
theorem dX16_way_134 : decode cX16_way 134 = .ok (.goto (-96), 3) := by decide +kernel
theorem dX16_way_137 : decode cX16_way 137 = .ok (.aload_n 0, 1) := by decide +kernel
theorem dX16_way_138 : decode cX16_way 138 = .ok (.getfield 86, 3) := by decide +kernel
theorem dX16_way_141 : decode cX16_way 141 = .ok (.iload_n 2, 1) := by decide +kernel
theorem dX16_way_142 : decode cX16_way 142 = .ok (.iconst 1, 1) := by decide +kernel
theorem dX16_way_143 : decode cX16_way 143 = .ok (.iadd, 1) := by decide +kernel
theorem dX16_way_144 : decode cX16_way 144 = .ok (.iaload, 1) := by decide +kernel
theorem dX16_way_145 : decode cX16_way 145 = .ok (.sipush 1000, 3) := by decide +kernel
theorem dX16_way_148 : decode cX16_way 148 = .ok (.if_icmp .ne 8, 3) := by decide +kernel
theorem dX16_way_156 : decode cX16_way 156 = .ok (.aload_n 0, 1) := by decide +kernel
theorem dX16_way_157 : decode cX16_way 157 = .ok (.getfield 86, 3) := by decide +kernel
theorem dX16_way_160 : decode cX16_way 160 = .ok (.iload_n 2, 1) := by decide +kernel
theorem dX16_way_161 : decode cX16_way 161 = .ok (.iconst 1, 1) := by decide +kernel
theorem dX16_way_162 : decode cX16_way 162 = .ok (.iadd, 1) := by decide +kernel
theorem dX16_way_163 : decode cX16_way 163 = .ok (.iaload, 1) := by decide +kernel
theorem dX16_way_164 : decode cX16_way 164 = .ok (.ireturn, 1) := by decide +kernel
theorem dX16_way_151 : decode cX16_way 151 = .ok (.bipush (-2), 2) := by decide +kernel
theorem dX16_way_153 : decode cX16_way 153 = .ok (.goto 11, 3) := by decide +kernel
theorem dX16_pieceOf_0 : decode cX16_pieceOf 0 = .ok (.iload_n 2, 1) := by decide +kernel
theorem dX16_pieceOf_1 : decode cX16_pieceOf 1 = .ok (.istore_n 3, 1) := by decide +kernel
theorem dX16_pieceOf_2 : decode cX16_pieceOf 2 = .ok (.iconst 0, 1) := by decide +kernel
theorem dX16_pieceOf_3 : decode cX16_pieceOf 3 = .ok (.istore 4, 2) := by decide +kernel
theorem dX16_pieceOf_5 : decode cX16_pieceOf 5 = .ok (.iload 4, 2) := by decide +kernel
theorem dX16_pieceOf_7 : decode cX16_pieceOf 7 = .ok (.aload_n 0, 1) := by decide +kernel
theorem dX16_pieceOf_8 : decode cX16_pieceOf 8 = .ok (.getfield 143, 3) := by decide +kernel
theorem dX16_pieceOf_11 : decode cX16_pieceOf 11 = .ok (.if_icmp .ge 30, 3) := by decide +kernel
theorem dX16_pieceOf_14 : decode cX16_pieceOf 14 = .ok (.aload_n 0, 1) := by decide +kernel
theorem dX16_pieceOf_15 : decode cX16_pieceOf 15 = .ok (.getfield 65, 3) := by decide +kernel
theorem dX16_pieceOf_18 : decode cX16_pieceOf 18 = .ok (.iload 4, 2) := by decide +kernel
theorem dX16_pieceOf_20 : decode cX16_pieceOf 20 = .ok (.iaload, 1) := by decide +kernel
theorem dX16_pieceOf_21 : decode cX16_pieceOf 21 = .ok (.iload_n 1, 1) := by decide +kernel
theorem dX16_pieceOf_22 : decode cX16_pieceOf 22 = .ok (.if_icmp .ne 13, 3) := by decide +kernel
theorem dX16_pieceOf_35 : decode cX16_pieceOf 35 = .ok (.iinc 4 1, 3) := by decide +kernel
theorem dX16_pieceOf_38 : decode cX16_pieceOf 38 = .ok (.goto (-33), 3) := by decide +kernel
theorem dX16_pieceOf_25 : decode cX16_pieceOf 25 = .ok (.iload_n 3, 1) := by decide +kernel
theorem dX16_pieceOf_26 : decode cX16_pieceOf 26 = .ok (.ifCond .ne 6, 3) := by decide +kernel
theorem dX16_pieceOf_32 : decode cX16_pieceOf 32 = .ok (.iinc 3 (-1), 3) := by decide +kernel
theorem dX16_pieceOf_29 : decode cX16_pieceOf 29 = .ok (.iload 4, 2) := by decide +kernel
theorem dX16_pieceOf_31 : decode cX16_pieceOf 31 = .ok (.ireturn, 1) := by decide +kernel
theorem dX16_pieceOf_41 : decode cX16_pieceOf 41 = .ok (.iconst (-1), 1) := by decide +kernel
theorem dX16_pieceOf_42 : decode cX16_pieceOf 42 = .ok (.ireturn, 1) := by decide +kernel
theorem dX16_low_0 : decode cX16_low 0 = .ok (.aload_n 0, 1) := by decide +kernel
theorem dX16_low_1 : decode cX16_low 1 = .ok (.getfield 65, 3) := by decide +kernel
theorem dX16_low_4 : decode cX16_low 4 = .ok (.iload_n 1, 1) := by decide +kernel
theorem dX16_low_5 : decode cX16_low 5 = .ok (.iaload, 1) := by decide +kernel
theorem dX16_low_6 : decode cX16_low 6 = .ok (.istore_n 2, 1) := by decide +kernel
theorem dX16_low_7 : decode cX16_low 7 = .ok (.aload_n 0, 1) := by decide +kernel
theorem dX16_low_8 : decode cX16_low 8 = .ok (.getfield 59, 3) := by decide +kernel
theorem dX16_low_11 : decode cX16_low 11 = .ok (.aload_n 0, 1) := by decide +kernel
theorem dX16_low_12 : decode cX16_low 12 = .ok (.getfield 68, 3) := by decide +kernel
theorem dX16_low_15 : decode cX16_low 15 = .ok (.iload_n 1, 1) := by decide +kernel
theorem dX16_low_16 : decode cX16_low 16 = .ok (.iaload, 1) := by decide +kernel
theorem dX16_low_17 : decode cX16_low 17 = .ok (.iaload, 1) := by decide +kernel
theorem dX16_low_18 : decode cX16_low 18 = .ok (.aload_n 0, 1) := by decide +kernel
theorem dX16_low_19 : decode cX16_low 19 = .ok (.getfield 7, 3) := by decide +kernel
theorem dX16_low_22 : decode cX16_low 22 = .ok (.iload_n 2, 1) := by decide +kernel
theorem dX16_low_23 : decode cX16_low 23 = .ok (.iaload, 1) := by decide +kernel
theorem dX16_low_24 : decode cX16_low 24 = .ok (.isub, 1) := by decide +kernel
theorem dX16_low_25 : decode cX16_low 25 = .ok (.aload_n 0, 1) := by decide +kernel
theorem dX16_low_26 : decode cX16_low 26 = .ok (.getfield 62, 3) := by decide +kernel
theorem dX16_low_29 : decode cX16_low 29 = .ok (.aload_n 0, 1) := by decide +kernel
theorem dX16_low_30 : decode cX16_low 30 = .ok (.getfield 68, 3) := by decide +kernel
theorem dX16_low_33 : decode cX16_low 33 = .ok (.iload_n 1, 1) := by decide +kernel
theorem dX16_low_34 : decode cX16_low 34 = .ok (.iaload, 1) := by decide +kernel
theorem dX16_low_35 : decode cX16_low 35 = .ok (.iaload, 1) := by decide +kernel
theorem dX16_low_36 : decode cX16_low 36 = .ok (.iadd, 1) := by decide +kernel
theorem dX16_low_37 : decode cX16_low 37 = .ok (.aload_n 0, 1) := by decide +kernel
theorem dX16_low_38 : decode cX16_low 38 = .ok (.getfield 13, 3) := by decide +kernel
theorem dX16_low_41 : decode cX16_low 41 = .ok (.iload_n 2, 1) := by decide +kernel
theorem dX16_low_42 : decode cX16_low 42 = .ok (.iaload, 1) := by decide +kernel
theorem dX16_low_43 : decode cX16_low 43 = .ok (.isub, 1) := by decide +kernel
theorem dX16_low_44 : decode cX16_low 44 = .ok (.ireturn, 1) := by decide +kernel
theorem dX16_partFrom_0 : decode cX16_partFrom 0 = .ok (.bipush 6, 2) := by decide +kernel
theorem dX16_partFrom_2 : decode cX16_partFrom 2 = .ok (.aload_n 0, 1) := by decide +kernel
theorem dX16_partFrom_3 : decode cX16_partFrom 3 = .ok (.getfield 65, 3) := by decide +kernel
theorem dX16_partFrom_6 : decode cX16_partFrom 6 = .ok (.iload_n 1, 1) := by decide +kernel
theorem dX16_partFrom_7 : decode cX16_partFrom 7 = .ok (.iaload, 1) := by decide +kernel
theorem dX16_partFrom_8 : decode cX16_partFrom 8 = .ok (.imul, 1) := by decide +kernel
theorem dX16_partFrom_9 : decode cX16_partFrom 9 = .ok (.iload_n 2, 1) := by decide +kernel
theorem dX16_partFrom_10 : decode cX16_partFrom 10 = .ok (.iadd, 1) := by decide +kernel
theorem dX16_partFrom_11 : decode cX16_partFrom 11 = .ok (.istore_n 3, 1) := by decide +kernel
theorem dX16_partFrom_12 : decode cX16_partFrom 12 = .ok (.aload_n 0, 1) := by decide +kernel
theorem dX16_partFrom_13 : decode cX16_partFrom 13 = .ok (.iload_n 1, 1) := by decide +kernel
theorem dX16_partFrom_14 : decode cX16_partFrom 14 = .ok (.invokevirtual 242, 3) := by decide +kernel
theorem dX16_partFrom_17 : decode cX16_partFrom 17 = .ok (.aload_n 0, 1) := by decide +kernel
theorem dX16_partFrom_18 : decode cX16_partFrom 18 = .ok (.iload_n 1, 1) := by decide +kernel
theorem dX16_partFrom_19 : decode cX16_partFrom 19 = .ok (.invokevirtual 242, 3) := by decide +kernel
theorem dX16_partFrom_22 : decode cX16_partFrom 22 = .ok (.aload_n 0, 1) := by decide +kernel
theorem dX16_partFrom_23 : decode cX16_partFrom 23 = .ok (.iconst 2, 1) := by decide +kernel
theorem dX16_partFrom_24 : decode cX16_partFrom 24 = .ok (.iload_n 1, 1) := by decide +kernel
theorem dX16_partFrom_25 : decode cX16_partFrom 25 = .ok (.imul, 1) := by decide +kernel
theorem dX16_partFrom_26 : decode cX16_partFrom 26 = .ok (.invokevirtual 230, 3) := by decide +kernel
theorem dX16_partFrom_29 : decode cX16_partFrom 29 = .ok (.iadd, 1) := by decide +kernel
theorem dX16_partFrom_30 : decode cX16_partFrom 30 = .ok (.aload_n 0, 1) := by decide +kernel
theorem dX16_partFrom_31 : decode cX16_partFrom 31 = .ok (.getfield 26, 3) := by decide +kernel
theorem dX16_partFrom_34 : decode cX16_partFrom 34 = .ok (.iload_n 3, 1) := by decide +kernel
theorem dX16_partFrom_35 : decode cX16_partFrom 35 = .ok (.iaload, 1) := by decide +kernel
theorem dX16_partFrom_36 : decode cX16_partFrom 36 = .ok (.aload_n 0, 1) := by decide +kernel
theorem dX16_partFrom_37 : decode cX16_partFrom 37 = .ok (.getfield 29, 3) := by decide +kernel
theorem dX16_partFrom_40 : decode cX16_partFrom 40 = .ok (.iload_n 3, 1) := by decide +kernel
theorem dX16_partFrom_41 : decode cX16_partFrom 41 = .ok (.iaload, 1) := by decide +kernel
theorem dX16_partFrom_42 : decode cX16_partFrom 42 = .ok (.invokestatic 214, 3) := by decide +kernel
theorem dX16_partFrom_45 : decode cX16_partFrom 45 = .ok (.ifCond .le 7, 3) := by decide +kernel
theorem dX16_partFrom_52 : decode cX16_partFrom 52 = .ok (.iconst 0, 1) := by decide +kernel
theorem dX16_partFrom_53 : decode cX16_partFrom 53 = .ok (.istore 4, 2) := by decide +kernel
theorem dX16_partFrom_55 : decode cX16_partFrom 55 = .ok (.iload 4, 2) := by decide +kernel
theorem dX16_partFrom_57 : decode cX16_partFrom 57 = .ok (.ifCond .ne 7, 3) := by decide +kernel
theorem dX16_partFrom_64 : decode cX16_partFrom 64 = .ok (.aload_n 0, 1) := by decide +kernel
theorem dX16_partFrom_65 : decode cX16_partFrom 65 = .ok (.iload_n 1, 1) := by decide +kernel
theorem dX16_partFrom_66 : decode cX16_partFrom 66 = .ok (.invokevirtual 242, 3) := by decide +kernel
theorem dX16_partFrom_69 : decode cX16_partFrom 69 = .ok (.aload_n 0, 1) := by decide +kernel
theorem dX16_partFrom_70 : decode cX16_partFrom 70 = .ok (.getfield 26, 3) := by decide +kernel
theorem dX16_partFrom_73 : decode cX16_partFrom 73 = .ok (.iload_n 3, 1) := by decide +kernel
theorem dX16_partFrom_74 : decode cX16_partFrom 74 = .ok (.iaload, 1) := by decide +kernel
theorem dX16_partFrom_75 : decode cX16_partFrom 75 = .ok (.if_icmp .le 11, 3) := by decide +kernel
theorem dX16_partFrom_86 : decode cX16_partFrom 86 = .ok (.aload_n 0, 1) := by decide +kernel
theorem dX16_partFrom_87 : decode cX16_partFrom 87 = .ok (.getfield 26, 3) := by decide +kernel
theorem dX16_partFrom_90 : decode cX16_partFrom 90 = .ok (.iload_n 3, 1) := by decide +kernel
theorem dX16_partFrom_91 : decode cX16_partFrom 91 = .ok (.iaload, 1) := by decide +kernel
theorem dX16_partFrom_92 : decode cX16_partFrom 92 = .ok (.ireturn, 1) := by decide +kernel
theorem dX16_partFrom_78 : decode cX16_partFrom 78 = .ok (.aload_n 0, 1) := by decide +kernel
theorem dX16_partFrom_79 : decode cX16_partFrom 79 = .ok (.iload_n 1, 1) := by decide +kernel
theorem dX16_partFrom_80 : decode cX16_partFrom 80 = .ok (.invokevirtual 242, 3) := by decide +kernel
theorem dX16_partFrom_83 : decode cX16_partFrom 83 = .ok (.goto 9, 3) := by decide +kernel
theorem dX16_partFrom_60 : decode cX16_partFrom 60 = .ok (.iconst (-1), 1) := by decide +kernel
theorem dX16_partFrom_61 : decode cX16_partFrom 61 = .ok (.goto 31, 3) := by decide +kernel
theorem dX16_partFrom_48 : decode cX16_partFrom 48 = .ok (.iconst 1, 1) := by decide +kernel
theorem dX16_partFrom_49 : decode cX16_partFrom 49 = .ok (.goto 4, 3) := by decide +kernel
theorem dX16_roomBeside_0 : decode cX16_roomBeside 0 = .ok (.iload_n 2, 1) := by decide +kernel
theorem dX16_roomBeside_1 : decode cX16_roomBeside 1 = .ok (.ifCond .eq 13, 3) := by decide +kernel
theorem dX16_roomBeside_14 : decode cX16_roomBeside 14 = .ok (.aload_n 0, 1) := by decide +kernel
theorem dX16_roomBeside_15 : decode cX16_roomBeside 15 = .ok (.iconst 2, 1) := by decide +kernel
theorem dX16_roomBeside_16 : decode cX16_roomBeside 16 = .ok (.iload_n 1, 1) := by decide +kernel
theorem dX16_roomBeside_17 : decode cX16_roomBeside 17 = .ok (.imul, 1) := by decide +kernel
theorem dX16_roomBeside_18 : decode cX16_roomBeside 18 = .ok (.invokevirtual 227, 3) := by decide +kernel
theorem dX16_roomBeside_21 : decode cX16_roomBeside 21 = .ok (.ireturn, 1) := by decide +kernel
theorem dX16_roomBeside_4 : decode cX16_roomBeside 4 = .ok (.aload_n 0, 1) := by decide +kernel
theorem dX16_roomBeside_5 : decode cX16_roomBeside 5 = .ok (.iconst 2, 1) := by decide +kernel
theorem dX16_roomBeside_6 : decode cX16_roomBeside 6 = .ok (.iload_n 1, 1) := by decide +kernel
theorem dX16_roomBeside_7 : decode cX16_roomBeside 7 = .ok (.imul, 1) := by decide +kernel
theorem dX16_roomBeside_8 : decode cX16_roomBeside 8 = .ok (.invokevirtual 153, 3) := by decide +kernel
theorem dX16_roomBeside_11 : decode cX16_roomBeside 11 = .ok (.goto 10, 3) := by decide +kernel
theorem dX16_cellAt_0 : decode cX16_cellAt 0 = .ok (.aload_n 0, 1) := by decide +kernel
theorem dX16_cellAt_1 : decode cX16_cellAt 1 = .ok (.getfield 16, 3) := by decide +kernel
theorem dX16_cellAt_4 : decode cX16_cellAt 4 = .ok (.iload_n 1, 1) := by decide +kernel
theorem dX16_cellAt_5 : decode cX16_cellAt 5 = .ok (.baload, 1) := by decide +kernel
theorem dX16_cellAt_6 : decode cX16_cellAt 6 = .ok (.ifCond .eq 36, 3) := by decide +kernel
theorem dX16_cellAt_42 : decode cX16_cellAt 42 = .ok (.iload 4, 2) := by decide +kernel
theorem dX16_cellAt_44 : decode cX16_cellAt 44 = .ok (.ifCond .eq 22, 3) := by decide +kernel
theorem dX16_cellAt_66 : decode cX16_cellAt 66 = .ok (.aload_n 0, 1) := by decide +kernel
theorem dX16_cellAt_67 : decode cX16_cellAt 67 = .ok (.getfield 13, 3) := by decide +kernel
theorem dX16_cellAt_70 : decode cX16_cellAt 70 = .ok (.iload_n 1, 1) := by decide +kernel
theorem dX16_cellAt_71 : decode cX16_cellAt 71 = .ok (.iaload, 1) := by decide +kernel
theorem dX16_cellAt_72 : decode cX16_cellAt 72 = .ok (.iload_n 2, 1) := by decide +kernel
theorem dX16_cellAt_73 : decode cX16_cellAt 73 = .ok (.iadd, 1) := by decide +kernel
theorem dX16_cellAt_74 : decode cX16_cellAt 74 = .ok (.ireturn, 1) := by decide +kernel
theorem dX16_cellAt_47 : decode cX16_cellAt 47 = .ok (.aload_n 0, 1) := by decide +kernel
theorem dX16_cellAt_48 : decode cX16_cellAt 48 = .ok (.getfield 7, 3) := by decide +kernel
theorem dX16_cellAt_51 : decode cX16_cellAt 51 = .ok (.iload_n 1, 1) := by decide +kernel
theorem dX16_cellAt_52 : decode cX16_cellAt 52 = .ok (.iaload, 1) := by decide +kernel
theorem dX16_cellAt_53 : decode cX16_cellAt 53 = .ok (.iload_n 3, 1) := by decide +kernel
theorem dX16_cellAt_54 : decode cX16_cellAt 54 = .ok (.ifCond .eq 7, 3) := by decide +kernel
theorem dX16_cellAt_61 : decode cX16_cellAt 61 = .ok (.iconst 0, 1) := by decide +kernel
theorem dX16_cellAt_62 : decode cX16_cellAt 62 = .ok (.isub, 1) := by decide +kernel
theorem dX16_cellAt_63 : decode cX16_cellAt 63 = .ok (.goto 11, 3) := by decide +kernel
theorem dX16_cellAt_57 : decode cX16_cellAt 57 = .ok (.iconst 1, 1) := by decide +kernel
theorem dX16_cellAt_58 : decode cX16_cellAt 58 = .ok (.goto 4, 3) := by decide +kernel
theorem dX16_cellAt_9 : decode cX16_cellAt 9 = .ok (.iload 4, 2) := by decide +kernel
theorem dX16_cellAt_11 : decode cX16_cellAt 11 = .ok (.ifCond .eq 14, 3) := by decide +kernel
theorem dX16_cellAt_25 : decode cX16_cellAt 25 = .ok (.aload_n 0, 1) := by decide +kernel
theorem dX16_cellAt_26 : decode cX16_cellAt 26 = .ok (.getfield 13, 3) := by decide +kernel
theorem dX16_cellAt_29 : decode cX16_cellAt 29 = .ok (.iload_n 1, 1) := by decide +kernel
theorem dX16_cellAt_30 : decode cX16_cellAt 30 = .ok (.iaload, 1) := by decide +kernel
theorem dX16_cellAt_31 : decode cX16_cellAt 31 = .ok (.iload_n 3, 1) := by decide +kernel
theorem dX16_cellAt_32 : decode cX16_cellAt 32 = .ok (.ifCond .eq 7, 3) := by decide +kernel
theorem dX16_cellAt_39 : decode cX16_cellAt 39 = .ok (.iconst 1, 1) := by decide +kernel
theorem dX16_cellAt_40 : decode cX16_cellAt 40 = .ok (.isub, 1) := by decide +kernel
theorem dX16_cellAt_41 : decode cX16_cellAt 41 = .ok (.ireturn, 1) := by decide +kernel
theorem dX16_cellAt_35 : decode cX16_cellAt 35 = .ok (.iconst 0, 1) := by decide +kernel
theorem dX16_cellAt_36 : decode cX16_cellAt 36 = .ok (.goto 4, 3) := by decide +kernel
theorem dX16_cellAt_14 : decode cX16_cellAt 14 = .ok (.aload_n 0, 1) := by decide +kernel
theorem dX16_cellAt_15 : decode cX16_cellAt 15 = .ok (.getfield 7, 3) := by decide +kernel
theorem dX16_cellAt_18 : decode cX16_cellAt 18 = .ok (.iload_n 1, 1) := by decide +kernel
theorem dX16_cellAt_19 : decode cX16_cellAt 19 = .ok (.iaload, 1) := by decide +kernel
theorem dX16_cellAt_20 : decode cX16_cellAt 20 = .ok (.iload_n 2, 1) := by decide +kernel
theorem dX16_cellAt_21 : decode cX16_cellAt 21 = .ok (.iadd, 1) := by decide +kernel
theorem dX16_cellAt_22 : decode cX16_cellAt 22 = .ok (.goto 19, 3) := by decide +kernel
theorem dX16_lineBetween_0 : decode cX16_lineBetween 0 = .ok (.iconst (-1), 1) := by decide +kernel
theorem dX16_lineBetween_1 : decode cX16_lineBetween 1 = .ok (.istore 4, 2) := by decide +kernel
theorem dX16_lineBetween_3 : decode cX16_lineBetween 3 = .ok (.iconst 0, 1) := by decide +kernel
theorem dX16_lineBetween_4 : decode cX16_lineBetween 4 = .ok (.istore 5, 2) := by decide +kernel
theorem dX16_lineBetween_6 : decode cX16_lineBetween 6 = .ok (.iload 5, 2) := by decide +kernel
theorem dX16_lineBetween_8 : decode cX16_lineBetween 8 = .ok (.aload_n 0, 1) := by decide +kernel
theorem dX16_lineBetween_9 : decode cX16_lineBetween 9 = .ok (.getfield 96, 3) := by decide +kernel
theorem dX16_lineBetween_12 : decode cX16_lineBetween 12 = .ok (.if_icmp .ge 174, 3) := by decide +kernel
theorem dX16_lineBetween_15 : decode cX16_lineBetween 15 = .ok (.iload_n 3, 1) := by decide +kernel
theorem dX16_lineBetween_16 : decode cX16_lineBetween 16 = .ok (.iconst 2, 1) := by decide +kernel
theorem dX16_lineBetween_17 : decode cX16_lineBetween 17 = .ok (.if_icmp .ge 7, 3) := by decide +kernel
theorem dX16_lineBetween_24 : decode cX16_lineBetween 24 = .ok (.iconst 0, 1) := by decide +kernel
theorem dX16_lineBetween_25 : decode cX16_lineBetween 25 = .ok (.istore 6, 2) := by decide +kernel
theorem dX16_lineBetween_27 : decode cX16_lineBetween 27 = .ok (.iload_n 3, 1) := by decide +kernel
theorem dX16_lineBetween_28 : decode cX16_lineBetween 28 = .ok (.ifCond .ne 9, 3) := by decide +kernel
theorem dX16_lineBetween_37 : decode cX16_lineBetween 37 = .ok (.iload_n 3, 1) := by decide +kernel
theorem dX16_lineBetween_38 : decode cX16_lineBetween 38 = .ok (.iconst 1, 1) := by decide +kernel
theorem dX16_lineBetween_39 : decode cX16_lineBetween 39 = .ok (.if_icmp .ne 7, 3) := by decide +kernel
theorem dX16_lineBetween_46 : decode cX16_lineBetween 46 = .ok (.iload_n 3, 1) := by decide +kernel
theorem dX16_lineBetween_47 : decode cX16_lineBetween 47 = .ok (.iconst 2, 1) := by decide +kernel
theorem dX16_lineBetween_48 : decode cX16_lineBetween 48 = .ok (.if_icmp .ne 9, 3) := by decide +kernel
theorem dX16_lineBetween_57 : decode cX16_lineBetween 57 = .ok (.iload_n 2, 1) := by decide +kernel
theorem dX16_lineBetween_58 : decode cX16_lineBetween 58 = .ok (.istore 7, 2) := by decide +kernel
theorem dX16_lineBetween_60 : decode cX16_lineBetween 60 = .ok (.iload 6, 2) := by decide +kernel
theorem dX16_lineBetween_62 : decode cX16_lineBetween 62 = .ok (.ifCond .eq 54, 3) := by decide +kernel
theorem dX16_lineBetween_116 : decode cX16_lineBetween 116 = .ok (.aload_n 0, 1) := by decide +kernel
theorem dX16_lineBetween_117 : decode cX16_lineBetween 117 = .ok (.getfield 16, 3) := by decide +kernel
theorem dX16_lineBetween_120 : decode cX16_lineBetween 120 = .ok (.iload 5, 2) := by decide +kernel
theorem dX16_lineBetween_122 : decode cX16_lineBetween 122 = .ok (.baload, 1) := by decide +kernel
theorem dX16_lineBetween_123 : decode cX16_lineBetween 123 = .ok (.ifCond .eq 40, 3) := by decide +kernel
theorem dX16_lineBetween_163 : decode cX16_lineBetween 163 = .ok (.iconst 0, 1) := by decide +kernel
theorem dX16_lineBetween_164 : decode cX16_lineBetween 164 = .ok (.istore 8, 2) := by decide +kernel
theorem dX16_lineBetween_166 : decode cX16_lineBetween 166 = .ok (.iload 8, 2) := by decide +kernel
theorem dX16_lineBetween_168 : decode cX16_lineBetween 168 = .ok (.ifCond .eq 8, 3) := by decide +kernel
theorem dX16_lineBetween_176 : decode cX16_lineBetween 176 = .ok (.iload 4, 2) := by decide +kernel
theorem dX16_lineBetween_178 : decode cX16_lineBetween 178 = .ok (.istore 4, 2) := by decide +kernel
theorem dX16_lineBetween_180 : decode cX16_lineBetween 180 = .ok (.iinc 5 1, 3) := by decide +kernel
theorem dX16_lineBetween_183 : decode cX16_lineBetween 183 = .ok (.goto (-177), 3) := by decide +kernel
theorem dX16_lineBetween_171 : decode cX16_lineBetween 171 = .ok (.iload 5, 2) := by decide +kernel
theorem dX16_lineBetween_173 : decode cX16_lineBetween 173 = .ok (.goto 5, 3) := by decide +kernel
theorem dX16_lineBetween_126 : decode cX16_lineBetween 126 = .ok (.aload_n 0, 1) := by decide +kernel
theorem dX16_lineBetween_127 : decode cX16_lineBetween 127 = .ok (.getfield 13, 3) := by decide +kernel
theorem dX16_lineBetween_130 : decode cX16_lineBetween 130 = .ok (.iload 5, 2) := by decide +kernel
theorem dX16_lineBetween_132 : decode cX16_lineBetween 132 = .ok (.iaload, 1) := by decide +kernel
theorem dX16_lineBetween_133 : decode cX16_lineBetween 133 = .ok (.iload 7, 2) := by decide +kernel
theorem dX16_lineBetween_135 : decode cX16_lineBetween 135 = .ok (.if_icmp .ne 28, 3) := by decide +kernel
theorem dX16_lineBetween_138 : decode cX16_lineBetween 138 = .ok (.aload_n 0, 1) := by decide +kernel
theorem dX16_lineBetween_139 : decode cX16_lineBetween 139 = .ok (.getfield 7, 3) := by decide +kernel
theorem dX16_lineBetween_142 : decode cX16_lineBetween 142 = .ok (.iload 5, 2) := by decide +kernel
theorem dX16_lineBetween_144 : decode cX16_lineBetween 144 = .ok (.iaload, 1) := by decide +kernel
theorem dX16_lineBetween_145 : decode cX16_lineBetween 145 = .ok (.iload_n 1, 1) := by decide +kernel
theorem dX16_lineBetween_146 : decode cX16_lineBetween 146 = .ok (.if_icmp .gt 17, 3) := by decide +kernel
theorem dX16_lineBetween_149 : decode cX16_lineBetween 149 = .ok (.aload_n 0, 1) := by decide +kernel
theorem dX16_lineBetween_150 : decode cX16_lineBetween 150 = .ok (.iload 5, 2) := by decide +kernel
theorem dX16_lineBetween_152 : decode cX16_lineBetween 152 = .ok (.invokevirtual 89, 3) := by decide +kernel
theorem dX16_lineBetween_155 : decode cX16_lineBetween 155 = .ok (.iload_n 1, 1) := by decide +kernel
theorem dX16_lineBetween_156 : decode cX16_lineBetween 156 = .ok (.if_icmp .le 7, 3) := by decide +kernel
theorem dX16_lineBetween_159 : decode cX16_lineBetween 159 = .ok (.iconst 1, 1) := by decide +kernel
theorem dX16_lineBetween_160 : decode cX16_lineBetween 160 = .ok (.goto 4, 3) := by decide +kernel
theorem dX16_lineBetween_65 : decode cX16_lineBetween 65 = .ok (.aload_n 0, 1) := by decide +kernel
theorem dX16_lineBetween_66 : decode cX16_lineBetween 66 = .ok (.getfield 16, 3) := by decide +kernel
theorem dX16_lineBetween_69 : decode cX16_lineBetween 69 = .ok (.iload 5, 2) := by decide +kernel
theorem dX16_lineBetween_71 : decode cX16_lineBetween 71 = .ok (.baload, 1) := by decide +kernel
theorem dX16_lineBetween_72 : decode cX16_lineBetween 72 = .ok (.ifCond .ne 40, 3) := by decide +kernel
theorem dX16_lineBetween_112 : decode cX16_lineBetween 112 = .ok (.iconst 0, 1) := by decide +kernel
theorem dX16_lineBetween_113 : decode cX16_lineBetween 113 = .ok (.goto 51, 3) := by decide +kernel
theorem dX16_lineBetween_75 : decode cX16_lineBetween 75 = .ok (.aload_n 0, 1) := by decide +kernel
theorem dX16_lineBetween_76 : decode cX16_lineBetween 76 = .ok (.getfield 7, 3) := by decide +kernel
theorem dX16_lineBetween_79 : decode cX16_lineBetween 79 = .ok (.iload 5, 2) := by decide +kernel
theorem dX16_lineBetween_81 : decode cX16_lineBetween 81 = .ok (.iaload, 1) := by decide +kernel
theorem dX16_lineBetween_82 : decode cX16_lineBetween 82 = .ok (.iload 7, 2) := by decide +kernel
theorem dX16_lineBetween_84 : decode cX16_lineBetween 84 = .ok (.if_icmp .ne 28, 3) := by decide +kernel
theorem dX16_lineBetween_87 : decode cX16_lineBetween 87 = .ok (.aload_n 0, 1) := by decide +kernel
theorem dX16_lineBetween_88 : decode cX16_lineBetween 88 = .ok (.getfield 13, 3) := by decide +kernel
theorem dX16_lineBetween_91 : decode cX16_lineBetween 91 = .ok (.iload 5, 2) := by decide +kernel
theorem dX16_lineBetween_93 : decode cX16_lineBetween 93 = .ok (.iaload, 1) := by decide +kernel
theorem dX16_lineBetween_94 : decode cX16_lineBetween 94 = .ok (.iload_n 2, 1) := by decide +kernel
theorem dX16_lineBetween_95 : decode cX16_lineBetween 95 = .ok (.if_icmp .gt 17, 3) := by decide +kernel
theorem dX16_lineBetween_98 : decode cX16_lineBetween 98 = .ok (.aload_n 0, 1) := by decide +kernel
theorem dX16_lineBetween_99 : decode cX16_lineBetween 99 = .ok (.iload 5, 2) := by decide +kernel
theorem dX16_lineBetween_101 : decode cX16_lineBetween 101 = .ok (.invokevirtual 93, 3) := by decide +kernel
theorem dX16_lineBetween_104 : decode cX16_lineBetween 104 = .ok (.iload_n 2, 1) := by decide +kernel
theorem dX16_lineBetween_105 : decode cX16_lineBetween 105 = .ok (.if_icmp .le 7, 3) := by decide +kernel
theorem dX16_lineBetween_108 : decode cX16_lineBetween 108 = .ok (.iconst 1, 1) := by decide +kernel
theorem dX16_lineBetween_109 : decode cX16_lineBetween 109 = .ok (.goto 55, 3) := by decide +kernel
theorem dX16_lineBetween_51 : decode cX16_lineBetween 51 = .ok (.iload_n 2, 1) := by decide +kernel
theorem dX16_lineBetween_52 : decode cX16_lineBetween 52 = .ok (.iconst 1, 1) := by decide +kernel
theorem dX16_lineBetween_53 : decode cX16_lineBetween 53 = .ok (.iadd, 1) := by decide +kernel
theorem dX16_lineBetween_54 : decode cX16_lineBetween 54 = .ok (.goto 4, 3) := by decide +kernel
theorem dX16_lineBetween_42 : decode cX16_lineBetween 42 = .ok (.iload_n 1, 1) := by decide +kernel
theorem dX16_lineBetween_43 : decode cX16_lineBetween 43 = .ok (.goto 15, 3) := by decide +kernel
theorem dX16_lineBetween_31 : decode cX16_lineBetween 31 = .ok (.iload_n 1, 1) := by decide +kernel
theorem dX16_lineBetween_32 : decode cX16_lineBetween 32 = .ok (.iconst 1, 1) := by decide +kernel
theorem dX16_lineBetween_33 : decode cX16_lineBetween 33 = .ok (.iadd, 1) := by decide +kernel
theorem dX16_lineBetween_34 : decode cX16_lineBetween 34 = .ok (.goto 24, 3) := by decide +kernel
theorem dX16_lineBetween_20 : decode cX16_lineBetween 20 = .ok (.iconst 1, 1) := by decide +kernel
theorem dX16_lineBetween_21 : decode cX16_lineBetween 21 = .ok (.goto 4, 3) := by decide +kernel
theorem dX16_lineBetween_186 : decode cX16_lineBetween 186 = .ok (.iload 4, 2) := by decide +kernel
theorem dX16_lineBetween_188 : decode cX16_lineBetween 188 = .ok (.ireturn, 1) := by decide +kernel
theorem dX16_isThere_0 : decode cX16_isThere 0 = .ok (.aload_n 0, 1) := by decide +kernel
theorem dX16_isThere_1 : decode cX16_isThere 1 = .ok (.getfield 16, 3) := by decide +kernel
theorem dX16_isThere_4 : decode cX16_isThere 4 = .ok (.iload_n 1, 1) := by decide +kernel
theorem dX16_isThere_5 : decode cX16_isThere 5 = .ok (.baload, 1) := by decide +kernel
theorem dX16_isThere_6 : decode cX16_isThere 6 = .ok (.ifCond .eq 14, 3) := by decide +kernel
theorem dX16_isThere_20 : decode cX16_isThere 20 = .ok (.iload 4, 2) := by decide +kernel
theorem dX16_isThere_22 : decode cX16_isThere 22 = .ok (.aload_n 0, 1) := by decide +kernel
theorem dX16_isThere_23 : decode cX16_isThere 23 = .ok (.getfield 13, 3) := by decide +kernel
theorem dX16_isThere_26 : decode cX16_isThere 26 = .ok (.iload_n 1, 1) := by decide +kernel
theorem dX16_isThere_27 : decode cX16_isThere 27 = .ok (.iaload, 1) := by decide +kernel
theorem dX16_isThere_28 : decode cX16_isThere 28 = .ok (.isub, 1) := by decide +kernel
theorem dX16_isThere_29 : decode cX16_isThere 29 = .ok (.istore 5, 2) := by decide +kernel
theorem dX16_isThere_31 : decode cX16_isThere 31 = .ok (.aload_n 0, 1) := by decide +kernel
theorem dX16_isThere_32 : decode cX16_isThere 32 = .ok (.getfield 26, 3) := by decide +kernel
theorem dX16_isThere_35 : decode cX16_isThere 35 = .ok (.bipush 6, 2) := by decide +kernel
theorem dX16_isThere_37 : decode cX16_isThere 37 = .ok (.iload_n 1, 1) := by decide +kernel
theorem dX16_isThere_38 : decode cX16_isThere 38 = .ok (.imul, 1) := by decide +kernel
theorem dX16_isThere_39 : decode cX16_isThere 39 = .ok (.iload_n 2, 1) := by decide +kernel
theorem dX16_isThere_40 : decode cX16_isThere 40 = .ok (.iadd, 1) := by decide +kernel
theorem dX16_isThere_41 : decode cX16_isThere 41 = .ok (.iaload, 1) := by decide +kernel
theorem dX16_isThere_42 : decode cX16_isThere 42 = .ok (.iload 5, 2) := by decide +kernel
theorem dX16_isThere_44 : decode cX16_isThere 44 = .ok (.if_icmp .gt 23, 3) := by decide +kernel
theorem dX16_isThere_67 : decode cX16_isThere 67 = .ok (.iconst 0, 1) := by decide +kernel
theorem dX16_isThere_68 : decode cX16_isThere 68 = .ok (.ireturn, 1) := by decide +kernel
theorem dX16_isThere_47 : decode cX16_isThere 47 = .ok (.iload 5, 2) := by decide +kernel
theorem dX16_isThere_49 : decode cX16_isThere 49 = .ok (.aload_n 0, 1) := by decide +kernel
theorem dX16_isThere_50 : decode cX16_isThere 50 = .ok (.getfield 29, 3) := by decide +kernel
theorem dX16_isThere_53 : decode cX16_isThere 53 = .ok (.bipush 6, 2) := by decide +kernel
theorem dX16_isThere_55 : decode cX16_isThere 55 = .ok (.iload_n 1, 1) := by decide +kernel
theorem dX16_isThere_56 : decode cX16_isThere 56 = .ok (.imul, 1) := by decide +kernel
theorem dX16_isThere_57 : decode cX16_isThere 57 = .ok (.iload_n 2, 1) := by decide +kernel
theorem dX16_isThere_58 : decode cX16_isThere 58 = .ok (.iadd, 1) := by decide +kernel
theorem dX16_isThere_59 : decode cX16_isThere 59 = .ok (.iaload, 1) := by decide +kernel
theorem dX16_isThere_60 : decode cX16_isThere 60 = .ok (.if_icmp .ge 7, 3) := by decide +kernel
theorem dX16_isThere_63 : decode cX16_isThere 63 = .ok (.iconst 1, 1) := by decide +kernel
theorem dX16_isThere_64 : decode cX16_isThere 64 = .ok (.goto 4, 3) := by decide +kernel
theorem dX16_isThere_9 : decode cX16_isThere 9 = .ok (.iload_n 3, 1) := by decide +kernel
theorem dX16_isThere_10 : decode cX16_isThere 10 = .ok (.aload_n 0, 1) := by decide +kernel
theorem dX16_isThere_11 : decode cX16_isThere 11 = .ok (.getfield 7, 3) := by decide +kernel
theorem dX16_isThere_14 : decode cX16_isThere 14 = .ok (.iload_n 1, 1) := by decide +kernel
theorem dX16_isThere_15 : decode cX16_isThere 15 = .ok (.iaload, 1) := by decide +kernel
theorem dX16_isThere_16 : decode cX16_isThere 16 = .ok (.isub, 1) := by decide +kernel
theorem dX16_isThere_17 : decode cX16_isThere 17 = .ok (.goto 12, 3) := by decide +kernel
theorem dX17_init_0 : decode cX17_init 0 = .ok (.aload_n 0, 1) := by decide +kernel
theorem dX17_init_1 : decode cX17_init 1 = .ok (.invokespecial 1, 3) := by decide +kernel
theorem dX17_init_4 : decode cX17_init 4 = .ok (.aload_n 0, 1) := by decide +kernel
theorem dX17_init_5 : decode cX17_init 5 = .ok (.bipush 40, 2) := by decide +kernel
theorem dX17_init_7 : decode cX17_init 7 = .ok (.newarray .int, 2) := by decide +kernel
theorem dX17_init_9 : decode cX17_init 9 = .ok (.putfield 7, 3) := by decide +kernel
theorem dX17_init_12 : decode cX17_init 12 = .ok (.aload_n 0, 1) := by decide +kernel
theorem dX17_init_13 : decode cX17_init 13 = .ok (.bipush 40, 2) := by decide +kernel
theorem dX17_init_15 : decode cX17_init 15 = .ok (.newarray .int, 2) := by decide +kernel
theorem dX17_init_17 : decode cX17_init 17 = .ok (.putfield 13, 3) := by decide +kernel
theorem dX17_init_20 : decode cX17_init 20 = .ok (.aload_n 0, 1) := by decide +kernel
theorem dX17_init_21 : decode cX17_init 21 = .ok (.bipush 40, 2) := by decide +kernel
theorem dX17_init_23 : decode cX17_init 23 = .ok (.newarray .int, 2) := by decide +kernel
theorem dX17_init_25 : decode cX17_init 25 = .ok (.putfield 16, 3) := by decide +kernel
theorem dX17_init_28 : decode cX17_init 28 = .ok (.aload_n 0, 1) := by decide +kernel
theorem dX17_init_29 : decode cX17_init 29 = .ok (.bipush 40, 2) := by decide +kernel
theorem dX17_init_31 : decode cX17_init 31 = .ok (.newarray .int, 2) := by decide +kernel
theorem dX17_init_33 : decode cX17_init 33 = .ok (.putfield 19, 3) := by decide +kernel
theorem dX17_init_36 : decode cX17_init 36 = .ok (.aload_n 0, 1) := by decide +kernel
theorem dX17_init_37 : decode cX17_init 37 = .ok (.bipush 120, 2) := by decide +kernel
theorem dX17_init_39 : decode cX17_init 39 = .ok (.newarray .int, 2) := by decide +kernel
theorem dX17_init_41 : decode cX17_init 41 = .ok (.putfield 22, 3) := by decide +kernel
theorem dX17_init_44 : decode cX17_init 44 = .ok (.aload_n 0, 1) := by decide +kernel
theorem dX17_init_45 : decode cX17_init 45 = .ok (.sipush 320, 3) := by decide +kernel
theorem dX17_init_48 : decode cX17_init 48 = .ok (.newarray .int, 2) := by decide +kernel
theorem dX17_init_50 : decode cX17_init 50 = .ok (.putfield 25, 3) := by decide +kernel
theorem dX17_init_53 : decode cX17_init 53 = .ok (.aload_n 0, 1) := by decide +kernel
theorem dX17_init_54 : decode cX17_init 54 = .ok (.bipush 40, 2) := by decide +kernel
theorem dX17_init_56 : decode cX17_init 56 = .ok (.newarray .int, 2) := by decide +kernel
theorem dX17_init_58 : decode cX17_init 58 = .ok (.putfield 28, 3) := by decide +kernel
theorem dX17_init_61 : decode cX17_init 61 = .ok (.aload_n 0, 1) := by decide +kernel
theorem dX17_init_62 : decode cX17_init 62 = .ok (.bipush 40, 2) := by decide +kernel
theorem dX17_init_64 : decode cX17_init 64 = .ok (.newarray .int, 2) := by decide +kernel
theorem dX17_init_66 : decode cX17_init 66 = .ok (.putfield 31, 3) := by decide +kernel
theorem dX17_init_69 : decode cX17_init 69 = .ok (.aload_n 0, 1) := by decide +kernel
theorem dX17_init_70 : decode cX17_init 70 = .ok (.bipush 40, 2) := by decide +kernel
theorem dX17_init_72 : decode cX17_init 72 = .ok (.newarray .int, 2) := by decide +kernel
theorem dX17_init_74 : decode cX17_init 74 = .ok (.putfield 34, 3) := by decide +kernel
theorem dX17_init_77 : decode cX17_init 77 = .ok (.aload_n 0, 1) := by decide +kernel
theorem dX17_init_78 : decode cX17_init 78 = .ok (.bipush 40, 2) := by decide +kernel
theorem dX17_init_80 : decode cX17_init 80 = .ok (.newarray .boolean, 2) := by decide +kernel
theorem dX17_init_82 : decode cX17_init 82 = .ok (.putfield 37, 3) := by decide +kernel
theorem dX17_init_85 : decode cX17_init 85 = .ok (.aload_n 0, 1) := by decide +kernel
theorem dX17_init_86 : decode cX17_init 86 = .ok (.bipush 40, 2) := by decide +kernel
theorem dX17_init_88 : decode cX17_init 88 = .ok (.newarray .int, 2) := by decide +kernel
theorem dX17_init_90 : decode cX17_init 90 = .ok (.putfield 41, 3) := by decide +kernel
theorem dX17_init_93 : decode cX17_init 93 = .ok (.aload_n 0, 1) := by decide +kernel
theorem dX17_init_94 : decode cX17_init 94 = .ok (.bipush 10, 2) := by decide +kernel
theorem dX17_init_96 : decode cX17_init 96 = .ok (.newarray .int, 2) := by decide +kernel
theorem dX17_init_98 : decode cX17_init 98 = .ok (.putfield 44, 3) := by decide +kernel
theorem dX17_init_101 : decode cX17_init 101 = .ok (.aload_n 0, 1) := by decide +kernel
theorem dX17_init_102 : decode cX17_init 102 = .ok (.bipush 40, 2) := by decide +kernel
theorem dX17_init_104 : decode cX17_init 104 = .ok (.newarray .int, 2) := by decide +kernel
theorem dX17_init_106 : decode cX17_init 106 = .ok (.putfield 47, 3) := by decide +kernel
theorem dX17_init_109 : decode cX17_init 109 = .ok (.aload_n 0, 1) := by decide +kernel
theorem dX17_init_110 : decode cX17_init 110 = .ok (.bipush 40, 2) := by decide +kernel
theorem dX17_init_112 : decode cX17_init 112 = .ok (.newarray .int, 2) := by decide +kernel
theorem dX17_init_114 : decode cX17_init 114 = .ok (.putfield 50, 3) := by decide +kernel
theorem dX17_init_117 : decode cX17_init 117 = .ok (.aload_n 0, 1) := by decide +kernel
theorem dX17_init_118 : decode cX17_init 118 = .ok (.bipush 40, 2) := by decide +kernel
theorem dX17_init_120 : decode cX17_init 120 = .ok (.newarray .boolean, 2) := by decide +kernel
theorem dX17_init_122 : decode cX17_init 122 = .ok (.putfield 53, 3) := by decide +kernel
theorem dX17_init_125 : decode cX17_init 125 = .ok (.aload_n 0, 1) := by decide +kernel
theorem dX17_init_126 : decode cX17_init 126 = .ok (.iconst 4, 1) := by decide +kernel
theorem dX17_init_127 : decode cX17_init 127 = .ok (.newarray .int, 2) := by decide +kernel
theorem dX17_init_129 : decode cX17_init 129 = .ok (.putfield 56, 3) := by decide +kernel
theorem dX17_init_132 : decode cX17_init 132 = .ok (.return_, 1) := by decide +kernel
theorem dX17_inputs_0 : decode cX17_inputs 0 = .ok (.iload_n 0, 1) := by decide +kernel
theorem dX17_inputs_1 : decode cX17_inputs 1 = .ok (.iconst 2, 1) := by decide +kernel
theorem dX17_inputs_2 : decode cX17_inputs 2 = .ok (.if_icmp .lt 9, 3) := by decide +kernel
theorem dX17_inputs_11 : decode cX17_inputs 11 = .ok (.iconst 0, 1) := by decide +kernel
theorem dX17_inputs_12 : decode cX17_inputs 12 = .ok (.ireturn, 1) := by decide +kernel
theorem dX17_inputs_5 : decode cX17_inputs 5 = .ok (.iload_n 0, 1) := by decide +kernel
theorem dX17_inputs_6 : decode cX17_inputs 6 = .ok (.bipush 20, 2) := by decide +kernel
theorem dX17_inputs_8 : decode cX17_inputs 8 = .ok (.if_icmp .ne 5, 3) := by decide +kernel
theorem dX17_inputs_13 : decode cX17_inputs 13 = .ok (.iload_n 0, 1) := by decide +kernel
theorem dX17_inputs_14 : decode cX17_inputs 14 = .ok (.bipush 14, 2) := by decide +kernel
theorem dX17_inputs_16 : decode cX17_inputs 16 = .ok (.if_icmp .ne 5, 3) := by decide +kernel
theorem dX17_inputs_21 : decode cX17_inputs 21 = .ok (.iload_n 0, 1) := by decide +kernel
theorem dX17_inputs_22 : decode cX17_inputs 22 = .ok (.bipush 13, 2) := by decide +kernel
theorem dX17_inputs_24 : decode cX17_inputs 24 = .ok (.if_icmp .lt 27, 3) := by decide +kernel
theorem dX17_inputs_51 : decode cX17_inputs 51 = .ok (.iconst 2, 1) := by decide +kernel
theorem dX17_inputs_52 : decode cX17_inputs 52 = .ok (.goto 4, 3) := by decide +kernel
theorem dX17_inputs_56 : decode cX17_inputs 56 = .ok (.ireturn, 1) := by decide +kernel
theorem dX17_inputs_27 : decode cX17_inputs 27 = .ok (.iload_n 0, 1) := by decide +kernel
theorem dX17_inputs_28 : decode cX17_inputs 28 = .ok (.bipush 18, 2) := by decide +kernel
theorem dX17_inputs_30 : decode cX17_inputs 30 = .ok (.if_icmp .eq 21, 3) := by decide +kernel
theorem dX17_inputs_33 : decode cX17_inputs 33 = .ok (.iload_n 0, 1) := by decide +kernel
theorem dX17_inputs_34 : decode cX17_inputs 34 = .ok (.bipush 19, 2) := by decide +kernel
theorem dX17_inputs_36 : decode cX17_inputs 36 = .ok (.if_icmp .eq 15, 3) := by decide +kernel
theorem dX17_inputs_39 : decode cX17_inputs 39 = .ok (.iload_n 0, 1) := by decide +kernel
theorem dX17_inputs_40 : decode cX17_inputs 40 = .ok (.bipush 23, 2) := by decide +kernel
theorem dX17_inputs_42 : decode cX17_inputs 42 = .ok (.if_icmp .eq 9, 3) := by decide +kernel
theorem dX17_inputs_45 : decode cX17_inputs 45 = .ok (.iload_n 0, 1) := by decide +kernel
theorem dX17_inputs_46 : decode cX17_inputs 46 = .ok (.bipush 24, 2) := by decide +kernel
theorem dX17_inputs_48 : decode cX17_inputs 48 = .ok (.if_icmp .ne 7, 3) := by decide +kernel
theorem dX17_inputs_55 : decode cX17_inputs 55 = .ok (.iconst 1, 1) := by decide +kernel
theorem dX17_inputs_19 : decode cX17_inputs 19 = .ok (.iconst 3, 1) := by decide +kernel
theorem dX17_inputs_20 : decode cX17_inputs 20 = .ok (.ireturn, 1) := by decide +kernel
theorem dX17_mayCome_0 : decode cX17_mayCome 0 = .ok (.iconst 1, 1) := by decide +kernel
theorem dX17_mayCome_1 : decode cX17_mayCome 1 = .ok (.istore_n 2, 1) := by decide +kernel
theorem dX17_mayCome_2 : decode cX17_mayCome 2 = .ok (.iconst 0, 1) := by decide +kernel
theorem dX17_mayCome_3 : decode cX17_mayCome 3 = .ok (.istore_n 3, 1) := by decide +kernel
theorem dX17_mayCome_4 : decode cX17_mayCome 4 = .ok (.iload_n 3, 1) := by decide +kernel
theorem dX17_mayCome_5 : decode cX17_mayCome 5 = .ok (.aload_n 0, 1) := by decide +kernel
theorem dX17_mayCome_6 : decode cX17_mayCome 6 = .ok (.getfield 7, 3) := by decide +kernel
theorem dX17_mayCome_9 : decode cX17_mayCome 9 = .ok (.iload_n 1, 1) := by decide +kernel
theorem dX17_mayCome_10 : decode cX17_mayCome 10 = .ok (.iaload, 1) := by decide +kernel
theorem dX17_mayCome_11 : decode cX17_mayCome 11 = .ok (.invokestatic 59, 3) := by decide +kernel
theorem dX17_mayCome_14 : decode cX17_mayCome 14 = .ok (.if_icmp .ge 57, 3) := by decide +kernel
theorem dX17_mayCome_17 : decode cX17_mayCome 17 = .ok (.aload_n 0, 1) := by decide +kernel
theorem dX17_mayCome_18 : decode cX17_mayCome 18 = .ok (.getfield 7, 3) := by decide +kernel
theorem dX17_mayCome_21 : decode cX17_mayCome 21 = .ok (.iload_n 1, 1) := by decide +kernel
theorem dX17_mayCome_22 : decode cX17_mayCome 22 = .ok (.iaload, 1) := by decide +kernel
theorem dX17_mayCome_23 : decode cX17_mayCome 23 = .ok (.bipush 16, 2) := by decide +kernel
theorem dX17_mayCome_25 : decode cX17_mayCome 25 = .ok (.if_icmp .eq 46, 3) := by decide +kernel
theorem dX17_mayCome_28 : decode cX17_mayCome 28 = .ok (.aload_n 0, 1) := by decide +kernel
theorem dX17_mayCome_29 : decode cX17_mayCome 29 = .ok (.getfield 22, 3) := by decide +kernel
theorem dX17_mayCome_32 : decode cX17_mayCome 32 = .ok (.iconst 3, 1) := by decide +kernel
theorem dX17_mayCome_33 : decode cX17_mayCome 33 = .ok (.iload_n 1, 1) := by decide +kernel
theorem dX17_mayCome_34 : decode cX17_mayCome 34 = .ok (.imul, 1) := by decide +kernel
theorem dX17_mayCome_35 : decode cX17_mayCome 35 = .ok (.iload_n 3, 1) := by decide +kernel
theorem dX17_mayCome_36 : decode cX17_mayCome 36 = .ok (.iadd, 1) := by decide +kernel
theorem dX17_mayCome_37 : decode cX17_mayCome 37 = .ok (.iaload, 1) := by decide +kernel
theorem dX17_mayCome_38 : decode cX17_mayCome 38 = .ok (.istore 4, 2) := by decide +kernel
theorem dX17_mayCome_40 : decode cX17_mayCome 40 = .ok (.iload_n 2, 1) := by decide +kernel
theorem dX17_mayCome_41 : decode cX17_mayCome 41 = .ok (.ifCond .eq 22, 3) := by decide +kernel
theorem dX17_mayCome_63 : decode cX17_mayCome 63 = .ok (.iconst 0, 1) := by decide +kernel
theorem dX17_mayCome_64 : decode cX17_mayCome 64 = .ok (.istore_n 2, 1) := by decide +kernel
theorem dX17_mayCome_65 : decode cX17_mayCome 65 = .ok (.iinc 3 1, 3) := by decide +kernel
theorem dX17_mayCome_68 : decode cX17_mayCome 68 = .ok (.goto (-64), 3) := by decide +kernel
theorem dX17_mayCome_44 : decode cX17_mayCome 44 = .ok (.iload 4, 2) := by decide +kernel
theorem dX17_mayCome_46 : decode cX17_mayCome 46 = .ok (.ifCond .lt 13, 3) := by decide +kernel
theorem dX17_mayCome_59 : decode cX17_mayCome 59 = .ok (.iconst 1, 1) := by decide +kernel
theorem dX17_mayCome_60 : decode cX17_mayCome 60 = .ok (.goto 4, 3) := by decide +kernel
theorem dX17_mayCome_49 : decode cX17_mayCome 49 = .ok (.aload_n 0, 1) := by decide +kernel
theorem dX17_mayCome_50 : decode cX17_mayCome 50 = .ok (.getfield 53, 3) := by decide +kernel
theorem dX17_mayCome_53 : decode cX17_mayCome 53 = .ok (.iload 4, 2) := by decide +kernel
theorem dX17_mayCome_55 : decode cX17_mayCome 55 = .ok (.baload, 1) := by decide +kernel
theorem dX17_mayCome_56 : decode cX17_mayCome 56 = .ok (.ifCond .eq 7, 3) := by decide +kernel
theorem dX17_mayCome_71 : decode cX17_mayCome 71 = .ok (.iload_n 2, 1) := by decide +kernel
theorem dX17_mayCome_72 : decode cX17_mayCome 72 = .ok (.ireturn, 1) := by decide +kernel
theorem dX17_sort_0 : decode cX17_sort 0 = .ok (.iconst 0, 1) := by decide +kernel
theorem dX17_sort_1 : decode cX17_sort 1 = .ok (.istore_n 1, 1) := by decide +kernel
theorem dX17_sort_2 : decode cX17_sort 2 = .ok (.iload_n 1, 1) := by decide +kernel
theorem dX17_sort_3 : decode cX17_sort 3 = .ok (.aload_n 0, 1) := by decide +kernel
theorem dX17_sort_4 : decode cX17_sort 4 = .ok (.getfield 63, 3) := by decide +kernel
theorem dX17_sort_7 : decode cX17_sort 7 = .ok (.if_icmp .ge 16, 3) := by decide +kernel
theorem dX17_sort_10 : decode cX17_sort 10 = .ok (.aload_n 0, 1) := by decide +kernel
theorem dX17_sort_11 : decode cX17_sort 11 = .ok (.getfield 53, 3) := by decide +kernel
theorem dX17_sort_14 : decode cX17_sort 14 = .ok (.iload_n 1, 1) := by decide +kernel
theorem dX17_sort_15 : decode cX17_sort 15 = .ok (.iconst 0, 1) := by decide +kernel
theorem dX17_sort_16 : decode cX17_sort 16 = .ok (.bastore, 1) := by decide +kernel
theorem dX17_sort_17 : decode cX17_sort 17 = .ok (.iinc 1 1, 3) := by decide +kernel
theorem dX17_sort_20 : decode cX17_sort 20 = .ok (.goto (-18), 3) := by decide +kernel
theorem dX17_sort_23 : decode cX17_sort 23 = .ok (.iconst 0, 1) := by decide +kernel
theorem dX17_sort_24 : decode cX17_sort 24 = .ok (.istore_n 1, 1) := by decide +kernel
theorem dX17_sort_25 : decode cX17_sort 25 = .ok (.iconst 1, 1) := by decide +kernel
theorem dX17_sort_26 : decode cX17_sort 26 = .ok (.istore_n 2, 1) := by decide +kernel
theorem dX17_sort_27 : decode cX17_sort 27 = .ok (.iload_n 2, 1) := by decide +kernel
theorem dX17_sort_28 : decode cX17_sort 28 = .ok (.ifCond .eq 84, 3) := by decide +kernel
theorem dX17_sort_31 : decode cX17_sort 31 = .ok (.iconst (-1), 1) := by decide +kernel
theorem dX17_sort_32 : decode cX17_sort 32 = .ok (.istore_n 3, 1) := by decide +kernel
theorem dX17_sort_33 : decode cX17_sort 33 = .ok (.aload_n 0, 1) := by decide +kernel
theorem dX17_sort_34 : decode cX17_sort 34 = .ok (.getfield 63, 3) := by decide +kernel
theorem dX17_sort_37 : decode cX17_sort 37 = .ok (.iconst 1, 1) := by decide +kernel
theorem dX17_sort_38 : decode cX17_sort 38 = .ok (.isub, 1) := by decide +kernel
theorem dX17_sort_39 : decode cX17_sort 39 = .ok (.istore 4, 2) := by decide +kernel
theorem dX17_sort_41 : decode cX17_sort 41 = .ok (.iload 4, 2) := by decide +kernel
theorem dX17_sort_43 : decode cX17_sort 43 = .ok (.ifCond .lt 35, 3) := by decide +kernel
theorem dX17_sort_46 : decode cX17_sort 46 = .ok (.aload_n 0, 1) := by decide +kernel
theorem dX17_sort_47 : decode cX17_sort 47 = .ok (.getfield 53, 3) := by decide +kernel
theorem dX17_sort_50 : decode cX17_sort 50 = .ok (.iload 4, 2) := by decide +kernel
theorem dX17_sort_52 : decode cX17_sort 52 = .ok (.baload, 1) := by decide +kernel
theorem dX17_sort_53 : decode cX17_sort 53 = .ok (.ifCond .ne 17, 3) := by decide +kernel
theorem dX17_sort_70 : decode cX17_sort 70 = .ok (.iload_n 3, 1) := by decide +kernel
theorem dX17_sort_71 : decode cX17_sort 71 = .ok (.istore_n 3, 1) := by decide +kernel
theorem dX17_sort_72 : decode cX17_sort 72 = .ok (.iinc 4 (-1), 3) := by decide +kernel
theorem dX17_sort_75 : decode cX17_sort 75 = .ok (.goto (-34), 3) := by decide +kernel
theorem dX17_sort_56 : decode cX17_sort 56 = .ok (.aload_n 0, 1) := by decide +kernel
theorem dX17_sort_57 : decode cX17_sort 57 = .ok (.iload 4, 2) := by decide +kernel
theorem dX17_sort_59 : decode cX17_sort 59 = .ok (.invokevirtual 67, 3) := by decide +kernel
theorem dX17_sort_62 : decode cX17_sort 62 = .ok (.ifCond .eq 8, 3) := by decide +kernel
theorem dX17_sort_65 : decode cX17_sort 65 = .ok (.iload 4, 2) := by decide +kernel
theorem dX17_sort_67 : decode cX17_sort 67 = .ok (.goto 4, 3) := by decide +kernel
theorem dX17_sort_78 : decode cX17_sort 78 = .ok (.iload_n 3, 1) := by decide +kernel
theorem dX17_sort_79 : decode cX17_sort 79 = .ok (.ifCond .lt 7, 3) := by decide +kernel
theorem dX17_sort_86 : decode cX17_sort 86 = .ok (.iconst 0, 1) := by decide +kernel
theorem dX17_sort_87 : decode cX17_sort 87 = .ok (.istore_n 2, 1) := by decide +kernel
theorem dX17_sort_88 : decode cX17_sort 88 = .ok (.iload_n 2, 1) := by decide +kernel
theorem dX17_sort_89 : decode cX17_sort 89 = .ok (.ifCond .eq 20, 3) := by decide +kernel
theorem dX17_sort_109 : decode cX17_sort 109 = .ok (.goto (-82), 3) := by decide +kernel
theorem dX17_sort_92 : decode cX17_sort 92 = .ok (.aload_n 0, 1) := by decide +kernel
theorem dX17_sort_93 : decode cX17_sort 93 = .ok (.getfield 53, 3) := by decide +kernel
theorem dX17_sort_96 : decode cX17_sort 96 = .ok (.iload_n 3, 1) := by decide +kernel
theorem dX17_sort_97 : decode cX17_sort 97 = .ok (.iconst 1, 1) := by decide +kernel
theorem dX17_sort_98 : decode cX17_sort 98 = .ok (.bastore, 1) := by decide +kernel
theorem dX17_sort_99 : decode cX17_sort 99 = .ok (.aload_n 0, 1) := by decide +kernel
theorem dX17_sort_100 : decode cX17_sort 100 = .ok (.getfield 50, 3) := by decide +kernel
theorem dX17_sort_103 : decode cX17_sort 103 = .ok (.iload_n 1, 1) := by decide +kernel
theorem dX17_sort_104 : decode cX17_sort 104 = .ok (.iload_n 3, 1) := by decide +kernel
theorem dX17_sort_105 : decode cX17_sort 105 = .ok (.iastore, 1) := by decide +kernel
theorem dX17_sort_106 : decode cX17_sort 106 = .ok (.iinc 1 1, 3) := by decide +kernel
theorem dX17_sort_82 : decode cX17_sort 82 = .ok (.iconst 1, 1) := by decide +kernel
theorem dX17_sort_83 : decode cX17_sort 83 = .ok (.goto 4, 3) := by decide +kernel
theorem dX17_sort_112 : decode cX17_sort 112 = .ok (.iload_n 1, 1) := by decide +kernel
theorem dX17_sort_113 : decode cX17_sort 113 = .ok (.istore_n 3, 1) := by decide +kernel
theorem dX17_sort_114 : decode cX17_sort 114 = .ok (.iconst 0, 1) := by decide +kernel
theorem dX17_sort_115 : decode cX17_sort 115 = .ok (.istore 4, 2) := by decide +kernel
theorem dX17_sort_117 : decode cX17_sort 117 = .ok (.iload 4, 2) := by decide +kernel
theorem dX17_sort_119 : decode cX17_sort 119 = .ok (.aload_n 0, 1) := by decide +kernel
theorem dX17_sort_120 : decode cX17_sort 120 = .ok (.getfield 63, 3) := by decide +kernel
theorem dX17_sort_123 : decode cX17_sort 123 = .ok (.if_icmp .ge 30, 3) := by decide +kernel
theorem dX17_sort_126 : decode cX17_sort 126 = .ok (.aload_n 0, 1) := by decide +kernel
theorem dX17_sort_127 : decode cX17_sort 127 = .ok (.getfield 53, 3) := by decide +kernel
theorem dX17_sort_130 : decode cX17_sort 130 = .ok (.iload 4, 2) := by decide +kernel
theorem dX17_sort_132 : decode cX17_sort 132 = .ok (.baload, 1) := by decide +kernel
theorem dX17_sort_133 : decode cX17_sort 133 = .ok (.ifCond .ne 14, 3) := by decide +kernel
theorem dX17_sort_147 : decode cX17_sort 147 = .ok (.iinc 4 1, 3) := by decide +kernel
theorem dX17_sort_150 : decode cX17_sort 150 = .ok (.goto (-33), 3) := by decide +kernel
theorem dX17_sort_136 : decode cX17_sort 136 = .ok (.aload_n 0, 1) := by decide +kernel
theorem dX17_sort_137 : decode cX17_sort 137 = .ok (.getfield 50, 3) := by decide +kernel
theorem dX17_sort_140 : decode cX17_sort 140 = .ok (.iload_n 3, 1) := by decide +kernel
theorem dX17_sort_141 : decode cX17_sort 141 = .ok (.iload 4, 2) := by decide +kernel
theorem dX17_sort_143 : decode cX17_sort 143 = .ok (.iastore, 1) := by decide +kernel
theorem dX17_sort_144 : decode cX17_sort 144 = .ok (.iinc 3 1, 3) := by decide +kernel
theorem dX17_sort_153 : decode cX17_sort 153 = .ok (.iload_n 1, 1) := by decide +kernel
theorem dX17_sort_154 : decode cX17_sort 154 = .ok (.ireturn, 1) := by decide +kernel
theorem dX17_place_0 : decode cX17_place 0 = .ok (.aload_n 0, 1) := by decide +kernel
theorem dX17_place_1 : decode cX17_place 1 = .ok (.invokevirtual 71, 3) := by decide +kernel
theorem dX17_place_4 : decode cX17_place 4 = .ok (.istore_n 2, 1) := by decide +kernel
theorem dX17_place_5 : decode cX17_place 5 = .ok (.iconst 0, 1) := by decide +kernel
theorem dX17_place_6 : decode cX17_place 6 = .ok (.istore_n 3, 1) := by decide +kernel
theorem dX17_place_7 : decode cX17_place 7 = .ok (.aload_n 0, 1) := by decide +kernel
theorem dX17_place_8 : decode cX17_place 8 = .ok (.getfield 50, 3) := by decide +kernel
theorem dX17_place_11 : decode cX17_place 11 = .ok (.iload_n 3, 1) := by decide +kernel
theorem dX17_place_12 : decode cX17_place 12 = .ok (.iaload, 1) := by decide +kernel
theorem dX17_place_13 : decode cX17_place 13 = .ok (.iload_n 1, 1) := by decide +kernel
theorem dX17_place_14 : decode cX17_place 14 = .ok (.if_icmp .eq 9, 3) := by decide +kernel
theorem dX17_place_17 : decode cX17_place 17 = .ok (.iinc 3 1, 3) := by decide +kernel
theorem dX17_place_20 : decode cX17_place 20 = .ok (.goto (-13), 3) := by decide +kernel
theorem dX17_place_23 : decode cX17_place 23 = .ok (.iload_n 3, 1) := by decide +kernel
theorem dX17_place_24 : decode cX17_place 24 = .ok (.ireturn, 1) := by decide +kernel
theorem dX17_block_0 : decode cX17_block 0 = .ok (.aload_n 0, 1) := by decide +kernel
theorem dX17_block_1 : decode cX17_block 1 = .ok (.getfield 7, 3) := by decide +kernel
theorem dX17_block_4 : decode cX17_block 4 = .ok (.aload_n 0, 1) := by decide +kernel
theorem dX17_block_5 : decode cX17_block 5 = .ok (.getfield 63, 3) := by decide +kernel
theorem dX17_block_8 : decode cX17_block 8 = .ok (.iload_n 1, 1) := by decide +kernel
theorem dX17_block_9 : decode cX17_block 9 = .ok (.iastore, 1) := by decide +kernel
theorem dX17_block_10 : decode cX17_block 10 = .ok (.iconst 0, 1) := by decide +kernel
theorem dX17_block_11 : decode cX17_block 11 = .ok (.istore_n 2, 1) := by decide +kernel
theorem dX17_block_12 : decode cX17_block 12 = .ok (.iload_n 2, 1) := by decide +kernel
theorem dX17_block_13 : decode cX17_block 13 = .ok (.iconst 3, 1) := by decide +kernel
theorem dX17_block_14 : decode cX17_block 14 = .ok (.if_icmp .ge 23, 3) := by decide +kernel
theorem dX17_block_17 : decode cX17_block 17 = .ok (.aload_n 0, 1) := by decide +kernel
theorem dX17_block_18 : decode cX17_block 18 = .ok (.getfield 22, 3) := by decide +kernel
theorem dX17_block_21 : decode cX17_block 21 = .ok (.iconst 3, 1) := by decide +kernel
theorem dX17_block_22 : decode cX17_block 22 = .ok (.aload_n 0, 1) := by decide +kernel
theorem dX17_block_23 : decode cX17_block 23 = .ok (.getfield 63, 3) := by decide +kernel
theorem dX17_block_26 : decode cX17_block 26 = .ok (.imul, 1) := by decide +kernel
theorem dX17_block_27 : decode cX17_block 27 = .ok (.iload_n 2, 1) := by decide +kernel
theorem dX17_block_28 : decode cX17_block 28 = .ok (.iadd, 1) := by decide +kernel
theorem dX17_block_29 : decode cX17_block 29 = .ok (.iconst (-1), 1) := by decide +kernel
theorem dX17_block_30 : decode cX17_block 30 = .ok (.iastore, 1) := by decide +kernel
theorem dX17_block_31 : decode cX17_block 31 = .ok (.iinc 2 1, 3) := by decide +kernel
theorem dX17_block_34 : decode cX17_block 34 = .ok (.goto (-22), 3) := by decide +kernel
theorem dX17_block_37 : decode cX17_block 37 = .ok (.aload_n 0, 1) := by decide +kernel
theorem dX17_block_38 : decode cX17_block 38 = .ok (.dup, 1) := by decide +kernel
theorem dX17_block_39 : decode cX17_block 39 = .ok (.getfield 63, 3) := by decide +kernel
theorem dX17_block_42 : decode cX17_block 42 = .ok (.iconst 1, 1) := by decide +kernel
theorem dX17_block_43 : decode cX17_block 43 = .ok (.iadd, 1) := by decide +kernel
theorem dX17_block_44 : decode cX17_block 44 = .ok (.putfield 63, 3) := by decide +kernel
theorem dX17_block_47 : decode cX17_block 47 = .ok (.aload_n 0, 1) := by decide +kernel
theorem dX17_block_48 : decode cX17_block 48 = .ok (.getfield 63, 3) := by decide +kernel
theorem dX17_block_51 : decode cX17_block 51 = .ok (.iconst 1, 1) := by decide +kernel
theorem dX17_block_52 : decode cX17_block 52 = .ok (.isub, 1) := by decide +kernel
theorem dX17_block_53 : decode cX17_block 53 = .ok (.ireturn, 1) := by decide +kernel
theorem dX17_in_0 : decode cX17_in 0 = .ok (.aload_n 0, 1) := by decide +kernel
theorem dX17_in_1 : decode cX17_in 1 = .ok (.getfield 28, 3) := by decide +kernel
theorem dX17_in_4 : decode cX17_in 4 = .ok (.aload_n 0, 1) := by decide +kernel
theorem dX17_in_5 : decode cX17_in 5 = .ok (.getfield 22, 3) := by decide +kernel
theorem dX17_in_8 : decode cX17_in 8 = .ok (.iconst 3, 1) := by decide +kernel
theorem dX17_in_9 : decode cX17_in 9 = .ok (.iload_n 1, 1) := by decide +kernel
theorem dX17_in_10 : decode cX17_in 10 = .ok (.imul, 1) := by decide +kernel
theorem dX17_in_11 : decode cX17_in 11 = .ok (.iload_n 2, 1) := by decide +kernel
theorem dX17_in_12 : decode cX17_in 12 = .ok (.iadd, 1) := by decide +kernel
theorem dX17_in_13 : decode cX17_in 13 = .ok (.iaload, 1) := by decide +kernel
theorem dX17_in_14 : decode cX17_in 14 = .ok (.iaload, 1) := by decide +kernel
theorem dX17_in_15 : decode cX17_in 15 = .ok (.ireturn, 1) := by decide +kernel
theorem dX17_failure_0 : decode cX17_failure 0 = .ok (.aload_n 0, 1) := by decide +kernel
theorem dX17_failure_1 : decode cX17_failure 1 = .ok (.getfield 7, 3) := by decide +kernel
theorem dX17_failure_4 : decode cX17_failure 4 = .ok (.iload_n 1, 1) := by decide +kernel
theorem dX17_failure_5 : decode cX17_failure 5 = .ok (.iaload, 1) := by decide +kernel
theorem dX17_failure_6 : decode cX17_failure 6 = .ok (.istore_n 2, 1) := by decide +kernel
theorem dX17_failure_7 : decode cX17_failure 7 = .ok (.iconst 0, 1) := by decide +kernel
theorem dX17_failure_8 : decode cX17_failure 8 = .ok (.istore_n 3, 1) := by decide +kernel
theorem dX17_failure_9 : decode cX17_failure 9 = .ok (.iload_n 3, 1) := by decide +kernel
theorem dX17_failure_10 : decode cX17_failure 10 = .ok (.iload_n 2, 1) := by decide +kernel
theorem dX17_failure_11 : decode cX17_failure 11 = .ok (.invokestatic 59, 3) := by decide +kernel
theorem dX17_failure_14 : decode cX17_failure 14 = .ok (.if_icmp .ge 30, 3) := by decide +kernel
theorem dX17_failure_17 : decode cX17_failure 17 = .ok (.iload_n 2, 1) := by decide +kernel
theorem dX17_failure_18 : decode cX17_failure 18 = .ok (.bipush 16, 2) := by decide +kernel
theorem dX17_failure_20 : decode cX17_failure 20 = .ok (.if_icmp .eq 24, 3) := by decide +kernel
theorem dX17_failure_23 : decode cX17_failure 23 = .ok (.aload_n 0, 1) := by decide +kernel
theorem dX17_failure_24 : decode cX17_failure 24 = .ok (.getfield 22, 3) := by decide +kernel
theorem dX17_failure_27 : decode cX17_failure 27 = .ok (.iconst 3, 1) := by decide +kernel
theorem dX17_failure_28 : decode cX17_failure 28 = .ok (.iload_n 1, 1) := by decide +kernel
theorem dX17_failure_29 : decode cX17_failure 29 = .ok (.imul, 1) := by decide +kernel
theorem dX17_failure_30 : decode cX17_failure 30 = .ok (.iload_n 3, 1) := by decide +kernel
theorem dX17_failure_31 : decode cX17_failure 31 = .ok (.iadd, 1) := by decide +kernel
theorem dX17_failure_32 : decode cX17_failure 32 = .ok (.iaload, 1) := by decide +kernel
theorem dX17_failure_33 : decode cX17_failure 33 = .ok (.ifCond .ge 5, 3) := by decide +kernel
theorem dX17_failure_38 : decode cX17_failure 38 = .ok (.iinc 3 1, 3) := by decide +kernel
theorem dX17_failure_41 : decode cX17_failure 41 = .ok (.goto (-32), 3) := by decide +kernel
theorem dX17_failure_36 : decode cX17_failure 36 = .ok (.iconst 3, 1) := by decide +kernel
theorem dX17_failure_37 : decode cX17_failure 37 = .ok (.ireturn, 1) := by decide +kernel
theorem dX17_failure_44 : decode cX17_failure 44 = .ok (.iload_n 2, 1) := by decide +kernel
theorem dX17_failure_45 : decode cX17_failure 45 = .ok (.iconst 5, 1) := by decide +kernel
theorem dX17_failure_46 : decode cX17_failure 46 = .ok (.if_icmp .eq 9, 3) := by decide +kernel
theorem dX17_failure_55 : decode cX17_failure 55 = .ok (.aload_n 0, 1) := by decide +kernel
theorem dX17_failure_56 : decode cX17_failure 56 = .ok (.iload_n 1, 1) := by decide +kernel
theorem dX17_failure_57 : decode cX17_failure 57 = .ok (.iconst 1, 1) := by decide +kernel
theorem dX17_failure_58 : decode cX17_failure 58 = .ok (.invokevirtual 75, 3) := by decide +kernel
theorem dX17_failure_61 : decode cX17_failure 61 = .ok (.ifCond .ne 5, 3) := by decide +kernel
theorem dX17_failure_66 : decode cX17_failure 66 = .ok (.iload_n 2, 1) := by decide +kernel
theorem dX17_failure_67 : decode cX17_failure 67 = .ok (.ifCond .ne 23, 3) := by decide +kernel
theorem dX17_failure_90 : decode cX17_failure 90 = .ok (.iload_n 2, 1) := by decide +kernel
theorem dX17_failure_91 : decode cX17_failure 91 = .ok (.bipush 15, 2) := by decide +kernel
theorem dX17_failure_93 : decode cX17_failure 93 = .ok (.if_icmp .ne 27, 3) := by decide +kernel
theorem dX17_failure_120 : decode cX17_failure 120 = .ok (.iconst 0, 1) := by decide +kernel
theorem dX17_failure_121 : decode cX17_failure 121 = .ok (.istore_n 3, 1) := by decide +kernel
theorem dX17_failure_122 : decode cX17_failure 122 = .ok (.iload_n 3, 1) := by decide +kernel
theorem dX17_failure_123 : decode cX17_failure 123 = .ok (.ifCond .eq 7, 3) := by decide +kernel
theorem dX17_failure_130 : decode cX17_failure 130 = .ok (.iconst 0, 1) := by decide +kernel
theorem dX17_failure_131 : decode cX17_failure 131 = .ok (.ireturn, 1) := by decide +kernel
theorem dX17_failure_126 : decode cX17_failure 126 = .ok (.iconst 2, 1) := by decide +kernel
theorem dX17_failure_127 : decode cX17_failure 127 = .ok (.goto 4, 3) := by decide +kernel
theorem dX17_failure_96 : decode cX17_failure 96 = .ok (.aload_n 0, 1) := by decide +kernel
theorem dX17_failure_97 : decode cX17_failure 97 = .ok (.iload_n 1, 1) := by decide +kernel
theorem dX17_failure_98 : decode cX17_failure 98 = .ok (.iconst 0, 1) := by decide +kernel
theorem dX17_failure_99 : decode cX17_failure 99 = .ok (.invokevirtual 75, 3) := by decide +kernel
theorem dX17_failure_102 : decode cX17_failure 102 = .ok (.ifCond .lt 14, 3) := by decide +kernel
theorem dX17_failure_116 : decode cX17_failure 116 = .ok (.iconst 1, 1) := by decide +kernel
theorem dX17_failure_117 : decode cX17_failure 117 = .ok (.goto 4, 3) := by decide +kernel
theorem dX17_failure_105 : decode cX17_failure 105 = .ok (.aload_n 0, 1) := by decide +kernel
theorem dX17_failure_106 : decode cX17_failure 106 = .ok (.iload_n 1, 1) := by decide +kernel
theorem dX17_failure_107 : decode cX17_failure 107 = .ok (.iconst 0, 1) := by decide +kernel
theorem dX17_failure_108 : decode cX17_failure 108 = .ok (.invokevirtual 75, 3) := by decide +kernel
theorem dX17_failure_111 : decode cX17_failure 111 = .ok (.bipush 7, 2) := by decide +kernel
theorem dX17_failure_113 : decode cX17_failure 113 = .ok (.if_icmp .le 7, 3) := by decide +kernel
theorem dX17_failure_70 : decode cX17_failure 70 = .ok (.aload_n 0, 1) := by decide +kernel
theorem dX17_failure_71 : decode cX17_failure 71 = .ok (.getfield 13, 3) := by decide +kernel
theorem dX17_failure_74 : decode cX17_failure 74 = .ok (.iload_n 1, 1) := by decide +kernel
theorem dX17_failure_75 : decode cX17_failure 75 = .ok (.iaload, 1) := by decide +kernel
theorem dX17_failure_76 : decode cX17_failure 76 = .ok (.ifCond .lt 40, 3) := by decide +kernel
theorem dX17_failure_79 : decode cX17_failure 79 = .ok (.aload_n 0, 1) := by decide +kernel
theorem dX17_failure_80 : decode cX17_failure 80 = .ok (.getfield 13, 3) := by decide +kernel
theorem dX17_failure_83 : decode cX17_failure 83 = .ok (.iload_n 1, 1) := by decide +kernel
theorem dX17_failure_84 : decode cX17_failure 84 = .ok (.iaload, 1) := by decide +kernel
theorem dX17_failure_85 : decode cX17_failure 85 = .ok (.bipush 9, 2) := by decide +kernel
theorem dX17_failure_87 : decode cX17_failure 87 = .ok (.if_icmp .gt 29, 3) := by decide +kernel
theorem dX17_failure_64 : decode cX17_failure 64 = .ok (.iconst 1, 1) := by decide +kernel
theorem dX17_failure_65 : decode cX17_failure 65 = .ok (.ireturn, 1) := by decide +kernel
theorem dX17_failure_49 : decode cX17_failure 49 = .ok (.iload_n 2, 1) := by decide +kernel
theorem dX17_failure_50 : decode cX17_failure 50 = .ok (.bipush 6, 2) := by decide +kernel
theorem dX17_failure_52 : decode cX17_failure 52 = .ok (.if_icmp .ne 14, 3) := by decide +kernel
theorem dX17_fails_0 : decode cX17_fails 0 = .ok (.aload_n 0, 1) := by decide +kernel
theorem dX17_fails_1 : decode cX17_fails 1 = .ok (.getfield 56, 3) := by decide +kernel
theorem dX17_fails_4 : decode cX17_fails 4 = .ok (.iconst 0, 1) := by decide +kernel
theorem dX17_fails_5 : decode cX17_fails 5 = .ok (.dup2, 1) := by decide +kernel
theorem dX17_fails_6 : decode cX17_fails 6 = .ok (.iaload, 1) := by decide +kernel
theorem dX17_fails_7 : decode cX17_fails 7 = .ok (.iconst 1, 1) := by decide +kernel
theorem dX17_fails_8 : decode cX17_fails 8 = .ok (.iadd, 1) := by decide +kernel
theorem dX17_fails_9 : decode cX17_fails 9 = .ok (.iastore, 1) := by decide +kernel
theorem dX17_fails_10 : decode cX17_fails 10 = .ok (.aload_n 0, 1) := by decide +kernel
theorem dX17_fails_11 : decode cX17_fails 11 = .ok (.getfield 56, 3) := by decide +kernel
theorem dX17_fails_14 : decode cX17_fails 14 = .ok (.iload_n 2, 1) := by decide +kernel
theorem dX17_fails_15 : decode cX17_fails 15 = .ok (.dup2, 1) := by decide +kernel
theorem dX17_fails_16 : decode cX17_fails 16 = .ok (.iaload, 1) := by decide +kernel
theorem dX17_fails_17 : decode cX17_fails 17 = .ok (.iconst 1, 1) := by decide +kernel
theorem dX17_fails_18 : decode cX17_fails 18 = .ok (.iadd, 1) := by decide +kernel
theorem dX17_fails_19 : decode cX17_fails 19 = .ok (.iastore, 1) := by decide +kernel
theorem dX17_fails_20 : decode cX17_fails 20 = .ok (.aload_n 0, 1) := by decide +kernel
theorem dX17_fails_21 : decode cX17_fails 21 = .ok (.getfield 28, 3) := by decide +kernel
theorem dX17_fails_24 : decode cX17_fails 24 = .ok (.iload_n 1, 1) := by decide +kernel
theorem dX17_fails_25 : decode cX17_fails 25 = .ok (.aload_n 0, 1) := by decide +kernel
theorem dX17_fails_26 : decode cX17_fails 26 = .ok (.getfield 19, 3) := by decide +kernel
theorem dX17_fails_29 : decode cX17_fails 29 = .ok (.iload_n 1, 1) := by decide +kernel
theorem dX17_fails_30 : decode cX17_fails 30 = .ok (.iaload, 1) := by decide +kernel
theorem dX17_fails_31 : decode cX17_fails 31 = .ok (.iastore, 1) := by decide +kernel
theorem dX17_fails_32 : decode cX17_fails 32 = .ok (.return_, 1) := by decide +kernel
theorem dX17_plain_0 : decode cX17_plain 0 = .ok (.aload_n 0, 1) := by decide +kernel
theorem dX17_plain_1 : decode cX17_plain 1 = .ok (.getfield 7, 3) := by decide +kernel
theorem dX17_plain_4 : decode cX17_plain 4 = .ok (.iload_n 1, 1) := by decide +kernel
theorem dX17_plain_5 : decode cX17_plain 5 = .ok (.iaload, 1) := by decide +kernel
theorem dX17_plain_6 : decode cX17_plain 6 = .ok (.tableswitch 214 0 14 #[74, 86, 93, 97, 101, 105, 109, 117, 128, 139, 150, 161, 175, 189, 199], 74) := by decide +kernel
theorem dX17_plain_220 : decode cX17_plain 220 = .ok (.aload_n 0, 1) := by decide +kernel
theorem dX17_plain_221 : decode cX17_plain 221 = .ok (.getfield 25, 3) := by decide +kernel
theorem dX17_plain_224 : decode cX17_plain 224 = .ok (.bipush 8, 2) := by decide +kernel
theorem dX17_plain_226 : decode cX17_plain 226 = .ok (.iload_n 1, 1) := by decide +kernel
theorem dX17_plain_227 : decode cX17_plain 227 = .ok (.imul, 1) := by decide +kernel
theorem dX17_plain_228 : decode cX17_plain 228 = .ok (.iload_n 2, 1) := by decide +kernel
theorem dX17_plain_229 : decode cX17_plain 229 = .ok (.iadd, 1) := by decide +kernel
theorem dX17_plain_230 : decode cX17_plain 230 = .ok (.iaload, 1) := by decide +kernel
theorem dX17_plain_231 : decode cX17_plain 231 = .ok (.ireturn, 1) := by decide +kernel
theorem dX17_plain_80 : decode cX17_plain 80 = .ok (.aload_n 0, 1) := by decide +kernel
theorem dX17_plain_81 : decode cX17_plain 81 = .ok (.getfield 44, 3) := by decide +kernel
theorem dX17_plain_84 : decode cX17_plain 84 = .ok (.aload_n 0, 1) := by decide +kernel
theorem dX17_plain_85 : decode cX17_plain 85 = .ok (.getfield 13, 3) := by decide +kernel
theorem dX17_plain_88 : decode cX17_plain 88 = .ok (.iload_n 1, 1) := by decide +kernel
theorem dX17_plain_89 : decode cX17_plain 89 = .ok (.iaload, 1) := by decide +kernel
theorem dX17_plain_90 : decode cX17_plain 90 = .ok (.iaload, 1) := by decide +kernel
theorem dX17_plain_91 : decode cX17_plain 91 = .ok (.ireturn, 1) := by decide +kernel
theorem dX17_plain_92 : decode cX17_plain 92 = .ok (.aload_n 0, 1) := by decide +kernel
theorem dX17_plain_93 : decode cX17_plain 93 = .ok (.getfield 13, 3) := by decide +kernel
theorem dX17_plain_96 : decode cX17_plain 96 = .ok (.iload_n 1, 1) := by decide +kernel
theorem dX17_plain_97 : decode cX17_plain 97 = .ok (.iaload, 1) := by decide +kernel
theorem dX17_plain_98 : decode cX17_plain 98 = .ok (.ireturn, 1) := by decide +kernel
theorem dX17_plain_99 : decode cX17_plain 99 = .ok (.iload_n 2, 1) := by decide +kernel
theorem dX17_plain_100 : decode cX17_plain 100 = .ok (.iload_n 3, 1) := by decide +kernel
theorem dX17_plain_101 : decode cX17_plain 101 = .ok (.iadd, 1) := by decide +kernel
theorem dX17_plain_102 : decode cX17_plain 102 = .ok (.ireturn, 1) := by decide +kernel
theorem dX17_plain_103 : decode cX17_plain 103 = .ok (.iload_n 2, 1) := by decide +kernel
theorem dX17_plain_104 : decode cX17_plain 104 = .ok (.iload_n 3, 1) := by decide +kernel
theorem dX17_plain_105 : decode cX17_plain 105 = .ok (.isub, 1) := by decide +kernel
theorem dX17_plain_106 : decode cX17_plain 106 = .ok (.ireturn, 1) := by decide +kernel
theorem dX17_plain_107 : decode cX17_plain 107 = .ok (.iload_n 2, 1) := by decide +kernel
theorem dX17_plain_108 : decode cX17_plain 108 = .ok (.iload_n 3, 1) := by decide +kernel
theorem dX17_plain_109 : decode cX17_plain 109 = .ok (.imul, 1) := by decide +kernel
theorem dX17_plain_110 : decode cX17_plain 110 = .ok (.ireturn, 1) := by decide +kernel
theorem dX17_plain_111 : decode cX17_plain 111 = .ok (.iload_n 2, 1) := by decide +kernel
theorem dX17_plain_112 : decode cX17_plain 112 = .ok (.iload_n 3, 1) := by decide +kernel
theorem dX17_plain_113 : decode cX17_plain 113 = .ok (.idiv, 1) := by decide +kernel
theorem dX17_plain_114 : decode cX17_plain 114 = .ok (.ireturn, 1) := by decide +kernel
theorem dX17_plain_115 : decode cX17_plain 115 = .ok (.iload_n 2, 1) := by decide +kernel
theorem dX17_plain_116 : decode cX17_plain 116 = .ok (.iload_n 3, 1) := by decide +kernel
theorem dX17_plain_117 : decode cX17_plain 117 = .ok (.iload_n 2, 1) := by decide +kernel
theorem dX17_plain_118 : decode cX17_plain 118 = .ok (.iload_n 3, 1) := by decide +kernel
theorem dX17_plain_119 : decode cX17_plain 119 = .ok (.idiv, 1) := by decide +kernel
theorem dX17_plain_120 : decode cX17_plain 120 = .ok (.imul, 1) := by decide +kernel
theorem dX17_plain_121 : decode cX17_plain 121 = .ok (.isub, 1) := by decide +kernel
theorem dX17_plain_122 : decode cX17_plain 122 = .ok (.ireturn, 1) := by decide +kernel
theorem dX17_plain_123 : decode cX17_plain 123 = .ok (.iload_n 2, 1) := by decide +kernel
theorem dX17_plain_124 : decode cX17_plain 124 = .ok (.iload_n 3, 1) := by decide +kernel
theorem dX17_plain_125 : decode cX17_plain 125 = .ok (.if_icmp .ge 7, 3) := by decide +kernel
theorem dX17_plain_132 : decode cX17_plain 132 = .ok (.iload_n 3, 1) := by decide +kernel
theorem dX17_plain_133 : decode cX17_plain 133 = .ok (.ireturn, 1) := by decide +kernel
theorem dX17_plain_128 : decode cX17_plain 128 = .ok (.iload_n 2, 1) := by decide +kernel
theorem dX17_plain_129 : decode cX17_plain 129 = .ok (.goto 4, 3) := by decide +kernel
theorem dX17_plain_134 : decode cX17_plain 134 = .ok (.iload_n 2, 1) := by decide +kernel
theorem dX17_plain_135 : decode cX17_plain 135 = .ok (.iload_n 3, 1) := by decide +kernel
theorem dX17_plain_136 : decode cX17_plain 136 = .ok (.if_icmp .le 7, 3) := by decide +kernel
theorem dX17_plain_143 : decode cX17_plain 143 = .ok (.iload_n 3, 1) := by decide +kernel
theorem dX17_plain_144 : decode cX17_plain 144 = .ok (.ireturn, 1) := by decide +kernel
theorem dX17_plain_139 : decode cX17_plain 139 = .ok (.iload_n 2, 1) := by decide +kernel
theorem dX17_plain_140 : decode cX17_plain 140 = .ok (.goto 4, 3) := by decide +kernel
theorem dX17_plain_145 : decode cX17_plain 145 = .ok (.iload_n 2, 1) := by decide +kernel
theorem dX17_plain_146 : decode cX17_plain 146 = .ok (.iload_n 3, 1) := by decide +kernel
theorem dX17_plain_147 : decode cX17_plain 147 = .ok (.if_icmp .ge 7, 3) := by decide +kernel
theorem dX17_plain_154 : decode cX17_plain 154 = .ok (.iconst 0, 1) := by decide +kernel
theorem dX17_plain_155 : decode cX17_plain 155 = .ok (.ireturn, 1) := by decide +kernel
theorem dX17_plain_150 : decode cX17_plain 150 = .ok (.iconst 1, 1) := by decide +kernel
theorem dX17_plain_151 : decode cX17_plain 151 = .ok (.goto 4, 3) := by decide +kernel
theorem dX17_plain_156 : decode cX17_plain 156 = .ok (.iload_n 2, 1) := by decide +kernel
theorem dX17_plain_157 : decode cX17_plain 157 = .ok (.iload_n 3, 1) := by decide +kernel
theorem dX17_plain_158 : decode cX17_plain 158 = .ok (.if_icmp .ne 7, 3) := by decide +kernel
theorem dX17_plain_165 : decode cX17_plain 165 = .ok (.iconst 0, 1) := by decide +kernel
theorem dX17_plain_166 : decode cX17_plain 166 = .ok (.ireturn, 1) := by decide +kernel
theorem dX17_plain_161 : decode cX17_plain 161 = .ok (.iconst 1, 1) := by decide +kernel
theorem dX17_plain_162 : decode cX17_plain 162 = .ok (.goto 4, 3) := by decide +kernel
theorem dX17_plain_167 : decode cX17_plain 167 = .ok (.iload_n 2, 1) := by decide +kernel
theorem dX17_plain_168 : decode cX17_plain 168 = .ok (.ifCond .eq 11, 3) := by decide +kernel
theorem dX17_plain_179 : decode cX17_plain 179 = .ok (.iconst 0, 1) := by decide +kernel
theorem dX17_plain_180 : decode cX17_plain 180 = .ok (.ireturn, 1) := by decide +kernel
theorem dX17_plain_171 : decode cX17_plain 171 = .ok (.iload_n 3, 1) := by decide +kernel
theorem dX17_plain_172 : decode cX17_plain 172 = .ok (.ifCond .eq 7, 3) := by decide +kernel
theorem dX17_plain_175 : decode cX17_plain 175 = .ok (.iconst 1, 1) := by decide +kernel
theorem dX17_plain_176 : decode cX17_plain 176 = .ok (.goto 4, 3) := by decide +kernel
theorem dX17_plain_181 : decode cX17_plain 181 = .ok (.iload_n 2, 1) := by decide +kernel
theorem dX17_plain_182 : decode cX17_plain 182 = .ok (.ifCond .ne 7, 3) := by decide +kernel
theorem dX17_plain_189 : decode cX17_plain 189 = .ok (.iconst 1, 1) := by decide +kernel
theorem dX17_plain_190 : decode cX17_plain 190 = .ok (.goto 4, 3) := by decide +kernel
theorem dX17_plain_194 : decode cX17_plain 194 = .ok (.ireturn, 1) := by decide +kernel
theorem dX17_plain_185 : decode cX17_plain 185 = .ok (.iload_n 3, 1) := by decide +kernel
theorem dX17_plain_186 : decode cX17_plain 186 = .ok (.ifCond .eq 7, 3) := by decide +kernel
theorem dX17_plain_193 : decode cX17_plain 193 = .ok (.iconst 0, 1) := by decide +kernel
theorem dX17_plain_195 : decode cX17_plain 195 = .ok (.iload_n 2, 1) := by decide +kernel
theorem dX17_plain_196 : decode cX17_plain 196 = .ok (.ifCond .ne 7, 3) := by decide +kernel
theorem dX17_plain_203 : decode cX17_plain 203 = .ok (.iconst 0, 1) := by decide +kernel
theorem dX17_plain_204 : decode cX17_plain 204 = .ok (.ireturn, 1) := by decide +kernel
theorem dX17_plain_199 : decode cX17_plain 199 = .ok (.iconst 1, 1) := by decide +kernel
theorem dX17_plain_200 : decode cX17_plain 200 = .ok (.goto 4, 3) := by decide +kernel
theorem dX17_plain_205 : decode cX17_plain 205 = .ok (.iload_n 2, 1) := by decide +kernel
theorem dX17_plain_206 : decode cX17_plain 206 = .ok (.ifCond .eq 7, 3) := by decide +kernel
theorem dX17_plain_213 : decode cX17_plain 213 = .ok (.aload_n 0, 1) := by decide +kernel
theorem dX17_plain_214 : decode cX17_plain 214 = .ok (.iload_n 1, 1) := by decide +kernel
theorem dX17_plain_215 : decode cX17_plain 215 = .ok (.iconst 2, 1) := by decide +kernel
theorem dX17_plain_216 : decode cX17_plain 216 = .ok (.invokevirtual 75, 3) := by decide +kernel
theorem dX17_plain_219 : decode cX17_plain 219 = .ok (.ireturn, 1) := by decide +kernel
theorem dX17_plain_209 : decode cX17_plain 209 = .ok (.iload_n 3, 1) := by decide +kernel
theorem dX17_plain_210 : decode cX17_plain 210 = .ok (.goto 9, 3) := by decide +kernel
theorem dX17_ramp_0 : decode cX17_ramp 0 = .ok (.iload_n 2, 1) := by decide +kernel
theorem dX17_ramp_1 : decode cX17_ramp 1 = .ok (.i2l, 1) := by decide +kernel
theorem dX17_ramp_2 : decode cX17_ramp 2 = .ok (.aload_n 0, 1) := by decide +kernel
theorem dX17_ramp_3 : decode cX17_ramp 3 = .ok (.getfield 28, 3) := by decide +kernel
theorem dX17_ramp_6 : decode cX17_ramp 6 = .ok (.iload_n 1, 1) := by decide +kernel
theorem dX17_ramp_7 : decode cX17_ramp 7 = .ok (.iaload, 1) := by decide +kernel
theorem dX17_ramp_8 : decode cX17_ramp 8 = .ok (.i2l, 1) := by decide +kernel
theorem dX17_ramp_9 : decode cX17_ramp 9 = .ok (.lsub, 1) := by decide +kernel
theorem dX17_ramp_10 : decode cX17_ramp 10 = .ok (.lstore_n 3, 1) := by decide +kernel
theorem dX17_ramp_11 : decode cX17_ramp 11 = .ok (.aload_n 0, 1) := by decide +kernel
theorem dX17_ramp_12 : decode cX17_ramp 12 = .ok (.getfield 13, 3) := by decide +kernel
theorem dX17_ramp_15 : decode cX17_ramp 15 = .ok (.iload_n 1, 1) := by decide +kernel
theorem dX17_ramp_16 : decode cX17_ramp 16 = .ok (.iaload, 1) := by decide +kernel
theorem dX17_ramp_17 : decode cX17_ramp 17 = .ok (.ifCond .ge 7, 3) := by decide +kernel
theorem dX17_ramp_24 : decode cX17_ramp 24 = .ok (.aload_n 0, 1) := by decide +kernel
theorem dX17_ramp_25 : decode cX17_ramp 25 = .ok (.getfield 13, 3) := by decide +kernel
theorem dX17_ramp_28 : decode cX17_ramp 28 = .ok (.iload_n 1, 1) := by decide +kernel
theorem dX17_ramp_29 : decode cX17_ramp 29 = .ok (.iaload, 1) := by decide +kernel
theorem dX17_ramp_30 : decode cX17_ramp 30 = .ok (.i2l, 1) := by decide +kernel
theorem dX17_ramp_31 : decode cX17_ramp 31 = .ok (.lstore 5, 2) := by decide +kernel
theorem dX17_ramp_33 : decode cX17_ramp 33 = .ok (.lload_n 3, 1) := by decide +kernel
theorem dX17_ramp_34 : decode cX17_ramp 34 = .ok (.lload 5, 2) := by decide +kernel
theorem dX17_ramp_36 : decode cX17_ramp 36 = .ok (.lcmp, 1) := by decide +kernel
theorem dX17_ramp_37 : decode cX17_ramp 37 = .ok (.ifCond .le 6, 3) := by decide +kernel
theorem dX17_ramp_43 : decode cX17_ramp 43 = .ok (.lload_n 3, 1) := by decide +kernel
theorem dX17_ramp_44 : decode cX17_ramp 44 = .ok (.lload 5, 2) := by decide +kernel
theorem dX17_ramp_46 : decode cX17_ramp 46 = .ok (.lneg, 1) := by decide +kernel
theorem dX17_ramp_47 : decode cX17_ramp 47 = .ok (.lcmp, 1) := by decide +kernel
theorem dX17_ramp_48 : decode cX17_ramp 48 = .ok (.ifCond .ge 7, 3) := by decide +kernel
theorem dX17_ramp_55 : decode cX17_ramp 55 = .ok (.aload_n 0, 1) := by decide +kernel
theorem dX17_ramp_56 : decode cX17_ramp 56 = .ok (.getfield 28, 3) := by decide +kernel
theorem dX17_ramp_59 : decode cX17_ramp 59 = .ok (.iload_n 1, 1) := by decide +kernel
theorem dX17_ramp_60 : decode cX17_ramp 60 = .ok (.iaload, 1) := by decide +kernel
theorem dX17_ramp_61 : decode cX17_ramp 61 = .ok (.i2l, 1) := by decide +kernel
theorem dX17_ramp_62 : decode cX17_ramp 62 = .ok (.lload_n 3, 1) := by decide +kernel
theorem dX17_ramp_63 : decode cX17_ramp 63 = .ok (.ladd, 1) := by decide +kernel
theorem dX17_ramp_64 : decode cX17_ramp 64 = .ok (.l2i, 1) := by decide +kernel
theorem dX17_ramp_65 : decode cX17_ramp 65 = .ok (.ireturn, 1) := by decide +kernel
theorem dX17_ramp_51 : decode cX17_ramp 51 = .ok (.lload 5, 2) := by decide +kernel
theorem dX17_ramp_53 : decode cX17_ramp 53 = .ok (.lneg, 1) := by decide +kernel
theorem dX17_ramp_54 : decode cX17_ramp 54 = .ok (.lstore_n 3, 1) := by decide +kernel
theorem dX17_ramp_40 : decode cX17_ramp 40 = .ok (.lload 5, 2) := by decide +kernel
theorem dX17_ramp_42 : decode cX17_ramp 42 = .ok (.lstore_n 3, 1) := by decide +kernel
theorem dX17_ramp_20 : decode cX17_ramp 20 = .ok (.lconst 0, 1) := by decide +kernel
theorem dX17_ramp_21 : decode cX17_ramp 21 = .ok (.goto 10, 3) := by decide +kernel
theorem dX17_clock_0 : decode cX17_clock 0 = .ok (.aload_n 0, 1) := by decide +kernel
theorem dX17_clock_1 : decode cX17_clock 1 = .ok (.getfield 79, 3) := by decide +kernel
theorem dX17_clock_4 : decode cX17_clock 4 = .ok (.sipush 1440, 3) := by decide +kernel
theorem dX17_clock_7 : decode cX17_clock 7 = .ok (.irem, 1) := by decide +kernel
theorem dX17_clock_8 : decode cX17_clock 8 = .ok (.istore_n 2, 1) := by decide +kernel
theorem dX17_clock_9 : decode cX17_clock 9 = .ok (.iload_n 2, 1) := by decide +kernel
theorem dX17_clock_10 : decode cX17_clock 10 = .ok (.aload_n 0, 1) := by decide +kernel
theorem dX17_clock_11 : decode cX17_clock 11 = .ok (.getfield 13, 3) := by decide +kernel
theorem dX17_clock_14 : decode cX17_clock 14 = .ok (.iload_n 1, 1) := by decide +kernel
theorem dX17_clock_15 : decode cX17_clock 15 = .ok (.iaload, 1) := by decide +kernel
theorem dX17_clock_16 : decode cX17_clock 16 = .ok (.if_icmp .lt 7, 3) := by decide +kernel
theorem dX17_clock_23 : decode cX17_clock 23 = .ok (.iconst 0, 1) := by decide +kernel
theorem dX17_clock_24 : decode cX17_clock 24 = .ok (.istore_n 3, 1) := by decide +kernel
theorem dX17_clock_25 : decode cX17_clock 25 = .ok (.iload_n 2, 1) := by decide +kernel
theorem dX17_clock_26 : decode cX17_clock 26 = .ok (.aload_n 0, 1) := by decide +kernel
theorem dX17_clock_27 : decode cX17_clock 27 = .ok (.getfield 16, 3) := by decide +kernel
theorem dX17_clock_30 : decode cX17_clock 30 = .ok (.iload_n 1, 1) := by decide +kernel
theorem dX17_clock_31 : decode cX17_clock 31 = .ok (.iaload, 1) := by decide +kernel
theorem dX17_clock_32 : decode cX17_clock 32 = .ok (.if_icmp .ge 7, 3) := by decide +kernel
theorem dX17_clock_39 : decode cX17_clock 39 = .ok (.iconst 0, 1) := by decide +kernel
theorem dX17_clock_40 : decode cX17_clock 40 = .ok (.istore 4, 2) := by decide +kernel
theorem dX17_clock_42 : decode cX17_clock 42 = .ok (.aload_n 0, 1) := by decide +kernel
theorem dX17_clock_43 : decode cX17_clock 43 = .ok (.getfield 13, 3) := by decide +kernel
theorem dX17_clock_46 : decode cX17_clock 46 = .ok (.iload_n 1, 1) := by decide +kernel
theorem dX17_clock_47 : decode cX17_clock 47 = .ok (.iaload, 1) := by decide +kernel
theorem dX17_clock_48 : decode cX17_clock 48 = .ok (.aload_n 0, 1) := by decide +kernel
theorem dX17_clock_49 : decode cX17_clock 49 = .ok (.getfield 16, 3) := by decide +kernel
theorem dX17_clock_52 : decode cX17_clock 52 = .ok (.iload_n 1, 1) := by decide +kernel
theorem dX17_clock_53 : decode cX17_clock 53 = .ok (.iaload, 1) := by decide +kernel
theorem dX17_clock_54 : decode cX17_clock 54 = .ok (.if_icmp .gt 15, 3) := by decide +kernel
theorem dX17_clock_69 : decode cX17_clock 69 = .ok (.iload_n 3, 1) := by decide +kernel
theorem dX17_clock_70 : decode cX17_clock 70 = .ok (.ifCond .ne 8, 3) := by decide +kernel
theorem dX17_clock_78 : decode cX17_clock 78 = .ok (.iconst 1, 1) := by decide +kernel
theorem dX17_clock_79 : decode cX17_clock 79 = .ok (.goto 4, 3) := by decide +kernel
theorem dX17_clock_83 : decode cX17_clock 83 = .ok (.ireturn, 1) := by decide +kernel
theorem dX17_clock_73 : decode cX17_clock 73 = .ok (.iload 4, 2) := by decide +kernel
theorem dX17_clock_75 : decode cX17_clock 75 = .ok (.ifCond .eq 7, 3) := by decide +kernel
theorem dX17_clock_82 : decode cX17_clock 82 = .ok (.iconst 0, 1) := by decide +kernel
theorem dX17_clock_57 : decode cX17_clock 57 = .ok (.iload_n 3, 1) := by decide +kernel
theorem dX17_clock_58 : decode cX17_clock 58 = .ok (.ifCond .eq 24, 3) := by decide +kernel
theorem dX17_clock_61 : decode cX17_clock 61 = .ok (.iload 4, 2) := by decide +kernel
theorem dX17_clock_63 : decode cX17_clock 63 = .ok (.ifCond .eq 19, 3) := by decide +kernel
theorem dX17_clock_66 : decode cX17_clock 66 = .ok (.goto 12, 3) := by decide +kernel
theorem dX17_clock_35 : decode cX17_clock 35 = .ok (.iconst 1, 1) := by decide +kernel
theorem dX17_clock_36 : decode cX17_clock 36 = .ok (.goto 4, 3) := by decide +kernel
theorem dX17_clock_19 : decode cX17_clock 19 = .ok (.iconst 1, 1) := by decide +kernel
theorem dX17_clock_20 : decode cX17_clock 20 = .ok (.goto 4, 3) := by decide +kernel
theorem dX17_pulse_0 : decode cX17_pulse 0 = .ok (.iload_n 2, 1) := by decide +kernel
theorem dX17_pulse_1 : decode cX17_pulse 1 = .ok (.ifCond .eq 24, 3) := by decide +kernel
theorem dX17_pulse_25 : decode cX17_pulse 25 = .ok (.aload_n 0, 1) := by decide +kernel
theorem dX17_pulse_26 : decode cX17_pulse 26 = .ok (.getfield 34, 3) := by decide +kernel
theorem dX17_pulse_29 : decode cX17_pulse 29 = .ok (.iload_n 1, 1) := by decide +kernel
theorem dX17_pulse_30 : decode cX17_pulse 30 = .ok (.iload_n 2, 1) := by decide +kernel
theorem dX17_pulse_31 : decode cX17_pulse 31 = .ok (.iastore, 1) := by decide +kernel
theorem dX17_pulse_32 : decode cX17_pulse 32 = .ok (.aload_n 0, 1) := by decide +kernel
theorem dX17_pulse_33 : decode cX17_pulse 33 = .ok (.getfield 31, 3) := by decide +kernel
theorem dX17_pulse_36 : decode cX17_pulse 36 = .ok (.iload_n 1, 1) := by decide +kernel
theorem dX17_pulse_37 : decode cX17_pulse 37 = .ok (.iaload, 1) := by decide +kernel
theorem dX17_pulse_38 : decode cX17_pulse 38 = .ok (.ifCond .gt 5, 3) := by decide +kernel
theorem dX17_pulse_43 : decode cX17_pulse 43 = .ok (.aload_n 0, 1) := by decide +kernel
theorem dX17_pulse_44 : decode cX17_pulse 44 = .ok (.getfield 31, 3) := by decide +kernel
theorem dX17_pulse_47 : decode cX17_pulse 47 = .ok (.iload_n 1, 1) := by decide +kernel
theorem dX17_pulse_48 : decode cX17_pulse 48 = .ok (.dup2, 1) := by decide +kernel
theorem dX17_pulse_49 : decode cX17_pulse 49 = .ok (.iaload, 1) := by decide +kernel
theorem dX17_pulse_50 : decode cX17_pulse 50 = .ok (.iconst 1, 1) := by decide +kernel
theorem dX17_pulse_51 : decode cX17_pulse 51 = .ok (.isub, 1) := by decide +kernel
theorem dX17_pulse_52 : decode cX17_pulse 52 = .ok (.iastore, 1) := by decide +kernel
theorem dX17_pulse_53 : decode cX17_pulse 53 = .ok (.iconst 1, 1) := by decide +kernel
theorem dX17_pulse_54 : decode cX17_pulse 54 = .ok (.ireturn, 1) := by decide +kernel
theorem dX17_pulse_41 : decode cX17_pulse 41 = .ok (.iconst 0, 1) := by decide +kernel
theorem dX17_pulse_42 : decode cX17_pulse 42 = .ok (.ireturn, 1) := by decide +kernel
theorem dX17_pulse_4 : decode cX17_pulse 4 = .ok (.aload_n 0, 1) := by decide +kernel
theorem dX17_pulse_5 : decode cX17_pulse 5 = .ok (.getfield 34, 3) := by decide +kernel
theorem dX17_pulse_8 : decode cX17_pulse 8 = .ok (.iload_n 1, 1) := by decide +kernel
theorem dX17_pulse_9 : decode cX17_pulse 9 = .ok (.iaload, 1) := by decide +kernel
theorem dX17_pulse_10 : decode cX17_pulse 10 = .ok (.ifCond .ne 15, 3) := by decide +kernel
theorem dX17_pulse_13 : decode cX17_pulse 13 = .ok (.aload_n 0, 1) := by decide +kernel
theorem dX17_pulse_14 : decode cX17_pulse 14 = .ok (.getfield 31, 3) := by decide +kernel
theorem dX17_pulse_17 : decode cX17_pulse 17 = .ok (.iload_n 1, 1) := by decide +kernel
theorem dX17_pulse_18 : decode cX17_pulse 18 = .ok (.aload_n 0, 1) := by decide +kernel
theorem dX17_pulse_19 : decode cX17_pulse 19 = .ok (.getfield 13, 3) := by decide +kernel
theorem dX17_pulse_22 : decode cX17_pulse 22 = .ok (.iload_n 1, 1) := by decide +kernel
theorem dX17_pulse_23 : decode cX17_pulse 23 = .ok (.iaload, 1) := by decide +kernel
theorem dX17_pulse_24 : decode cX17_pulse 24 = .ok (.iastore, 1) := by decide +kernel
theorem dX17_count_0 : decode cX17_count 0 = .ok (.iload_n 3, 1) := by decide +kernel
theorem dX17_count_1 : decode cX17_count 1 = .ok (.ifCond .eq 13, 3) := by decide +kernel
theorem dX17_count_14 : decode cX17_count 14 = .ok (.iload_n 2, 1) := by decide +kernel
theorem dX17_count_15 : decode cX17_count 15 = .ok (.ifCond .eq 22, 3) := by decide +kernel
theorem dX17_count_37 : decode cX17_count 37 = .ok (.aload_n 0, 1) := by decide +kernel
theorem dX17_count_38 : decode cX17_count 38 = .ok (.getfield 34, 3) := by decide +kernel
theorem dX17_count_41 : decode cX17_count 41 = .ok (.iload_n 1, 1) := by decide +kernel
theorem dX17_count_42 : decode cX17_count 42 = .ok (.iload_n 2, 1) := by decide +kernel
theorem dX17_count_43 : decode cX17_count 43 = .ok (.iastore, 1) := by decide +kernel
theorem dX17_count_44 : decode cX17_count 44 = .ok (.aload_n 0, 1) := by decide +kernel
theorem dX17_count_45 : decode cX17_count 45 = .ok (.getfield 31, 3) := by decide +kernel
theorem dX17_count_48 : decode cX17_count 48 = .ok (.iload_n 1, 1) := by decide +kernel
theorem dX17_count_49 : decode cX17_count 49 = .ok (.iaload, 1) := by decide +kernel
theorem dX17_count_50 : decode cX17_count 50 = .ok (.ireturn, 1) := by decide +kernel
theorem dX17_count_18 : decode cX17_count 18 = .ok (.aload_n 0, 1) := by decide +kernel
theorem dX17_count_19 : decode cX17_count 19 = .ok (.getfield 34, 3) := by decide +kernel
theorem dX17_count_22 : decode cX17_count 22 = .ok (.iload_n 1, 1) := by decide +kernel
theorem dX17_count_23 : decode cX17_count 23 = .ok (.iaload, 1) := by decide +kernel
theorem dX17_count_24 : decode cX17_count 24 = .ok (.ifCond .ne 13, 3) := by decide +kernel
theorem dX17_count_27 : decode cX17_count 27 = .ok (.aload_n 0, 1) := by decide +kernel
theorem dX17_count_28 : decode cX17_count 28 = .ok (.getfield 31, 3) := by decide +kernel
theorem dX17_count_31 : decode cX17_count 31 = .ok (.iload_n 1, 1) := by decide +kernel
theorem dX17_count_32 : decode cX17_count 32 = .ok (.dup2, 1) := by decide +kernel
theorem dX17_count_33 : decode cX17_count 33 = .ok (.iaload, 1) := by decide +kernel
theorem dX17_count_34 : decode cX17_count 34 = .ok (.iconst 1, 1) := by decide +kernel
theorem dX17_count_35 : decode cX17_count 35 = .ok (.iadd, 1) := by decide +kernel
theorem dX17_count_36 : decode cX17_count 36 = .ok (.iastore, 1) := by decide +kernel
theorem dX17_count_4 : decode cX17_count 4 = .ok (.aload_n 0, 1) := by decide +kernel
theorem dX17_count_5 : decode cX17_count 5 = .ok (.getfield 31, 3) := by decide +kernel
theorem dX17_count_8 : decode cX17_count 8 = .ok (.iload_n 1, 1) := by decide +kernel
theorem dX17_count_9 : decode cX17_count 9 = .ok (.iconst 0, 1) := by decide +kernel
theorem dX17_count_10 : decode cX17_count 10 = .ok (.iastore, 1) := by decide +kernel
theorem dX17_count_11 : decode cX17_count 11 = .ok (.goto 26, 3) := by decide +kernel
theorem dX17_kept_0 : decode cX17_kept 0 = .ok (.aload_n 0, 1) := by decide +kernel
theorem dX17_kept_1 : decode cX17_kept 1 = .ok (.getfield 7, 3) := by decide +kernel
theorem dX17_kept_4 : decode cX17_kept 4 = .ok (.iload_n 1, 1) := by decide +kernel
theorem dX17_kept_5 : decode cX17_kept 5 = .ok (.iaload, 1) := by decide +kernel
theorem dX17_kept_6 : decode cX17_kept 6 = .ok (.tableswitch 204 16 24 #[50, 57, 64, 72, 107, 113, 120, 160, 175], 50) := by decide +kernel
theorem dX17_kept_210 : decode cX17_kept 210 = .ok (.iload_n 2, 1) := by decide +kernel
theorem dX17_kept_211 : decode cX17_kept 211 = .ok (.ifCond .ne 7, 3) := by decide +kernel
theorem dX17_kept_218 : decode cX17_kept 218 = .ok (.aload_n 0, 1) := by decide +kernel
theorem dX17_kept_219 : decode cX17_kept 219 = .ok (.getfield 31, 3) := by decide +kernel
theorem dX17_kept_222 : decode cX17_kept 222 = .ok (.iload_n 1, 1) := by decide +kernel
theorem dX17_kept_223 : decode cX17_kept 223 = .ok (.iaload, 1) := by decide +kernel
theorem dX17_kept_224 : decode cX17_kept 224 = .ok (.iconst 1, 1) := by decide +kernel
theorem dX17_kept_225 : decode cX17_kept 225 = .ok (.iadd, 1) := by decide +kernel
theorem dX17_kept_226 : decode cX17_kept 226 = .ok (.istore 4, 2) := by decide +kernel
theorem dX17_kept_228 : decode cX17_kept 228 = .ok (.aload_n 0, 1) := by decide +kernel
theorem dX17_kept_229 : decode cX17_kept 229 = .ok (.getfield 31, 3) := by decide +kernel
theorem dX17_kept_232 : decode cX17_kept 232 = .ok (.iload_n 1, 1) := by decide +kernel
theorem dX17_kept_233 : decode cX17_kept 233 = .ok (.iload 4, 2) := by decide +kernel
theorem dX17_kept_235 : decode cX17_kept 235 = .ok (.aload_n 0, 1) := by decide +kernel
theorem dX17_kept_236 : decode cX17_kept 236 = .ok (.getfield 13, 3) := by decide +kernel
theorem dX17_kept_239 : decode cX17_kept 239 = .ok (.iload_n 1, 1) := by decide +kernel
theorem dX17_kept_240 : decode cX17_kept 240 = .ok (.iaload, 1) := by decide +kernel
theorem dX17_kept_241 : decode cX17_kept 241 = .ok (.if_icmp .ge 8, 3) := by decide +kernel
theorem dX17_kept_249 : decode cX17_kept 249 = .ok (.aload_n 0, 1) := by decide +kernel
theorem dX17_kept_250 : decode cX17_kept 250 = .ok (.getfield 13, 3) := by decide +kernel
theorem dX17_kept_253 : decode cX17_kept 253 = .ok (.iload_n 1, 1) := by decide +kernel
theorem dX17_kept_254 : decode cX17_kept 254 = .ok (.iaload, 1) := by decide +kernel
theorem dX17_kept_255 : decode cX17_kept 255 = .ok (.iastore, 1) := by decide +kernel
theorem dX17_kept_256 : decode cX17_kept 256 = .ok (.aload_n 0, 1) := by decide +kernel
theorem dX17_kept_257 : decode cX17_kept 257 = .ok (.getfield 31, 3) := by decide +kernel
theorem dX17_kept_260 : decode cX17_kept 260 = .ok (.iload_n 1, 1) := by decide +kernel
theorem dX17_kept_261 : decode cX17_kept 261 = .ok (.iaload, 1) := by decide +kernel
theorem dX17_kept_262 : decode cX17_kept 262 = .ok (.ireturn, 1) := by decide +kernel
theorem dX17_kept_244 : decode cX17_kept 244 = .ok (.iload 4, 2) := by decide +kernel
theorem dX17_kept_246 : decode cX17_kept 246 = .ok (.goto 9, 3) := by decide +kernel
theorem dX17_kept_214 : decode cX17_kept 214 = .ok (.iconst 0, 1) := by decide +kernel
theorem dX17_kept_215 : decode cX17_kept 215 = .ok (.goto 11, 3) := by decide +kernel
theorem dX17_kept_56 : decode cX17_kept 56 = .ok (.aload_n 0, 1) := by decide +kernel
theorem dX17_kept_57 : decode cX17_kept 57 = .ok (.getfield 31, 3) := by decide +kernel
theorem dX17_kept_60 : decode cX17_kept 60 = .ok (.iload_n 1, 1) := by decide +kernel
theorem dX17_kept_61 : decode cX17_kept 61 = .ok (.iaload, 1) := by decide +kernel
theorem dX17_kept_62 : decode cX17_kept 62 = .ok (.ireturn, 1) := by decide +kernel
theorem dX17_kept_63 : decode cX17_kept 63 = .ok (.aload_n 0, 1) := by decide +kernel
theorem dX17_kept_64 : decode cX17_kept 64 = .ok (.iload_n 1, 1) := by decide +kernel
theorem dX17_kept_65 : decode cX17_kept 65 = .ok (.iload_n 2, 1) := by decide +kernel
theorem dX17_kept_66 : decode cX17_kept 66 = .ok (.invokevirtual 82, 3) := by decide +kernel
theorem dX17_kept_69 : decode cX17_kept 69 = .ok (.ireturn, 1) := by decide +kernel
theorem dX17_kept_70 : decode cX17_kept 70 = .ok (.aload_n 0, 1) := by decide +kernel
theorem dX17_kept_71 : decode cX17_kept 71 = .ok (.iload_n 1, 1) := by decide +kernel
theorem dX17_kept_72 : decode cX17_kept 72 = .ok (.iload_n 2, 1) := by decide +kernel
theorem dX17_kept_73 : decode cX17_kept 73 = .ok (.iload_n 3, 1) := by decide +kernel
theorem dX17_kept_74 : decode cX17_kept 74 = .ok (.invokevirtual 85, 3) := by decide +kernel
theorem dX17_kept_77 : decode cX17_kept 77 = .ok (.ireturn, 1) := by decide +kernel
theorem dX17_kept_78 : decode cX17_kept 78 = .ok (.aload_n 0, 1) := by decide +kernel
theorem dX17_kept_79 : decode cX17_kept 79 = .ok (.getfield 31, 3) := by decide +kernel
theorem dX17_kept_82 : decode cX17_kept 82 = .ok (.iload_n 1, 1) := by decide +kernel
theorem dX17_kept_83 : decode cX17_kept 83 = .ok (.iload_n 2, 1) := by decide +kernel
theorem dX17_kept_84 : decode cX17_kept 84 = .ok (.ifCond .eq 7, 3) := by decide +kernel
theorem dX17_kept_91 : decode cX17_kept 91 = .ok (.iload_n 3, 1) := by decide +kernel
theorem dX17_kept_92 : decode cX17_kept 92 = .ok (.ifCond .eq 7, 3) := by decide +kernel
theorem dX17_kept_99 : decode cX17_kept 99 = .ok (.aload_n 0, 1) := by decide +kernel
theorem dX17_kept_100 : decode cX17_kept 100 = .ok (.getfield 31, 3) := by decide +kernel
theorem dX17_kept_103 : decode cX17_kept 103 = .ok (.iload_n 1, 1) := by decide +kernel
theorem dX17_kept_104 : decode cX17_kept 104 = .ok (.iaload, 1) := by decide +kernel
theorem dX17_kept_105 : decode cX17_kept 105 = .ok (.iastore, 1) := by decide +kernel
theorem dX17_kept_106 : decode cX17_kept 106 = .ok (.aload_n 0, 1) := by decide +kernel
theorem dX17_kept_107 : decode cX17_kept 107 = .ok (.getfield 31, 3) := by decide +kernel
theorem dX17_kept_110 : decode cX17_kept 110 = .ok (.iload_n 1, 1) := by decide +kernel
theorem dX17_kept_111 : decode cX17_kept 111 = .ok (.iaload, 1) := by decide +kernel
theorem dX17_kept_112 : decode cX17_kept 112 = .ok (.ireturn, 1) := by decide +kernel
theorem dX17_kept_95 : decode cX17_kept 95 = .ok (.iconst 0, 1) := by decide +kernel
theorem dX17_kept_96 : decode cX17_kept 96 = .ok (.goto 9, 3) := by decide +kernel
theorem dX17_kept_87 : decode cX17_kept 87 = .ok (.iconst 1, 1) := by decide +kernel
theorem dX17_kept_88 : decode cX17_kept 88 = .ok (.goto 17, 3) := by decide +kernel
theorem dX17_kept_113 : decode cX17_kept 113 = .ok (.aload_n 0, 1) := by decide +kernel
theorem dX17_kept_114 : decode cX17_kept 114 = .ok (.iload_n 1, 1) := by decide +kernel
theorem dX17_kept_115 : decode cX17_kept 115 = .ok (.invokevirtual 89, 3) := by decide +kernel
theorem dX17_kept_118 : decode cX17_kept 118 = .ok (.ireturn, 1) := by decide +kernel
theorem dX17_kept_119 : decode cX17_kept 119 = .ok (.aload_n 0, 1) := by decide +kernel
theorem dX17_kept_120 : decode cX17_kept 120 = .ok (.iload_n 1, 1) := by decide +kernel
theorem dX17_kept_121 : decode cX17_kept 121 = .ok (.iload_n 2, 1) := by decide +kernel
theorem dX17_kept_122 : decode cX17_kept 122 = .ok (.invokevirtual 92, 3) := by decide +kernel
theorem dX17_kept_125 : decode cX17_kept 125 = .ok (.ireturn, 1) := by decide +kernel
theorem dX17_kept_126 : decode cX17_kept 126 = .ok (.iload_n 2, 1) := by decide +kernel
theorem dX17_kept_127 : decode cX17_kept 127 = .ok (.aload_n 0, 1) := by decide +kernel
theorem dX17_kept_128 : decode cX17_kept 128 = .ok (.getfield 13, 3) := by decide +kernel
theorem dX17_kept_131 : decode cX17_kept 131 = .ok (.iload_n 1, 1) := by decide +kernel
theorem dX17_kept_132 : decode cX17_kept 132 = .ok (.iaload, 1) := by decide +kernel
theorem dX17_kept_133 : decode cX17_kept 133 = .ok (.if_icmp .ge 12, 3) := by decide +kernel
theorem dX17_kept_145 : decode cX17_kept 145 = .ok (.iload_n 2, 1) := by decide +kernel
theorem dX17_kept_146 : decode cX17_kept 146 = .ok (.aload_n 0, 1) := by decide +kernel
theorem dX17_kept_147 : decode cX17_kept 147 = .ok (.getfield 16, 3) := by decide +kernel
theorem dX17_kept_150 : decode cX17_kept 150 = .ok (.iload_n 1, 1) := by decide +kernel
theorem dX17_kept_151 : decode cX17_kept 151 = .ok (.iaload, 1) := by decide +kernel
theorem dX17_kept_152 : decode cX17_kept 152 = .ok (.if_icmp .le 12, 3) := by decide +kernel
theorem dX17_kept_164 : decode cX17_kept 164 = .ok (.iload_n 2, 1) := by decide +kernel
theorem dX17_kept_165 : decode cX17_kept 165 = .ok (.ireturn, 1) := by decide +kernel
theorem dX17_kept_155 : decode cX17_kept 155 = .ok (.aload_n 0, 1) := by decide +kernel
theorem dX17_kept_156 : decode cX17_kept 156 = .ok (.getfield 16, 3) := by decide +kernel
theorem dX17_kept_159 : decode cX17_kept 159 = .ok (.iload_n 1, 1) := by decide +kernel
theorem dX17_kept_160 : decode cX17_kept 160 = .ok (.iaload, 1) := by decide +kernel
theorem dX17_kept_161 : decode cX17_kept 161 = .ok (.goto 4, 3) := by decide +kernel
theorem dX17_kept_136 : decode cX17_kept 136 = .ok (.aload_n 0, 1) := by decide +kernel
theorem dX17_kept_137 : decode cX17_kept 137 = .ok (.getfield 13, 3) := by decide +kernel
theorem dX17_kept_140 : decode cX17_kept 140 = .ok (.iload_n 1, 1) := by decide +kernel
theorem dX17_kept_141 : decode cX17_kept 141 = .ok (.iaload, 1) := by decide +kernel
theorem dX17_kept_142 : decode cX17_kept 142 = .ok (.goto 23, 3) := by decide +kernel
theorem dX17_kept_166 : decode cX17_kept 166 = .ok (.iload_n 3, 1) := by decide +kernel
theorem dX17_kept_167 : decode cX17_kept 167 = .ok (.ifCond .eq 12, 3) := by decide +kernel
theorem dX17_kept_179 : decode cX17_kept 179 = .ok (.iload_n 2, 1) := by decide +kernel
theorem dX17_kept_180 : decode cX17_kept 180 = .ok (.ireturn, 1) := by decide +kernel
theorem dX17_kept_170 : decode cX17_kept 170 = .ok (.aload_n 0, 1) := by decide +kernel
theorem dX17_kept_171 : decode cX17_kept 171 = .ok (.getfield 28, 3) := by decide +kernel
theorem dX17_kept_174 : decode cX17_kept 174 = .ok (.iload_n 1, 1) := by decide +kernel
theorem dX17_kept_175 : decode cX17_kept 175 = .ok (.iaload, 1) := by decide +kernel
theorem dX17_kept_176 : decode cX17_kept 176 = .ok (.goto 4, 3) := by decide +kernel
theorem dX17_kept_181 : decode cX17_kept 181 = .ok (.aload_n 0, 1) := by decide +kernel
theorem dX17_kept_182 : decode cX17_kept 182 = .ok (.getfield 31, 3) := by decide +kernel
theorem dX17_kept_185 : decode cX17_kept 185 = .ok (.iload_n 1, 1) := by decide +kernel
theorem dX17_kept_186 : decode cX17_kept 186 = .ok (.iload_n 3, 1) := by decide +kernel
theorem dX17_kept_187 : decode cX17_kept 187 = .ok (.ifCond .eq 7, 3) := by decide +kernel
theorem dX17_kept_194 : decode cX17_kept 194 = .ok (.aload_n 0, 1) := by decide +kernel
theorem dX17_kept_195 : decode cX17_kept 195 = .ok (.getfield 31, 3) := by decide +kernel
theorem dX17_kept_198 : decode cX17_kept 198 = .ok (.iload_n 1, 1) := by decide +kernel
theorem dX17_kept_199 : decode cX17_kept 199 = .ok (.iaload, 1) := by decide +kernel
theorem dX17_kept_200 : decode cX17_kept 200 = .ok (.iload_n 2, 1) := by decide +kernel
theorem dX17_kept_201 : decode cX17_kept 201 = .ok (.iadd, 1) := by decide +kernel
theorem dX17_kept_202 : decode cX17_kept 202 = .ok (.iastore, 1) := by decide +kernel
theorem dX17_kept_203 : decode cX17_kept 203 = .ok (.aload_n 0, 1) := by decide +kernel
theorem dX17_kept_204 : decode cX17_kept 204 = .ok (.getfield 31, 3) := by decide +kernel
theorem dX17_kept_207 : decode cX17_kept 207 = .ok (.iload_n 1, 1) := by decide +kernel
theorem dX17_kept_208 : decode cX17_kept 208 = .ok (.iaload, 1) := by decide +kernel
theorem dX17_kept_209 : decode cX17_kept 209 = .ok (.ireturn, 1) := by decide +kernel
theorem dX17_kept_190 : decode cX17_kept 190 = .ok (.iconst 0, 1) := by decide +kernel
theorem dX17_kept_191 : decode cX17_kept 191 = .ok (.goto 11, 3) := by decide +kernel
theorem zl_X16_236 : zm_L zk_E RX16 236 yX16_beside (.code yX16_beside cX16_beside 5 (some .int)) 2 ∧ Cond.instanceMethod yX16_beside ∈ zk_E.2.2.1 ∧ Cond.selects yX16_beside.cls yX16_beside yX16_beside ∈ zk_E.2.2.1 := ⟨⟨zk_b17 203 (by decide +kernel) rfl, zk_b1 14 (by decide +kernel) rfl, zk_b17 200 (by decide +kernel) rfl, by decide +kernel, by decide +kernel, by decide +kernel⟩, zk_b17 202 (by decide +kernel) rfl, zk_s13 (q := (yX16_beside, 40)) 3 (by decide +kernel)⟩
theorem zl_X16_239 : zm_L zk_E RX16 239 yX16_hasDoor (.code yX16_hasDoor cX16_hasDoor 7 (some .boolean)) 1 ∧ Cond.instanceMethod yX16_hasDoor ∈ zk_E.2.2.1 ∧ Cond.selects yX16_hasDoor.cls yX16_hasDoor yX16_hasDoor ∈ zk_E.2.2.1 := ⟨⟨zk_b17 215 (by decide +kernel) rfl, zk_b1 14 (by decide +kernel) rfl, zk_b17 212 (by decide +kernel) rfl, by decide +kernel, by decide +kernel, by decide +kernel⟩, zk_b17 214 (by decide +kernel) rfl, zk_s13 (q := (yX16_hasDoor, 40)) 4 (by decide +kernel)⟩
theorem zl_X16_242 : zm_L zk_E RX16 242 yX16_low (.code yX16_low cX16_low 3 (some .int)) 1 ∧ Cond.instanceMethod yX16_low ∈ zk_E.2.2.1 ∧ Cond.selects yX16_low.cls yX16_low yX16_low ∈ zk_E.2.2.1 := ⟨⟨zk_b18 179 (by decide +kernel) rfl, zk_b1 14 (by decide +kernel) rfl, zk_b18 176 (by decide +kernel) rfl, by decide +kernel, by decide +kernel, by decide +kernel⟩, zk_b18 178 (by decide +kernel) rfl, zk_s14 (q := (yX16_low, 40)) 11 (by decide +kernel)⟩
theorem zl_X17_1 : Cond.methodLink RX17 1 Lib.objectInit ∈ zk_E.2.2.1 ∧ Cond.instanceMethod Lib.objectInit ∈ zk_E.2.2.1 ∧ Cond.code Lib.objectInit ⟨#[0xb1]⟩ 1 none ∈ zk_E.2.2.1 := ⟨zk_b15 0 (by decide +kernel) rfl, zk_b1 43 (by decide +kernel) rfl, zk_b1 44 (by decide +kernel) rfl⟩
theorem zl_X17_7 : zm_F zk_E RX17 7 17 1 := ⟨RX17, TX17, 19, rfl, zk_i17, by decide, zk_b15 3 (by decide +kernel) rfl⟩
theorem zt_17_1 : zm_T zk_E RX17 17 1 (.array .int) true := ⟨RX17, TX17, 19, tyX17, rfl, tyX17_ok, nmX17, rfl, rfl, rfl⟩
theorem zl_X17_13 : zm_F zk_E RX17 13 17 2 := ⟨RX17, TX17, 19, rfl, zk_i17, by decide, zk_b15 5 (by decide +kernel) rfl⟩
theorem zt_17_2 : zm_T zk_E RX17 17 2 (.array .int) true := ⟨RX17, TX17, 19, tyX17, rfl, tyX17_ok, nmX17, rfl, rfl, rfl⟩
theorem zl_X17_16 : zm_F zk_E RX17 16 17 3 := ⟨RX17, TX17, 19, rfl, zk_i17, by decide, zk_b15 7 (by decide +kernel) rfl⟩
theorem zt_17_3 : zm_T zk_E RX17 17 3 (.array .int) true := ⟨RX17, TX17, 19, tyX17, rfl, tyX17_ok, nmX17, rfl, rfl, rfl⟩
theorem zl_X17_19 : zm_F zk_E RX17 19 17 4 := ⟨RX17, TX17, 19, rfl, zk_i17, by decide, zk_b15 9 (by decide +kernel) rfl⟩
theorem zt_17_4 : zm_T zk_E RX17 17 4 (.array .int) true := ⟨RX17, TX17, 19, tyX17, rfl, tyX17_ok, nmX17, rfl, rfl, rfl⟩
theorem zl_X17_22 : zm_F zk_E RX17 22 17 5 := ⟨RX17, TX17, 19, rfl, zk_i17, by decide, zk_b15 11 (by decide +kernel) rfl⟩
theorem zt_17_5 : zm_T zk_E RX17 17 5 (.array .int) true := ⟨RX17, TX17, 19, tyX17, rfl, tyX17_ok, nmX17, rfl, rfl, rfl⟩
theorem zl_X17_25 : zm_F zk_E RX17 25 17 6 := ⟨RX17, TX17, 19, rfl, zk_i17, by decide, zk_b15 13 (by decide +kernel) rfl⟩
theorem zt_17_6 : zm_T zk_E RX17 17 6 (.array .int) true := ⟨RX17, TX17, 19, tyX17, rfl, tyX17_ok, nmX17, rfl, rfl, rfl⟩
theorem zl_X17_28 : zm_F zk_E RX17 28 17 7 := ⟨RX17, TX17, 19, rfl, zk_i17, by decide, zk_b15 15 (by decide +kernel) rfl⟩
theorem zt_17_7 : zm_T zk_E RX17 17 7 (.array .int) true := ⟨RX17, TX17, 19, tyX17, rfl, tyX17_ok, nmX17, rfl, rfl, rfl⟩
theorem zl_X17_31 : zm_F zk_E RX17 31 17 8 := ⟨RX17, TX17, 19, rfl, zk_i17, by decide, zk_b15 17 (by decide +kernel) rfl⟩
theorem zt_17_8 : zm_T zk_E RX17 17 8 (.array .int) true := ⟨RX17, TX17, 19, tyX17, rfl, tyX17_ok, nmX17, rfl, rfl, rfl⟩
theorem zl_X17_34 : zm_F zk_E RX17 34 17 9 := ⟨RX17, TX17, 19, rfl, zk_i17, by decide, zk_b15 19 (by decide +kernel) rfl⟩
theorem zt_17_9 : zm_T zk_E RX17 17 9 (.array .int) true := ⟨RX17, TX17, 19, tyX17, rfl, tyX17_ok, nmX17, rfl, rfl, rfl⟩
theorem zl_X17_37 : zm_F zk_E RX17 37 17 10 := ⟨RX17, TX17, 19, rfl, zk_i17, by decide, zk_b15 21 (by decide +kernel) rfl⟩
theorem zt_17_10 : zm_T zk_E RX17 17 10 (.array .boolean) true := ⟨RX17, TX17, 19, tyX17, rfl, tyX17_ok, nmX17, rfl, rfl, rfl⟩
theorem zl_X17_41 : zm_F zk_E RX17 41 17 11 := ⟨RX17, TX17, 19, rfl, zk_i17, by decide, zk_b15 23 (by decide +kernel) rfl⟩
theorem zt_17_11 : zm_T zk_E RX17 17 11 (.array .int) true := ⟨RX17, TX17, 19, tyX17, rfl, tyX17_ok, nmX17, rfl, rfl, rfl⟩
theorem zl_X17_44 : zm_F zk_E RX17 44 17 12 := ⟨RX17, TX17, 19, rfl, zk_i17, by decide, zk_b15 25 (by decide +kernel) rfl⟩
theorem zt_17_12 : zm_T zk_E RX17 17 12 (.array .int) true := ⟨RX17, TX17, 19, tyX17, rfl, tyX17_ok, nmX17, rfl, rfl, rfl⟩
theorem zl_X17_47 : zm_F zk_E RX17 47 17 13 := ⟨RX17, TX17, 19, rfl, zk_i17, by decide, zk_b15 27 (by decide +kernel) rfl⟩
theorem zt_17_13 : zm_T zk_E RX17 17 13 (.array .int) true := ⟨RX17, TX17, 19, tyX17, rfl, tyX17_ok, nmX17, rfl, rfl, rfl⟩
theorem zl_X17_50 : zm_F zk_E RX17 50 17 15 := ⟨RX17, TX17, 19, rfl, zk_i17, by decide, zk_b15 31 (by decide +kernel) rfl⟩
theorem zt_17_15 : zm_T zk_E RX17 17 15 (.array .int) true := ⟨RX17, TX17, 19, tyX17, rfl, tyX17_ok, nmX17, rfl, rfl, rfl⟩
theorem zl_X17_53 : zm_F zk_E RX17 53 17 16 := ⟨RX17, TX17, 19, rfl, zk_i17, by decide, zk_b15 32 (by decide +kernel) rfl⟩
theorem zt_17_16 : zm_T zk_E RX17 17 16 (.array .boolean) true := ⟨RX17, TX17, 19, tyX17, rfl, tyX17_ok, nmX17, rfl, rfl, rfl⟩
theorem zl_X17_56 : zm_F zk_E RX17 56 17 17 := ⟨RX17, TX17, 19, rfl, zk_i17, by decide, zk_b15 33 (by decide +kernel) rfl⟩
theorem zt_17_17 : zm_T zk_E RX17 17 17 (.array .int) true := ⟨RX17, TX17, 19, tyX17, rfl, tyX17_ok, nmX17, rfl, rfl, rfl⟩
theorem zl_X17_59 : zm_L zk_E RX17 59 yX17_inputs (.code yX17_inputs cX17_inputs 1 (some .int)) 1 ∧ Cond.static yX17_inputs ∈ zk_E.2.2.1 := ⟨⟨zk_b20 129 (by decide +kernel) rfl, zk_b1 17 (by decide +kernel) rfl, zk_b20 127 (by decide +kernel) rfl, by decide +kernel, by decide +kernel, by decide +kernel⟩, zk_b20 128 (by decide +kernel) rfl⟩
theorem zl_X17_63 : zm_F zk_E RX17 63 17 0 := ⟨RX17, TX17, 19, rfl, zk_i17, by decide, zk_b15 1 (by decide +kernel) rfl⟩
theorem zl_X17_67 : zm_L zk_E RX17 67 yX17_mayCome (.code yX17_mayCome cX17_mayCome 5 (some .boolean)) 1 ∧ Cond.instanceMethod yX17_mayCome ∈ zk_E.2.2.1 ∧ Cond.selects yX17_mayCome.cls yX17_mayCome yX17_mayCome ∈ zk_E.2.2.1 := ⟨⟨zk_b20 126 (by decide +kernel) rfl, zk_b1 17 (by decide +kernel) rfl, zk_b20 123 (by decide +kernel) rfl, by decide +kernel, by decide +kernel, by decide +kernel⟩, zk_b20 125 (by decide +kernel) rfl, zk_s17 (q := (yX17_mayCome, 19)) 6 (by decide +kernel)⟩
theorem zl_X17_71 : zm_L zk_E RX17 71 yX17_sort (.code yX17_sort cX17_sort 5 (some .int)) 0 ∧ Cond.instanceMethod yX17_sort ∈ zk_E.2.2.1 ∧ Cond.selects yX17_sort.cls yX17_sort yX17_sort ∈ zk_E.2.2.1 := ⟨⟨zk_b20 122 (by decide +kernel) rfl, zk_b1 17 (by decide +kernel) rfl, zk_b20 138 (by decide +kernel) rfl, by decide +kernel, by decide +kernel, by decide +kernel⟩, zk_b20 120 (by decide +kernel) rfl, zk_b20 121 (by decide +kernel) rfl⟩
theorem zt_17_0 : zm_T zk_E RX17 17 0 .int false := ⟨RX17, TX17, 19, tyX17, rfl, tyX17_ok, nmX17, rfl, rfl, rfl⟩
theorem zl_X17_75 : zm_L zk_E RX17 75 yX17_in (.code yX17_in cX17_in 3 (some .int)) 2 ∧ Cond.instanceMethod yX17_in ∈ zk_E.2.2.1 ∧ Cond.selects yX17_in.cls yX17_in yX17_in ∈ zk_E.2.2.1 := ⟨⟨zk_b21 116 (by decide +kernel) rfl, zk_b1 17 (by decide +kernel) rfl, zk_b21 113 (by decide +kernel) rfl, by decide +kernel, by decide +kernel, by decide +kernel⟩, zk_b21 115 (by decide +kernel) rfl, zk_s18 (q := (yX17_in, 19)) 11 (by decide +kernel)⟩
theorem zl_X17_79 : zm_F zk_E RX17 79 17 14 := ⟨RX17, TX17, 19, rfl, zk_i17, by decide, zk_b15 29 (by decide +kernel) rfl⟩
theorem zl_X17_82 : zm_L zk_E RX17 82 yX17_ramp (.code yX17_ramp cX17_ramp 7 (some .int)) 2 ∧ Cond.instanceMethod yX17_ramp ∈ zk_E.2.2.1 ∧ Cond.selects yX17_ramp.cls yX17_ramp yX17_ramp ∈ zk_E.2.2.1 := ⟨⟨zk_b21 132 (by decide +kernel) rfl, zk_b1 17 (by decide +kernel) rfl, zk_b21 129 (by decide +kernel) rfl, by decide +kernel, by decide +kernel, by decide +kernel⟩, zk_b21 131 (by decide +kernel) rfl, zk_s18 (q := (yX17_ramp, 19)) 15 (by decide +kernel)⟩
theorem zl_X17_85 : zm_L zk_E RX17 85 yX17_count (.code yX17_count cX17_count 4 (some .int)) 3 ∧ Cond.instanceMethod yX17_count ∈ zk_E.2.2.1 ∧ Cond.selects yX17_count.cls yX17_count yX17_count ∈ zk_E.2.2.1 := ⟨⟨zk_b21 136 (by decide +kernel) rfl, zk_b1 17 (by decide +kernel) rfl, zk_b21 133 (by decide +kernel) rfl, by decide +kernel, by decide +kernel, by decide +kernel⟩, zk_b21 135 (by decide +kernel) rfl, zk_s19 (q := (yX17_count, 19)) 0 (by decide +kernel)⟩
theorem zl_X17_89 : zm_L zk_E RX17 89 yX17_clock (.code yX17_clock cX17_clock 5 (some .int)) 1 ∧ Cond.instanceMethod yX17_clock ∈ zk_E.2.2.1 ∧ Cond.selects yX17_clock.cls yX17_clock yX17_clock ∈ zk_E.2.2.1 := ⟨⟨zk_b21 140 (by decide +kernel) rfl, zk_b1 17 (by decide +kernel) rfl, zk_b21 137 (by decide +kernel) rfl, by decide +kernel, by decide +kernel, by decide +kernel⟩, zk_b21 139 (by decide +kernel) rfl, zk_s19 (q := (yX17_clock, 19)) 1 (by decide +kernel)⟩
theorem zl_X17_92 : zm_L zk_E RX17 92 yX17_pulse (.code yX17_pulse cX17_pulse 3 (some .int)) 2 ∧ Cond.instanceMethod yX17_pulse ∈ zk_E.2.2.1 ∧ Cond.selects yX17_pulse.cls yX17_pulse yX17_pulse ∈ zk_E.2.2.1 := ⟨⟨zk_b21 144 (by decide +kernel) rfl, zk_b1 17 (by decide +kernel) rfl, zk_b21 141 (by decide +kernel) rfl, by decide +kernel, by decide +kernel, by decide +kernel⟩, zk_b21 143 (by decide +kernel) rfl, zk_s19 (q := (yX17_pulse, 19)) 2 (by decide +kernel)⟩
set_option maxHeartbeats 4000000 in
set_option maxRecDepth 100000 in
theorem zt_X16_between {l : Launch} {V : zm_V} {N : Nat} {S : zm_S} {out : (Int32 × zm_S)} {d : Nat} {a0 : Nat} {i1 : Int32} {i2 : Int32} (hd : 5 ≤ d) (h : zf_X16_between N a0 i1 i2 S = some out) : zm_Met l zk_E V yX16_between (.code yX16_between cX16_between 3 (some .int)) d [.ref a0, .int i1, .int i2] S 0 0 (zo_i out) zo_x := by
  refine zm_of (by decide +kernel) (Nat.le_of_ble_eq_true rfl) ?_
  intro p e R s m args below meth c hRR hX hr hxt
  have hR : R.frames = d ∧ R.locals = 64 * d := by rw [hRR]; exact ⟨rfl, rfl⟩
  have hX : zm_X p R s m args meth c RX16 "between" cX16_between 3 zk_E V 0 0 := hX
  unfold zf_X16_between at h
  refine zw_sub (lv' := [(0, .ref a0), (1, .int i1), (2, .int i2)]) (List.forall_mem_cons.mpr ⟨rfl, (List.forall_mem_cons.mpr ⟨rfl, (List.forall_mem_cons.mpr ⟨rfl, zs_nil⟩)⟩)⟩) ?_
  refine zw_iload_n hX dX16_between_0 rfl ?_
  refine zw_iload_n hX dX16_between_1 rfl ?_
  refine zw_icmp_ne (tgt := 16) hX dX16_between_2 (by decide) (fun c2 => ?_) (fun c2 => ?_)
  · rw [if_neg c2] at h
    refine zw_aload_n hX dX16_between_16 rfl ?_
    refine zw_iload_n hX dX16_between_17 rfl ?_
    refine zw_iload_n hX dX16_between_18 rfl ?_
    obtain ⟨_, gi, h⟩ := zb_some h
    obtain ⟨r2, g, h⟩ := zb_some h
    refine zc_Vi (as := [.int i1, .int i2]) hX gi (zt_X16_beside (d := d - 1) (by omega) g) zl_X16_236 rfl dX16_between_19 ⟨rfl, rfl, Nat.le_of_ble_eq_true rfl⟩ ⟨by omega, by omega⟩ ?_
    obtain rfl := Option.some.inj h
    exact zw_iret hX hr dX16_between_22 rfl ⟨rfl, rfl⟩
  · rw [if_pos c2] at h
    refine zw_aload_n hX dX16_between_5 rfl ?_
    refine zw_iload_n hX dX16_between_6 rfl ?_
    refine zw_iload_n hX dX16_between_7 rfl ?_
    obtain ⟨_, gi, h⟩ := zb_some h
    obtain ⟨r4, g, h⟩ := zb_some h
    refine zc_Vi (as := [.int i1, .int i1]) hX gi (zt_X16_beside (d := d - 1) (by omega) g) zl_X16_236 rfl dX16_between_8 ⟨rfl, rfl, Nat.le_of_ble_eq_true rfl⟩ ⟨by omega, by omega⟩ ?_
    refine zw_iconst (v := (2 : Int32)) hX dX16_between_11 (by decide) ?_
    refine zw_idiv hX dX16_between_12 (by decide) ?_
    refine zw_goto (tgt := 22) hX dX16_between_13 (by decide) ?_
    obtain rfl := Option.some.inj h
    exact zw_iret hX hr dX16_between_22 rfl ⟨rfl, rfl⟩
set_option maxHeartbeats 4000000 in
set_option maxRecDepth 100000 in
theorem zt_X16_way_L2 {p : Program} {l : Launch} {e : Env} {R : Room} {s : State} {m : MethodId} {args : Array Value} {below : List Frame} {meth : Method} {c : Code} {V : zm_V} {mc ms d rc rs : Nat} (hX : zm_X p R s m args meth c RX16 "way" cX16_way 5 zk_E V mc ms) (hr : meth.sig.returnType = (some .int)) (hR : R.frames = d ∧ R.locals = 64 * d) (hd : 4 ≤ d) {N : Nat} {res : (Int32 × zm_S) ⊕ ((Unit) × zm_S)} {out : (Int32 × zm_S)} (a0 : Nat) (i1 : Int32) (i2 : Int32) (hf : ∀ o, res = .inl o → o = out) (hk : ∀ (S' : zm_S), res = .inr ((), S') → zw p l e R s m args below meth c (vx_MQ below (zm_Qc zk_E V (zo_i out)) (zm_XC zk_E V zo_x) args s mc ms (fun q => V.2.2.2.1 ≤ q)) 5 zk_E V mc ms 36 [(0, .ref a0), (2, .int i2)] [] S' rc rs) : ∀ (n : Nat) (i3 : Int32) (S : zm_S), zf_X16_way_L2 N n a0 i1 i2 i3 S = some res → zw p l e R s m args below meth c (vx_MQ below (zm_Qc zk_E V (zo_i out)) (zm_XC zk_E V zo_x) args s mc ms (fun q => V.2.2.2.1 ≤ q)) 5 zk_E V mc ms 2 [(0, .ref a0), (1, .int i1), (2, .int i2), (3, .int i3)] [] S rc rs := by
  intro n
  induction n with
  | zero => intro i3 S h; cases h
  | succ n ih =>
    intro i3 S h
    rw [zf_X16_way_L2] at h
    refine zw_iload_n hX dX16_way_2 rfl ?_
    refine zw_aload_n hX dX16_way_3 rfl ?_
    obtain ⟨v1, g, h⟩ := zb_some h
    refine zw_geti hX zl_X16_171 dX16_way_4 g ?_
    refine zw_icmp_gt (tgt := 36) hX dX16_way_7 (by decide) (fun c7 => ?_) (fun c7 => ?_)
    · rw [if_pos c7] at h
      refine zw_sub (lv' := [(0, .ref a0), (2, .int i2)]) (List.forall_mem_cons.mpr ⟨rfl, (List.forall_mem_cons.mpr ⟨rfl, zs_nil⟩)⟩) ?_
      exact hk  _ (Option.some.inj h).symm
    · rw [if_neg c7] at h
      refine zw_aload_n hX dX16_way_10 rfl ?_
      obtain ⟨b2, g, h⟩ := zb_some h
      refine zw_getr hX zl_X16_86 dX16_way_11 g ?_
      refine zw_iload_n hX dX16_way_14 rfl ?_
      refine zw_iload_n hX dX16_way_15 rfl ?_
      refine zw_iload_n hX dX16_way_16 rfl ?_
      refine zw_iconst (v := (1 : Int32)) hX dX16_way_17 (by decide) ?_
      refine zw_iadd hX dX16_way_18 ?_
      refine zw_icmp_ne (tgt := 26) hX dX16_way_19 (by decide) (fun c19 => ?_) (fun c19 => ?_)
      · rw [if_neg c19] at h
        refine zw_sipush (v := (1000 : Int32)) hX dX16_way_26 (by decide) ?_
        obtain ⟨S3, g, h⟩ := zb_some h
        refine zw_si hX dX16_way_29 g ?_
        refine zw_iinc (v := (i3 + (1 : Int32))) hX dX16_way_30 rfl rfl (by decide) ?_
        refine zw_goto (tgt := 2) hX dX16_way_33 (by decide) ?_
        refine zw_sub (lv' := [(0, .ref a0), (1, .int i1), (2, .int i2), (3, .int (i3 + (1 : Int32)))]) (List.forall_mem_cons.mpr ⟨rfl, (List.forall_mem_cons.mpr ⟨rfl, (List.forall_mem_cons.mpr ⟨rfl, (List.forall_mem_cons.mpr ⟨rfl, zs_nil⟩)⟩)⟩)⟩) ?_
        exact ih _ _ h
      · rw [if_pos c19] at h
        refine zw_iconst (v := (0 : Int32)) hX dX16_way_22 (by decide) ?_
        refine zw_goto (tgt := 29) hX dX16_way_23 (by decide) ?_
        obtain ⟨S4, g, h⟩ := zb_some h
        refine zw_si hX dX16_way_29 g ?_
        refine zw_iinc (v := (i3 + (1 : Int32))) hX dX16_way_30 rfl rfl (by decide) ?_
        refine zw_goto (tgt := 2) hX dX16_way_33 (by decide) ?_
        refine zw_sub (lv' := [(0, .ref a0), (1, .int i1), (2, .int i2), (3, .int (i3 + (1 : Int32)))]) (List.forall_mem_cons.mpr ⟨rfl, (List.forall_mem_cons.mpr ⟨rfl, (List.forall_mem_cons.mpr ⟨rfl, (List.forall_mem_cons.mpr ⟨rfl, zs_nil⟩)⟩)⟩)⟩) ?_
        exact ih _ _ h
set_option maxHeartbeats 4000000 in
set_option maxRecDepth 100000 in
theorem zt_X16_way_L47 {p : Program} {l : Launch} {e : Env} {R : Room} {s : State} {m : MethodId} {args : Array Value} {below : List Frame} {meth : Method} {c : Code} {V : zm_V} {mc ms d rc rs : Nat} (hX : zm_X p R s m args meth c RX16 "way" cX16_way 5 zk_E V mc ms) (hr : meth.sig.returnType = (some .int)) (hR : R.frames = d ∧ R.locals = 64 * d) (hd : 4 ≤ d) {N : Nat} {res : (Int32 × zm_S) ⊕ ((Int32) × zm_S)} {out : (Int32 × zm_S)} (a0 : Nat) (i2 : Int32) (hf : ∀ o, res = .inl o → o = out) (hk : ∀ (x3 : Int32) (S' : zm_S), res = .inr (x3, S') → zw p l e R s m args below meth c (vx_MQ below (zm_Qc zk_E V (zo_i out)) (zm_XC zk_E V zo_x) args s mc ms (fun q => V.2.2.2.1 ≤ q)) 5 zk_E V mc ms 134 [(0, .ref a0), (2, .int i2), (3, .int x3)] [] S' rc rs) : ∀ (n : Nat) (i3 : Int32) (i4 : Int32) (S : zm_S), zf_X16_way_L47 N n a0 i2 i3 i4 S = some res → zw p l e R s m args below meth c (vx_MQ below (zm_Qc zk_E V (zo_i out)) (zm_XC zk_E V zo_x) args s mc ms (fun q => V.2.2.2.1 ≤ q)) 5 zk_E V mc ms 47 [(0, .ref a0), (2, .int i2), (3, .int i3), (4, .int i4)] [] S rc rs := by
  intro n
  induction n with
  | zero => intro i3 i4 S h; cases h
  | succ n ih =>
    intro i3 i4 S h
    rw [zf_X16_way_L47] at h
    refine zw_iload hX dX16_way_47 rfl ?_
    refine zw_iconst (v := (2 : Int32)) hX dX16_way_49 (by decide) ?_
    refine zw_aload_n hX dX16_way_50 rfl ?_
    obtain ⟨v6, g, h⟩ := zb_some h
    refine zw_geti hX zl_X16_143 dX16_way_51 g ?_
    refine zw_imul hX dX16_way_54 ?_
    refine zw_icmp_ge (tgt := 134) hX dX16_way_55 (by decide) (fun c55 => ?_) (fun c55 => ?_)
    · rw [if_pos c55] at h
      refine zw_sub (lv' := [(0, .ref a0), (2, .int i2), (3, .int i3)]) (List.forall_mem_cons.mpr ⟨rfl, (List.forall_mem_cons.mpr ⟨rfl, (List.forall_mem_cons.mpr ⟨rfl, zs_nil⟩)⟩)⟩) ?_
      exact hk _ _ (Option.some.inj h).symm
    · rw [if_neg c55] at h
      refine zw_aload_n hX dX16_way_58 rfl ?_
      refine zw_iload hX dX16_way_59 rfl ?_
      obtain ⟨_, gi, h⟩ := zb_some h
      obtain ⟨r8, g, h⟩ := zb_some h
      refine zc_Vi (as := [.int i4]) hX gi (zt_X16_hasDoor (d := d - 1) (by omega) g) zl_X16_239 rfl dX16_way_61 ⟨rfl, rfl, Nat.le_of_ble_eq_true rfl⟩ ⟨by omega, by omega⟩ ?_
      refine zw_if_eq (tgt := 128) hX dX16_way_64 (by decide) (fun c64 => ?_) (fun c64 => ?_)
      · rw [if_pos c64] at h
        refine zw_iinc (v := (i4 + (1 : Int32))) hX dX16_way_128 rfl rfl (by decide) ?_
        refine zw_goto (tgt := 47) hX dX16_way_131 (by decide) ?_
        refine zw_sub (lv' := [(0, .ref a0), (2, .int i2), (3, .int i3), (4, .int (i4 + (1 : Int32)))]) (List.forall_mem_cons.mpr ⟨rfl, (List.forall_mem_cons.mpr ⟨rfl, (List.forall_mem_cons.mpr ⟨rfl, (List.forall_mem_cons.mpr ⟨rfl, zs_nil⟩)⟩)⟩)⟩) ?_
        exact ih _ _ _ h
      · rw [if_neg c64] at h
        refine zw_aload_n hX dX16_way_67 rfl ?_
        obtain ⟨b9, g, h⟩ := zb_some h
        refine zw_getr hX zl_X16_86 dX16_way_68 g ?_
        refine zw_aload_n hX dX16_way_71 rfl ?_
        refine zw_iload hX dX16_way_72 rfl ?_
        obtain ⟨_, gi, h⟩ := zb_some h
        obtain ⟨r11, g, h⟩ := zb_some h
        refine zc_Vi (as := [.int i4]) hX gi (zt_X16_left (d := d - 1) (by omega) g) zl_X16_153 rfl dX16_way_74 ⟨rfl, rfl, Nat.le_of_ble_eq_true rfl⟩ ⟨by omega, by omega⟩ ?_
        refine zw_iconst (v := (1 : Int32)) hX dX16_way_77 (by decide) ?_
        refine zw_iadd hX dX16_way_78 ?_
        obtain ⟨v12, g, h⟩ := zb_some h
        refine zw_xi hX dX16_way_79 g ?_
        refine zw_iconst (v := (1 : Int32)) hX dX16_way_80 (by decide) ?_
        refine zw_iadd hX dX16_way_81 ?_
        refine zw_aload_n hX dX16_way_82 rfl ?_
        obtain ⟨b13, g, h⟩ := zb_some h
        refine zw_getr hX zl_X16_86 dX16_way_83 g ?_
        refine zw_aload_n hX dX16_way_86 rfl ?_
        refine zw_iload hX dX16_way_87 rfl ?_
        obtain ⟨_, gi, h⟩ := zb_some h
        obtain ⟨r15, g, h⟩ := zb_some h
        refine zc_Vi (as := [.int i4]) hX gi (zt_X16_right (d := d - 1) (by omega) g) zl_X16_227 rfl dX16_way_89 ⟨rfl, rfl, Nat.le_of_ble_eq_true rfl⟩ ⟨by omega, by omega⟩ ?_
        refine zw_iconst (v := (1 : Int32)) hX dX16_way_92 (by decide) ?_
        refine zw_iadd hX dX16_way_93 ?_
        obtain ⟨v16, g, h⟩ := zb_some h
        refine zw_xi hX dX16_way_94 g ?_
        refine zw_icmp_ge (tgt := 128) hX dX16_way_95 (by decide) (fun c95 => ?_) (fun c95 => ?_)
        · rw [if_pos c95] at h
          refine zw_iinc (v := (i4 + (1 : Int32))) hX dX16_way_128 rfl rfl (by decide) ?_
          refine zw_goto (tgt := 47) hX dX16_way_131 (by decide) ?_
          refine zw_sub (lv' := [(0, .ref a0), (2, .int i2), (3, .int i3), (4, .int (i4 + (1 : Int32)))]) (List.forall_mem_cons.mpr ⟨rfl, (List.forall_mem_cons.mpr ⟨rfl, (List.forall_mem_cons.mpr ⟨rfl, (List.forall_mem_cons.mpr ⟨rfl, zs_nil⟩)⟩)⟩)⟩) ?_
          exact ih _ _ _ h
        · rw [if_neg c95] at h
          refine zw_aload_n hX dX16_way_98 rfl ?_
          obtain ⟨b17, g, h⟩ := zb_some h
          refine zw_getr hX zl_X16_86 dX16_way_99 g ?_
          refine zw_aload_n hX dX16_way_102 rfl ?_
          refine zw_iload hX dX16_way_103 rfl ?_
          obtain ⟨_, gi, h⟩ := zb_some h
          obtain ⟨r19, g, h⟩ := zb_some h
          refine zc_Vi (as := [.int i4]) hX gi (zt_X16_right (d := d - 1) (by omega) g) zl_X16_227 rfl dX16_way_105 ⟨rfl, rfl, Nat.le_of_ble_eq_true rfl⟩ ⟨by omega, by omega⟩ ?_
          refine zw_iconst (v := (1 : Int32)) hX dX16_way_108 (by decide) ?_
          refine zw_iadd hX dX16_way_109 ?_
          refine zw_aload_n hX dX16_way_110 rfl ?_
          obtain ⟨b20, g, h⟩ := zb_some h
          refine zw_getr hX zl_X16_86 dX16_way_111 g ?_
          refine zw_aload_n hX dX16_way_114 rfl ?_
          refine zw_iload hX dX16_way_115 rfl ?_
          obtain ⟨_, gi, h⟩ := zb_some h
          obtain ⟨r22, g, h⟩ := zb_some h
          refine zc_Vi (as := [.int i4]) hX gi (zt_X16_left (d := d - 1) (by omega) g) zl_X16_153 rfl dX16_way_117 ⟨rfl, rfl, Nat.le_of_ble_eq_true rfl⟩ ⟨by omega, by omega⟩ ?_
          refine zw_iconst (v := (1 : Int32)) hX dX16_way_120 (by decide) ?_
          refine zw_iadd hX dX16_way_121 ?_
          obtain ⟨v23, g, h⟩ := zb_some h
          refine zw_xi hX dX16_way_122 g ?_
          refine zw_iconst (v := (1 : Int32)) hX dX16_way_123 (by decide) ?_
          refine zw_iadd hX dX16_way_124 ?_
          obtain ⟨S24, g, h⟩ := zb_some h
          refine zw_si hX dX16_way_125 g ?_
          refine zw_iconst (v := (1 : Int32)) hX dX16_way_126 (by decide) ?_
          refine zw_istore_n hX dX16_way_127 (by decide) ?_
          refine zw_iinc (v := (i4 + (1 : Int32))) hX dX16_way_128 rfl rfl (by decide) ?_
          refine zw_goto (tgt := 47) hX dX16_way_131 (by decide) ?_
          refine zw_sub (lv' := [(0, .ref a0), (2, .int i2), (3, .int (1 : Int32)), (4, .int (i4 + (1 : Int32)))]) (List.forall_mem_cons.mpr ⟨rfl, (List.forall_mem_cons.mpr ⟨rfl, (List.forall_mem_cons.mpr ⟨rfl, (List.forall_mem_cons.mpr ⟨rfl, zs_nil⟩)⟩)⟩)⟩) ?_
          exact ih _ _ _ h
set_option maxHeartbeats 4000000 in
set_option maxRecDepth 100000 in
theorem zt_X16_way_L38 {p : Program} {l : Launch} {e : Env} {R : Room} {s : State} {m : MethodId} {args : Array Value} {below : List Frame} {meth : Method} {c : Code} {V : zm_V} {mc ms d rc rs : Nat} (hX : zm_X p R s m args meth c RX16 "way" cX16_way 5 zk_E V mc ms) (hr : meth.sig.returnType = (some .int)) (hR : R.frames = d ∧ R.locals = 64 * d) (hd : 4 ≤ d) {N : Nat} {res : (Int32 × zm_S) ⊕ ((Unit) × zm_S)} {out : (Int32 × zm_S)} (a0 : Nat) (i2 : Int32) (hf : ∀ o, res = .inl o → o = out) (hk : ∀ (S' : zm_S), res = .inr ((), S') → zw p l e R s m args below meth c (vx_MQ below (zm_Qc zk_E V (zo_i out)) (zm_XC zk_E V zo_x) args s mc ms (fun q => V.2.2.2.1 ≤ q)) 5 zk_E V mc ms 137 [(0, .ref a0), (2, .int i2)] [] S' rc rs) : ∀ (n : Nat) (i3 : Int32) (S : zm_S), zf_X16_way_L38 N n a0 i2 i3 S = some res → zw p l e R s m args below meth c (vx_MQ below (zm_Qc zk_E V (zo_i out)) (zm_XC zk_E V zo_x) args s mc ms (fun q => V.2.2.2.1 ≤ q)) 5 zk_E V mc ms 38 [(0, .ref a0), (2, .int i2), (3, .int i3)] [] S rc rs := by
  intro n
  induction n with
  | zero => intro i3 S h; cases h
  | succ n ih =>
    intro i3 S h
    rw [zf_X16_way_L38] at h
    refine zw_iload_n hX dX16_way_38 rfl ?_
    refine zw_if_eq (tgt := 137) hX dX16_way_39 (by decide) (fun c39 => ?_) (fun c39 => ?_)
    · rw [if_pos c39] at h
      refine zw_sub (lv' := [(0, .ref a0), (2, .int i2)]) (List.forall_mem_cons.mpr ⟨rfl, (List.forall_mem_cons.mpr ⟨rfl, zs_nil⟩)⟩) ?_
      exact hk  _ (Option.some.inj h).symm
    · rw [if_neg c39] at h
      refine zw_iconst (v := (0 : Int32)) hX dX16_way_42 (by decide) ?_
      refine zw_istore_n hX dX16_way_43 (by decide) ?_
      refine zw_iconst (v := (0 : Int32)) hX dX16_way_44 (by decide) ?_
      refine zw_istore hX dX16_way_45 (by decide) ?_
      obtain ⟨r, g, h⟩ := zb_some h
      refine zw_sub (lv' := [(0, .ref a0), (2, .int i2), (3, .int (0 : Int32)), (4, .int (0 : Int32))]) (List.forall_mem_cons.mpr ⟨rfl, (List.forall_mem_cons.mpr ⟨rfl, (List.forall_mem_cons.mpr ⟨rfl, (List.forall_mem_cons.mpr ⟨rfl, zs_nil⟩)⟩)⟩)⟩) ?_
      refine zt_X16_way_L47 hX hr hR hd (res := r) (out := out) a0 i2 ?_ ?_ N _ _ _ g
      · intro o ho
        subst ho
        exact hf _ (Option.some.inj h).symm
      · intro v26 S25 hx
        subst hx
        try dsimp only at h
        refine zw_goto (tgt := 38) hX dX16_way_134 (by decide) ?_
        refine zw_sub (lv' := [(0, .ref a0), (2, .int i2), (3, .int v26)]) (List.forall_mem_cons.mpr ⟨rfl, (List.forall_mem_cons.mpr ⟨rfl, (List.forall_mem_cons.mpr ⟨rfl, zs_nil⟩)⟩)⟩) ?_
        exact ih _ _ h
set_option maxHeartbeats 4000000 in
set_option maxRecDepth 100000 in
theorem zt_X16_way {l : Launch} {V : zm_V} {N : Nat} {S : zm_S} {out : (Int32 × zm_S)} {d : Nat} {a0 : Nat} {i1 : Int32} {i2 : Int32} (hd : 4 ≤ d) (h : zf_X16_way N a0 i1 i2 S = some out) : zm_Met l zk_E V yX16_way (.code yX16_way cX16_way 5 (some .int)) d [.ref a0, .int i1, .int i2] S 0 0 (zo_i out) zo_x := by
  refine zm_of (by decide +kernel) (Nat.le_of_ble_eq_true rfl) ?_
  intro p e R s m args below meth c hRR hX hr hxt
  have hR : R.frames = d ∧ R.locals = 64 * d := by rw [hRR]; exact ⟨rfl, rfl⟩
  have hX : zm_X p R s m args meth c RX16 "way" cX16_way 5 zk_E V 0 0 := hX
  unfold zf_X16_way at h
  refine zw_sub (lv' := [(0, .ref a0), (1, .int i1), (2, .int i2)]) (List.forall_mem_cons.mpr ⟨rfl, (List.forall_mem_cons.mpr ⟨rfl, (List.forall_mem_cons.mpr ⟨rfl, zs_nil⟩)⟩)⟩) ?_
  refine zw_iconst (v := (0 : Int32)) hX dX16_way_0 (by decide) ?_
  refine zw_istore_n hX dX16_way_1 (by decide) ?_
  obtain ⟨r, g, h⟩ := zb_some h
  refine zw_sub (lv' := [(0, .ref a0), (1, .int i1), (2, .int i2), (3, .int (0 : Int32))]) (List.forall_mem_cons.mpr ⟨rfl, (List.forall_mem_cons.mpr ⟨rfl, (List.forall_mem_cons.mpr ⟨rfl, (List.forall_mem_cons.mpr ⟨rfl, zs_nil⟩)⟩)⟩)⟩) ?_
  refine zt_X16_way_L2 hX hr hR hd (res := r) (out := out) a0 i1 i2 ?_ ?_ N _ _ g
  · intro o ho
    subst ho
    exact Option.some.inj h
  · intro  S5 hx
    subst hx
    try dsimp only at h
    refine zw_iconst (v := (1 : Int32)) hX dX16_way_36 (by decide) ?_
    refine zw_istore_n hX dX16_way_37 (by decide) ?_
    obtain ⟨r, g, h⟩ := zb_some h
    refine zw_sub (lv' := [(0, .ref a0), (2, .int i2), (3, .int (1 : Int32))]) (List.forall_mem_cons.mpr ⟨rfl, (List.forall_mem_cons.mpr ⟨rfl, (List.forall_mem_cons.mpr ⟨rfl, zs_nil⟩)⟩)⟩) ?_
    refine zt_X16_way_L38 hX hr hR hd (res := r) (out := out) a0 i2 ?_ ?_ N _ _ g
    · intro o ho
      subst ho
      exact Option.some.inj h
    · intro  S27 hx
      subst hx
      try dsimp only at h
      refine zw_aload_n hX dX16_way_137 rfl ?_
      obtain ⟨b28, g, h⟩ := zb_some h
      refine zw_getr hX zl_X16_86 dX16_way_138 g ?_
      refine zw_iload_n hX dX16_way_141 rfl ?_
      refine zw_iconst (v := (1 : Int32)) hX dX16_way_142 (by decide) ?_
      refine zw_iadd hX dX16_way_143 ?_
      obtain ⟨v29, g, h⟩ := zb_some h
      refine zw_xi hX dX16_way_144 g ?_
      refine zw_sipush (v := (1000 : Int32)) hX dX16_way_145 (by decide) ?_
      refine zw_icmp_ne (tgt := 156) hX dX16_way_148 (by decide) (fun c148 => ?_) (fun c148 => ?_)
      · rw [if_neg c148] at h
        refine zw_aload_n hX dX16_way_156 rfl ?_
        obtain ⟨b30, g, h⟩ := zb_some h
        refine zw_getr hX zl_X16_86 dX16_way_157 g ?_
        refine zw_iload_n hX dX16_way_160 rfl ?_
        refine zw_iconst (v := (1 : Int32)) hX dX16_way_161 (by decide) ?_
        refine zw_iadd hX dX16_way_162 ?_
        obtain ⟨v31, g, h⟩ := zb_some h
        refine zw_xi hX dX16_way_163 g ?_
        obtain rfl := Option.some.inj h
        exact zw_iret hX hr dX16_way_164 rfl ⟨rfl, rfl⟩
      · rw [if_pos c148] at h
        refine zw_bipush (v := (-2 : Int32)) hX dX16_way_151 (by decide) ?_
        refine zw_goto (tgt := 164) hX dX16_way_153 (by decide) ?_
        obtain rfl := Option.some.inj h
        exact zw_iret hX hr dX16_way_164 rfl ⟨rfl, rfl⟩
set_option maxHeartbeats 4000000 in
set_option maxRecDepth 100000 in
theorem zt_X16_pieceOf_L5 {p : Program} {l : Launch} {e : Env} {R : Room} {s : State} {m : MethodId} {args : Array Value} {below : List Frame} {meth : Method} {c : Code} {V : zm_V} {mc ms d rc rs : Nat} (hX : zm_X p R s m args meth c RX16 "pieceOf" cX16_pieceOf 5 zk_E V mc ms) (hr : meth.sig.returnType = (some .int)) (hR : R.frames = d ∧ R.locals = 64 * d) (hd : 1 ≤ d) {N : Nat} {res : (Int32 × zm_S) ⊕ ((Unit) × zm_S)} {out : (Int32 × zm_S)} (a0 : Nat) (i1 : Int32) (hf : ∀ o, res = .inl o → o = out) (hk : ∀ (S' : zm_S), res = .inr ((), S') → zw p l e R s m args below meth c (vx_MQ below (zm_Qc zk_E V (zo_i out)) (zm_XC zk_E V zo_x) args s mc ms (fun q => V.2.2.2.1 ≤ q)) 5 zk_E V mc ms 41 [] [] S' rc rs) : ∀ (n : Nat) (i3 : Int32) (i4 : Int32) (S : zm_S), zf_X16_pieceOf_L5 N n a0 i1 i3 i4 S = some res → zw p l e R s m args below meth c (vx_MQ below (zm_Qc zk_E V (zo_i out)) (zm_XC zk_E V zo_x) args s mc ms (fun q => V.2.2.2.1 ≤ q)) 5 zk_E V mc ms 5 [(0, .ref a0), (1, .int i1), (3, .int i3), (4, .int i4)] [] S rc rs := by
  intro n
  induction n with
  | zero => intro i3 i4 S h; cases h
  | succ n ih =>
    intro i3 i4 S h
    rw [zf_X16_pieceOf_L5] at h
    refine zw_iload hX dX16_pieceOf_5 rfl ?_
    refine zw_aload_n hX dX16_pieceOf_7 rfl ?_
    obtain ⟨v1, g, h⟩ := zb_some h
    refine zw_geti hX zl_X16_143 dX16_pieceOf_8 g ?_
    refine zw_icmp_ge (tgt := 41) hX dX16_pieceOf_11 (by decide) (fun c11 => ?_) (fun c11 => ?_)
    · rw [if_pos c11] at h
      refine zw_sub (lv' := []) zs_nil ?_
      exact hk  _ (Option.some.inj h).symm
    · rw [if_neg c11] at h
      refine zw_aload_n hX dX16_pieceOf_14 rfl ?_
      obtain ⟨b2, g, h⟩ := zb_some h
      refine zw_getr hX zl_X16_65 dX16_pieceOf_15 g ?_
      refine zw_iload hX dX16_pieceOf_18 rfl ?_
      obtain ⟨v3, g, h⟩ := zb_some h
      refine zw_xi hX dX16_pieceOf_20 g ?_
      refine zw_iload_n hX dX16_pieceOf_21 rfl ?_
      refine zw_icmp_ne (tgt := 35) hX dX16_pieceOf_22 (by decide) (fun c22 => ?_) (fun c22 => ?_)
      · rw [if_neg c22] at h
        refine zw_iinc (v := (i4 + (1 : Int32))) hX dX16_pieceOf_35 rfl rfl (by decide) ?_
        refine zw_goto (tgt := 5) hX dX16_pieceOf_38 (by decide) ?_
        refine zw_sub (lv' := [(0, .ref a0), (1, .int i1), (3, .int i3), (4, .int (i4 + (1 : Int32)))]) (List.forall_mem_cons.mpr ⟨rfl, (List.forall_mem_cons.mpr ⟨rfl, (List.forall_mem_cons.mpr ⟨rfl, (List.forall_mem_cons.mpr ⟨rfl, zs_nil⟩)⟩)⟩)⟩) ?_
        exact ih _ _ _ h
      · rw [if_pos c22] at h
        refine zw_iload_n hX dX16_pieceOf_25 rfl ?_
        refine zw_if_ne (tgt := 32) hX dX16_pieceOf_26 (by decide) (fun c26 => ?_) (fun c26 => ?_)
        · rw [if_neg c26] at h
          refine zw_iinc (v := (i3 + (-1 : Int32))) hX dX16_pieceOf_32 rfl rfl (by decide) ?_
          refine zw_iinc (v := (i4 + (1 : Int32))) hX dX16_pieceOf_35 rfl rfl (by decide) ?_
          refine zw_goto (tgt := 5) hX dX16_pieceOf_38 (by decide) ?_
          refine zw_sub (lv' := [(0, .ref a0), (1, .int i1), (3, .int (i3 + (-1 : Int32))), (4, .int (i4 + (1 : Int32)))]) (List.forall_mem_cons.mpr ⟨rfl, (List.forall_mem_cons.mpr ⟨rfl, (List.forall_mem_cons.mpr ⟨rfl, (List.forall_mem_cons.mpr ⟨rfl, zs_nil⟩)⟩)⟩)⟩) ?_
          exact ih _ _ _ h
        · rw [if_pos c26] at h
          refine zw_iload hX dX16_pieceOf_29 rfl ?_
          have hz := hf _ (Option.some.inj h).symm
          subst hz
          exact zw_iret hX hr dX16_pieceOf_31 rfl ⟨rfl, rfl⟩
set_option maxHeartbeats 4000000 in
set_option maxRecDepth 100000 in
theorem zt_X16_pieceOf {l : Launch} {V : zm_V} {N : Nat} {S : zm_S} {out : (Int32 × zm_S)} {d : Nat} {a0 : Nat} {i1 : Int32} {i2 : Int32} (hd : 1 ≤ d) (h : zf_X16_pieceOf N a0 i1 i2 S = some out) : zm_Met l zk_E V yX16_pieceOf (.code yX16_pieceOf cX16_pieceOf 5 (some .int)) d [.ref a0, .int i1, .int i2] S 0 0 (zo_i out) zo_x := by
  refine zm_of (by decide +kernel) (Nat.le_of_ble_eq_true rfl) ?_
  intro p e R s m args below meth c hRR hX hr hxt
  have hR : R.frames = d ∧ R.locals = 64 * d := by rw [hRR]; exact ⟨rfl, rfl⟩
  have hX : zm_X p R s m args meth c RX16 "pieceOf" cX16_pieceOf 5 zk_E V 0 0 := hX
  unfold zf_X16_pieceOf at h
  refine zw_sub (lv' := [(0, .ref a0), (1, .int i1), (2, .int i2)]) (List.forall_mem_cons.mpr ⟨rfl, (List.forall_mem_cons.mpr ⟨rfl, (List.forall_mem_cons.mpr ⟨rfl, zs_nil⟩)⟩)⟩) ?_
  refine zw_iload_n hX dX16_pieceOf_0 rfl ?_
  refine zw_istore_n hX dX16_pieceOf_1 (by decide) ?_
  refine zw_iconst (v := (0 : Int32)) hX dX16_pieceOf_2 (by decide) ?_
  refine zw_istore hX dX16_pieceOf_3 (by decide) ?_
  obtain ⟨r, g, h⟩ := zb_some h
  refine zw_sub (lv' := [(0, .ref a0), (1, .int i1), (3, .int i2), (4, .int (0 : Int32))]) (List.forall_mem_cons.mpr ⟨rfl, (List.forall_mem_cons.mpr ⟨rfl, (List.forall_mem_cons.mpr ⟨rfl, (List.forall_mem_cons.mpr ⟨rfl, zs_nil⟩)⟩)⟩)⟩) ?_
  refine zt_X16_pieceOf_L5 hX hr hR hd (res := r) (out := out) a0 i1 ?_ ?_ N _ _ _ g
  · intro o ho
    subst ho
    exact Option.some.inj h
  · intro  S4 hx
    subst hx
    try dsimp only at h
    refine zw_iconst (v := (-1 : Int32)) hX dX16_pieceOf_41 (by decide) ?_
    obtain rfl := Option.some.inj h
    exact zw_iret hX hr dX16_pieceOf_42 rfl ⟨rfl, rfl⟩
set_option maxHeartbeats 4000000 in
set_option maxRecDepth 100000 in
theorem zt_X16_low {l : Launch} {V : zm_V} {N : Nat} {S : zm_S} {out : (Int32 × zm_S)} {d : Nat} {a0 : Nat} {i1 : Int32} (hd : 1 ≤ d) (h : zf_X16_low N a0 i1 S = some out) : zm_Met l zk_E V yX16_low (.code yX16_low cX16_low 3 (some .int)) d [.ref a0, .int i1] S 0 0 (zo_i out) zo_x := by
  refine zm_of (by decide +kernel) (Nat.le_of_ble_eq_true rfl) ?_
  intro p e R s m args below meth c hRR hX hr hxt
  have hR : R.frames = d ∧ R.locals = 64 * d := by rw [hRR]; exact ⟨rfl, rfl⟩
  have hX : zm_X p R s m args meth c RX16 "low" cX16_low 3 zk_E V 0 0 := hX
  unfold zf_X16_low at h
  refine zw_sub (lv' := [(0, .ref a0), (1, .int i1)]) (List.forall_mem_cons.mpr ⟨rfl, (List.forall_mem_cons.mpr ⟨rfl, zs_nil⟩)⟩) ?_
  refine zw_aload_n hX dX16_low_0 rfl ?_
  obtain ⟨b1, g, h⟩ := zb_some h
  refine zw_getr hX zl_X16_65 dX16_low_1 g ?_
  refine zw_iload_n hX dX16_low_4 rfl ?_
  obtain ⟨v2, g, h⟩ := zb_some h
  refine zw_xi hX dX16_low_5 g ?_
  refine zw_istore_n hX dX16_low_6 (by decide) ?_
  refine zw_aload_n hX dX16_low_7 rfl ?_
  obtain ⟨b3, g, h⟩ := zb_some h
  refine zw_getr hX zl_X16_59 dX16_low_8 g ?_
  refine zw_aload_n hX dX16_low_11 rfl ?_
  obtain ⟨b4, g, h⟩ := zb_some h
  refine zw_getr hX zl_X16_68 dX16_low_12 g ?_
  refine zw_iload_n hX dX16_low_15 rfl ?_
  obtain ⟨v5, g, h⟩ := zb_some h
  refine zw_xi hX dX16_low_16 g ?_
  obtain ⟨v6, g, h⟩ := zb_some h
  refine zw_xi hX dX16_low_17 g ?_
  refine zw_aload_n hX dX16_low_18 rfl ?_
  obtain ⟨b7, g, h⟩ := zb_some h
  refine zw_getr hX zl_X16_7 dX16_low_19 g ?_
  refine zw_iload_n hX dX16_low_22 rfl ?_
  obtain ⟨v8, g, h⟩ := zb_some h
  refine zw_xi hX dX16_low_23 g ?_
  refine zw_isub hX dX16_low_24 ?_
  refine zw_aload_n hX dX16_low_25 rfl ?_
  obtain ⟨b9, g, h⟩ := zb_some h
  refine zw_getr hX zl_X16_62 dX16_low_26 g ?_
  refine zw_aload_n hX dX16_low_29 rfl ?_
  obtain ⟨b10, g, h⟩ := zb_some h
  refine zw_getr hX zl_X16_68 dX16_low_30 g ?_
  refine zw_iload_n hX dX16_low_33 rfl ?_
  obtain ⟨v11, g, h⟩ := zb_some h
  refine zw_xi hX dX16_low_34 g ?_
  obtain ⟨v12, g, h⟩ := zb_some h
  refine zw_xi hX dX16_low_35 g ?_
  refine zw_iadd hX dX16_low_36 ?_
  refine zw_aload_n hX dX16_low_37 rfl ?_
  obtain ⟨b13, g, h⟩ := zb_some h
  refine zw_getr hX zl_X16_13 dX16_low_38 g ?_
  refine zw_iload_n hX dX16_low_41 rfl ?_
  obtain ⟨v14, g, h⟩ := zb_some h
  refine zw_xi hX dX16_low_42 g ?_
  refine zw_isub hX dX16_low_43 ?_
  obtain rfl := Option.some.inj h
  exact zw_iret hX hr dX16_low_44 rfl ⟨rfl, rfl⟩
set_option maxHeartbeats 4000000 in
set_option maxRecDepth 100000 in
theorem zt_X16_partFrom_J53 {p : Program} {l : Launch} {e : Env} {R : Room} {s : State} {m : MethodId} {args : Array Value} {below : List Frame} {meth : Method} {c : Code} {V : zm_V} {mc ms d rc rs : Nat} (hX : zm_X p R s m args meth c RX16 "partFrom" cX16_partFrom 5 zk_E V mc ms) (hr : meth.sig.returnType = (some .int)) (hR : R.frames = d ∧ R.locals = 64 * d) (hd : 2 ≤ d) {N : Nat} {a0 : Nat} {i1 : Int32} {i3 : Int32} {t0 : Int32} {out : (Int32 × zm_S)} {S : zm_S} (h : zf_X16_partFrom_J53 N a0 i1 i3 t0 S = some out) : zw p l e R s m args below meth c (vx_MQ below (zm_Qc zk_E V (zo_i out)) (zm_XC zk_E V zo_x) args s mc ms (fun q => V.2.2.2.1 ≤ q)) 5 zk_E V mc ms 53 [(0, .ref a0), (1, .int i1), (3, .int i3)] [.int t0] S rc rs := by
  unfold zf_X16_partFrom_J53 at h
  refine zw_istore hX dX16_partFrom_53 (by decide) ?_
  refine zw_iload hX dX16_partFrom_55 rfl ?_
  refine zw_if_ne (tgt := 64) hX dX16_partFrom_57 (by decide) (fun c57 => ?_) (fun c57 => ?_)
  · rw [if_neg c57] at h
    refine zw_aload_n hX dX16_partFrom_64 rfl ?_
    refine zw_iload_n hX dX16_partFrom_65 rfl ?_
    obtain ⟨_, gi, h⟩ := zb_some h
    obtain ⟨r16, g, h⟩ := zb_some h
    refine zc_Vi (as := [.int i1]) hX gi (zt_X16_low (d := d - 1) (by omega) g) zl_X16_242 rfl dX16_partFrom_66 ⟨rfl, rfl, Nat.le_of_ble_eq_true rfl⟩ ⟨by omega, by omega⟩ ?_
    refine zw_aload_n hX dX16_partFrom_69 rfl ?_
    obtain ⟨b17, g, h⟩ := zb_some h
    refine zw_getr hX zl_X16_26 dX16_partFrom_70 g ?_
    refine zw_iload_n hX dX16_partFrom_73 rfl ?_
    obtain ⟨v18, g, h⟩ := zb_some h
    refine zw_xi hX dX16_partFrom_74 g ?_
    refine zw_icmp_le (tgt := 86) hX dX16_partFrom_75 (by decide) (fun c75 => ?_) (fun c75 => ?_)
    · rw [if_pos c75] at h
      refine zw_aload_n hX dX16_partFrom_86 rfl ?_
      obtain ⟨b19, g, h⟩ := zb_some h
      refine zw_getr hX zl_X16_26 dX16_partFrom_87 g ?_
      refine zw_iload_n hX dX16_partFrom_90 rfl ?_
      obtain ⟨v20, g, h⟩ := zb_some h
      refine zw_xi hX dX16_partFrom_91 g ?_
      obtain rfl := Option.some.inj h
      exact zw_iret hX hr dX16_partFrom_92 rfl ⟨rfl, rfl⟩
    · rw [if_neg c75] at h
      refine zw_aload_n hX dX16_partFrom_78 rfl ?_
      refine zw_iload_n hX dX16_partFrom_79 rfl ?_
      obtain ⟨_, gi, h⟩ := zb_some h
      obtain ⟨r22, g, h⟩ := zb_some h
      refine zc_Vi (as := [.int i1]) hX gi (zt_X16_low (d := d - 1) (by omega) g) zl_X16_242 rfl dX16_partFrom_80 ⟨rfl, rfl, Nat.le_of_ble_eq_true rfl⟩ ⟨by omega, by omega⟩ ?_
      refine zw_goto (tgt := 92) hX dX16_partFrom_83 (by decide) ?_
      obtain rfl := Option.some.inj h
      exact zw_iret hX hr dX16_partFrom_92 rfl ⟨rfl, rfl⟩
  · rw [if_pos c57] at h
    refine zw_iconst (v := (-1 : Int32)) hX dX16_partFrom_60 (by decide) ?_
    refine zw_goto (tgt := 92) hX dX16_partFrom_61 (by decide) ?_
    obtain rfl := Option.some.inj h
    exact zw_iret hX hr dX16_partFrom_92 rfl ⟨rfl, rfl⟩
set_option maxHeartbeats 4000000 in
set_option maxRecDepth 100000 in
theorem zt_X16_partFrom {l : Launch} {V : zm_V} {N : Nat} {S : zm_S} {out : (Int32 × zm_S)} {d : Nat} {a0 : Nat} {i1 : Int32} {i2 : Int32} (hd : 2 ≤ d) (h : zf_X16_partFrom N a0 i1 i2 S = some out) : zm_Met l zk_E V yX16_partFrom (.code yX16_partFrom cX16_partFrom 5 (some .int)) d [.ref a0, .int i1, .int i2] S 0 0 (zo_i out) zo_x := by
  refine zm_of (by decide +kernel) (Nat.le_of_ble_eq_true rfl) ?_
  intro p e R s m args below meth c hRR hX hr hxt
  have hR : R.frames = d ∧ R.locals = 64 * d := by rw [hRR]; exact ⟨rfl, rfl⟩
  have hX : zm_X p R s m args meth c RX16 "partFrom" cX16_partFrom 5 zk_E V 0 0 := hX
  unfold zf_X16_partFrom at h
  refine zw_sub (lv' := [(0, .ref a0), (1, .int i1), (2, .int i2)]) (List.forall_mem_cons.mpr ⟨rfl, (List.forall_mem_cons.mpr ⟨rfl, (List.forall_mem_cons.mpr ⟨rfl, zs_nil⟩)⟩)⟩) ?_
  refine zw_bipush (v := (6 : Int32)) hX dX16_partFrom_0 (by decide) ?_
  refine zw_aload_n hX dX16_partFrom_2 rfl ?_
  obtain ⟨b1, g, h⟩ := zb_some h
  refine zw_getr hX zl_X16_65 dX16_partFrom_3 g ?_
  refine zw_iload_n hX dX16_partFrom_6 rfl ?_
  obtain ⟨v2, g, h⟩ := zb_some h
  refine zw_xi hX dX16_partFrom_7 g ?_
  refine zw_imul hX dX16_partFrom_8 ?_
  refine zw_iload_n hX dX16_partFrom_9 rfl ?_
  refine zw_iadd hX dX16_partFrom_10 ?_
  refine zw_istore_n hX dX16_partFrom_11 (by decide) ?_
  refine zw_aload_n hX dX16_partFrom_12 rfl ?_
  refine zw_iload_n hX dX16_partFrom_13 rfl ?_
  obtain ⟨_, gi, h⟩ := zb_some h
  obtain ⟨r4, g, h⟩ := zb_some h
  refine zc_Vi (as := [.int i1]) hX gi (zt_X16_low (d := d - 1) (by omega) g) zl_X16_242 rfl dX16_partFrom_14 ⟨rfl, rfl, Nat.le_of_ble_eq_true rfl⟩ ⟨by omega, by omega⟩ ?_
  refine zw_aload_n hX dX16_partFrom_17 rfl ?_
  refine zw_iload_n hX dX16_partFrom_18 rfl ?_
  obtain ⟨_, gi, h⟩ := zb_some h
  obtain ⟨r6, g, h⟩ := zb_some h
  refine zc_Vi (as := [.int i1]) hX gi (zt_X16_low (d := d - 1) (by omega) g) zl_X16_242 rfl dX16_partFrom_19 ⟨rfl, rfl, Nat.le_of_ble_eq_true rfl⟩ ⟨by omega, by omega⟩ ?_
  refine zw_aload_n hX dX16_partFrom_22 rfl ?_
  refine zw_iconst (v := (2 : Int32)) hX dX16_partFrom_23 (by decide) ?_
  refine zw_iload_n hX dX16_partFrom_24 rfl ?_
  refine zw_imul hX dX16_partFrom_25 ?_
  obtain ⟨_, gi, h⟩ := zb_some h
  obtain ⟨r8, g, h⟩ := zb_some h
  refine zc_Vi (as := [.int ((2 : Int32) * i1)]) hX gi (zt_X16_sideLength (d := d - 1) (by omega) g) zl_X16_230 rfl dX16_partFrom_26 ⟨rfl, rfl, Nat.le_of_ble_eq_true rfl⟩ ⟨by omega, by omega⟩ ?_
  refine zw_iadd hX dX16_partFrom_29 ?_
  refine zw_aload_n hX dX16_partFrom_30 rfl ?_
  obtain ⟨b9, g, h⟩ := zb_some h
  refine zw_getr hX zl_X16_26 dX16_partFrom_31 g ?_
  refine zw_iload_n hX dX16_partFrom_34 rfl ?_
  obtain ⟨v10, g, h⟩ := zb_some h
  refine zw_xi hX dX16_partFrom_35 g ?_
  refine zw_aload_n hX dX16_partFrom_36 rfl ?_
  obtain ⟨b11, g, h⟩ := zb_some h
  refine zw_getr hX zl_X16_29 dX16_partFrom_37 g ?_
  refine zw_iload_n hX dX16_partFrom_40 rfl ?_
  obtain ⟨v12, g, h⟩ := zb_some h
  refine zw_xi hX dX16_partFrom_41 g ?_
  obtain ⟨r14, g, h⟩ := zb_some h
  refine zc_Si (as := [.int r4.1, .int (r6.1 + r8.1), .int v10, .int v12]) hX (zt_X16_shared (d := d - 1) (by omega) g) zl_X16_214 dX16_partFrom_42 ⟨rfl, rfl, Nat.le_of_ble_eq_true rfl⟩ ⟨by omega, by omega⟩ ?_
  refine zw_if_le (tgt := 52) hX dX16_partFrom_45 (by decide) (fun c45 => ?_) (fun c45 => ?_)
  · rw [if_pos c45] at h
    refine zw_iconst (v := (0 : Int32)) hX dX16_partFrom_52 (by decide) ?_
    refine zw_sub (lv' := [(0, .ref a0), (1, .int i1), (3, .int (((6 : Int32) * v2) + i2))]) (List.forall_mem_cons.mpr ⟨rfl, (List.forall_mem_cons.mpr ⟨rfl, (List.forall_mem_cons.mpr ⟨rfl, zs_nil⟩)⟩)⟩) ?_
    exact zt_X16_partFrom_J53 hX hr hR hd h
  · rw [if_neg c45] at h
    refine zw_iconst (v := (1 : Int32)) hX dX16_partFrom_48 (by decide) ?_
    refine zw_goto (tgt := 53) hX dX16_partFrom_49 (by decide) ?_
    refine zw_sub (lv' := [(0, .ref a0), (1, .int i1), (3, .int (((6 : Int32) * v2) + i2))]) (List.forall_mem_cons.mpr ⟨rfl, (List.forall_mem_cons.mpr ⟨rfl, (List.forall_mem_cons.mpr ⟨rfl, zs_nil⟩)⟩)⟩) ?_
    exact zt_X16_partFrom_J53 hX hr hR hd h
set_option maxHeartbeats 4000000 in
set_option maxRecDepth 100000 in
theorem zt_X16_roomBeside {l : Launch} {V : zm_V} {N : Nat} {S : zm_S} {out : (Int32 × zm_S)} {d : Nat} {a0 : Nat} {i1 : Int32} {i2 : Int32} (hd : 4 ≤ d) (h : zf_X16_roomBeside N a0 i1 i2 S = some out) : zm_Met l zk_E V yX16_roomBeside (.code yX16_roomBeside cX16_roomBeside 3 (some .int)) d [.ref a0, .int i1, .int i2] S 0 0 (zo_i out) zo_x := by
  refine zm_of (by decide +kernel) (Nat.le_of_ble_eq_true rfl) ?_
  intro p e R s m args below meth c hRR hX hr hxt
  have hR : R.frames = d ∧ R.locals = 64 * d := by rw [hRR]; exact ⟨rfl, rfl⟩
  have hX : zm_X p R s m args meth c RX16 "roomBeside" cX16_roomBeside 3 zk_E V 0 0 := hX
  unfold zf_X16_roomBeside at h
  refine zw_sub (lv' := [(0, .ref a0), (1, .int i1), (2, .int i2)]) (List.forall_mem_cons.mpr ⟨rfl, (List.forall_mem_cons.mpr ⟨rfl, (List.forall_mem_cons.mpr ⟨rfl, zs_nil⟩)⟩)⟩) ?_
  refine zw_iload_n hX dX16_roomBeside_0 rfl ?_
  refine zw_if_eq (tgt := 14) hX dX16_roomBeside_1 (by decide) (fun c1 => ?_) (fun c1 => ?_)
  · rw [if_pos c1] at h
    refine zw_aload_n hX dX16_roomBeside_14 rfl ?_
    refine zw_iconst (v := (2 : Int32)) hX dX16_roomBeside_15 (by decide) ?_
    refine zw_iload_n hX dX16_roomBeside_16 rfl ?_
    refine zw_imul hX dX16_roomBeside_17 ?_
    obtain ⟨_, gi, h⟩ := zb_some h
    obtain ⟨r2, g, h⟩ := zb_some h
    refine zc_Vi (as := [.int ((2 : Int32) * i1)]) hX gi (zt_X16_right (d := d - 1) (by omega) g) zl_X16_227 rfl dX16_roomBeside_18 ⟨rfl, rfl, Nat.le_of_ble_eq_true rfl⟩ ⟨by omega, by omega⟩ ?_
    obtain rfl := Option.some.inj h
    exact zw_iret hX hr dX16_roomBeside_21 rfl ⟨rfl, rfl⟩
  · rw [if_neg c1] at h
    refine zw_aload_n hX dX16_roomBeside_4 rfl ?_
    refine zw_iconst (v := (2 : Int32)) hX dX16_roomBeside_5 (by decide) ?_
    refine zw_iload_n hX dX16_roomBeside_6 rfl ?_
    refine zw_imul hX dX16_roomBeside_7 ?_
    obtain ⟨_, gi, h⟩ := zb_some h
    obtain ⟨r4, g, h⟩ := zb_some h
    refine zc_Vi (as := [.int ((2 : Int32) * i1)]) hX gi (zt_X16_left (d := d - 1) (by omega) g) zl_X16_153 rfl dX16_roomBeside_8 ⟨rfl, rfl, Nat.le_of_ble_eq_true rfl⟩ ⟨by omega, by omega⟩ ?_
    refine zw_goto (tgt := 21) hX dX16_roomBeside_11 (by decide) ?_
    obtain rfl := Option.some.inj h
    exact zw_iret hX hr dX16_roomBeside_21 rfl ⟨rfl, rfl⟩
set_option maxHeartbeats 4000000 in
set_option maxRecDepth 100000 in
theorem zt_X16_cellAt {l : Launch} {V : zm_V} {N : Nat} {S : zm_S} {out : (Int32 × zm_S)} {d : Nat} {a0 : Nat} {i1 : Int32} {i2 : Int32} {i3 : Int32} {i4 : Int32} (hd : 1 ≤ d) (h : zf_X16_cellAt N a0 i1 i2 i3 i4 S = some out) : zm_Met l zk_E V yX16_cellAt (.code yX16_cellAt cX16_cellAt 5 (some .int)) d [.ref a0, .int i1, .int i2, .int i3, .int i4] S 0 0 (zo_i out) zo_x := by
  refine zm_of (by decide +kernel) (Nat.le_of_ble_eq_true rfl) ?_
  intro p e R s m args below meth c hRR hX hr hxt
  have hR : R.frames = d ∧ R.locals = 64 * d := by rw [hRR]; exact ⟨rfl, rfl⟩
  have hX : zm_X p R s m args meth c RX16 "cellAt" cX16_cellAt 5 zk_E V 0 0 := hX
  unfold zf_X16_cellAt at h
  refine zw_sub (lv' := [(0, .ref a0), (1, .int i1), (2, .int i2), (3, .int i3), (4, .int i4)]) (List.forall_mem_cons.mpr ⟨rfl, (List.forall_mem_cons.mpr ⟨rfl, (List.forall_mem_cons.mpr ⟨rfl, (List.forall_mem_cons.mpr ⟨rfl, (List.forall_mem_cons.mpr ⟨rfl, zs_nil⟩)⟩)⟩)⟩)⟩) ?_
  refine zw_aload_n hX dX16_cellAt_0 rfl ?_
  obtain ⟨b1, g, h⟩ := zb_some h
  refine zw_getr hX zl_X16_16 dX16_cellAt_1 g ?_
  refine zw_iload_n hX dX16_cellAt_4 rfl ?_
  obtain ⟨v2, g, h⟩ := zb_some h
  refine zw_xz hX dX16_cellAt_5 g ?_
  refine zw_if_eq (tgt := 42) hX dX16_cellAt_6 (by decide) (fun c6 => ?_) (fun c6 => ?_)
  · rw [if_pos c6] at h
    refine zw_iload hX dX16_cellAt_42 rfl ?_
    refine zw_if_eq (tgt := 66) hX dX16_cellAt_44 (by decide) (fun c44 => ?_) (fun c44 => ?_)
    · rw [if_pos c44] at h
      refine zw_aload_n hX dX16_cellAt_66 rfl ?_
      obtain ⟨b3, g, h⟩ := zb_some h
      refine zw_getr hX zl_X16_13 dX16_cellAt_67 g ?_
      refine zw_iload_n hX dX16_cellAt_70 rfl ?_
      obtain ⟨v4, g, h⟩ := zb_some h
      refine zw_xi hX dX16_cellAt_71 g ?_
      refine zw_iload_n hX dX16_cellAt_72 rfl ?_
      refine zw_iadd hX dX16_cellAt_73 ?_
      obtain rfl := Option.some.inj h
      exact zw_iret hX hr dX16_cellAt_74 rfl ⟨rfl, rfl⟩
    · rw [if_neg c44] at h
      refine zw_aload_n hX dX16_cellAt_47 rfl ?_
      obtain ⟨b5, g, h⟩ := zb_some h
      refine zw_getr hX zl_X16_7 dX16_cellAt_48 g ?_
      refine zw_iload_n hX dX16_cellAt_51 rfl ?_
      obtain ⟨v6, g, h⟩ := zb_some h
      refine zw_xi hX dX16_cellAt_52 g ?_
      refine zw_iload_n hX dX16_cellAt_53 rfl ?_
      refine zw_if_eq (tgt := 61) hX dX16_cellAt_54 (by decide) (fun c54 => ?_) (fun c54 => ?_)
      · rw [if_pos c54] at h
        refine zw_iconst (v := (0 : Int32)) hX dX16_cellAt_61 (by decide) ?_
        refine zw_isub hX dX16_cellAt_62 ?_
        refine zw_goto (tgt := 74) hX dX16_cellAt_63 (by decide) ?_
        obtain rfl := Option.some.inj h
        exact zw_iret hX hr dX16_cellAt_74 rfl ⟨rfl, rfl⟩
      · rw [if_neg c54] at h
        refine zw_iconst (v := (1 : Int32)) hX dX16_cellAt_57 (by decide) ?_
        refine zw_goto (tgt := 62) hX dX16_cellAt_58 (by decide) ?_
        refine zw_isub hX dX16_cellAt_62 ?_
        refine zw_goto (tgt := 74) hX dX16_cellAt_63 (by decide) ?_
        obtain rfl := Option.some.inj h
        exact zw_iret hX hr dX16_cellAt_74 rfl ⟨rfl, rfl⟩
  · rw [if_neg c6] at h
    refine zw_iload hX dX16_cellAt_9 rfl ?_
    refine zw_if_eq (tgt := 25) hX dX16_cellAt_11 (by decide) (fun c11 => ?_) (fun c11 => ?_)
    · rw [if_pos c11] at h
      refine zw_aload_n hX dX16_cellAt_25 rfl ?_
      obtain ⟨b7, g, h⟩ := zb_some h
      refine zw_getr hX zl_X16_13 dX16_cellAt_26 g ?_
      refine zw_iload_n hX dX16_cellAt_29 rfl ?_
      obtain ⟨v8, g, h⟩ := zb_some h
      refine zw_xi hX dX16_cellAt_30 g ?_
      refine zw_iload_n hX dX16_cellAt_31 rfl ?_
      refine zw_if_eq (tgt := 39) hX dX16_cellAt_32 (by decide) (fun c32 => ?_) (fun c32 => ?_)
      · rw [if_pos c32] at h
        refine zw_iconst (v := (1 : Int32)) hX dX16_cellAt_39 (by decide) ?_
        refine zw_isub hX dX16_cellAt_40 ?_
        obtain rfl := Option.some.inj h
        exact zw_iret hX hr dX16_cellAt_41 rfl ⟨rfl, rfl⟩
      · rw [if_neg c32] at h
        refine zw_iconst (v := (0 : Int32)) hX dX16_cellAt_35 (by decide) ?_
        refine zw_goto (tgt := 40) hX dX16_cellAt_36 (by decide) ?_
        refine zw_isub hX dX16_cellAt_40 ?_
        obtain rfl := Option.some.inj h
        exact zw_iret hX hr dX16_cellAt_41 rfl ⟨rfl, rfl⟩
    · rw [if_neg c11] at h
      refine zw_aload_n hX dX16_cellAt_14 rfl ?_
      obtain ⟨b9, g, h⟩ := zb_some h
      refine zw_getr hX zl_X16_7 dX16_cellAt_15 g ?_
      refine zw_iload_n hX dX16_cellAt_18 rfl ?_
      obtain ⟨v10, g, h⟩ := zb_some h
      refine zw_xi hX dX16_cellAt_19 g ?_
      refine zw_iload_n hX dX16_cellAt_20 rfl ?_
      refine zw_iadd hX dX16_cellAt_21 ?_
      refine zw_goto (tgt := 41) hX dX16_cellAt_22 (by decide) ?_
      obtain rfl := Option.some.inj h
      exact zw_iret hX hr dX16_cellAt_41 rfl ⟨rfl, rfl⟩
set_option maxHeartbeats 4000000 in
set_option maxRecDepth 100000 in
theorem zt_X16_lineBetween_J164 {p : Program} {l : Launch} {e : Env} {R : Room} {s : State} {m : MethodId} {args : Array Value} {below : List Frame} {meth : Method} {c : Code} {V : zm_V} {mc ms d rc rs : Nat} (hX : zm_X p R s m args meth c RX16 "lineBetween" cX16_lineBetween 9 zk_E V mc ms) (hr : meth.sig.returnType = (some .int)) (hR : R.frames = d ∧ R.locals = 64 * d) (hd : 2 ≤ d) {N : Nat} {k : Nat → Int32 → Int32 → Int32 → Int32 → Int32 → zm_S → Option ((Int32 × zm_S) ⊕ ((Int32) × zm_S))} {a0 : Nat} {i1 : Int32} {i2 : Int32} {i3 : Int32} {i4 : Int32} {i5 : Int32} {t0 : Int32} {res : (Int32 × zm_S) ⊕ ((Int32) × zm_S)} {out : (Int32 × zm_S)}   (hf : ∀ o, res = .inl o → o = out) (hk : ∀ (x4 : Int32) (S' : zm_S), res = .inr (x4, S') → zw p l e R s m args below meth c (vx_MQ below (zm_Qc zk_E V (zo_i out)) (zm_XC zk_E V zo_x) args s mc ms (fun q => V.2.2.2.1 ≤ q)) 9 zk_E V mc ms 186 [(4, .int x4)] [] S' rc rs) (hrec : ∀ (i4' : Int32) (i5' : Int32) (S : zm_S), k a0 i1 i2 i3 i4' i5' S = some res → zw p l e R s m args below meth c (vx_MQ below (zm_Qc zk_E V (zo_i out)) (zm_XC zk_E V zo_x) args s mc ms (fun q => V.2.2.2.1 ≤ q)) 9 zk_E V mc ms 6 [(0, .ref a0), (1, .int i1), (2, .int i2), (3, .int i3), (4, .int i4'), (5, .int i5')] [] S rc rs) {S : zm_S} (h : zf_X16_lineBetween_J164 N k a0 i1 i2 i3 i4 i5 t0 S = some res) : zw p l e R s m args below meth c (vx_MQ below (zm_Qc zk_E V (zo_i out)) (zm_XC zk_E V zo_x) args s mc ms (fun q => V.2.2.2.1 ≤ q)) 9 zk_E V mc ms 164 [(0, .ref a0), (1, .int i1), (2, .int i2), (3, .int i3), (4, .int i4), (5, .int i5)] [.int t0] S rc rs := by
  unfold zf_X16_lineBetween_J164 at h
  refine zw_istore hX dX16_lineBetween_164 (by decide) ?_
  refine zw_iload hX dX16_lineBetween_166 rfl ?_
  refine zw_if_eq (tgt := 176) hX dX16_lineBetween_168 (by decide) (fun c168 => ?_) (fun c168 => ?_)
  · rw [if_pos c168] at h
    refine zw_iload hX dX16_lineBetween_176 rfl ?_
    refine zw_istore hX dX16_lineBetween_178 (by decide) ?_
    refine zw_iinc (v := (i5 + (1 : Int32))) hX dX16_lineBetween_180 rfl rfl (by decide) ?_
    refine zw_goto (tgt := 6) hX dX16_lineBetween_183 (by decide) ?_
    refine zw_sub (lv' := [(0, .ref a0), (1, .int i1), (2, .int i2), (3, .int i3), (4, .int i4), (5, .int (i5 + (1 : Int32)))]) (List.forall_mem_cons.mpr ⟨rfl, (List.forall_mem_cons.mpr ⟨rfl, (List.forall_mem_cons.mpr ⟨rfl, (List.forall_mem_cons.mpr ⟨rfl, (List.forall_mem_cons.mpr ⟨rfl, (List.forall_mem_cons.mpr ⟨rfl, zs_nil⟩)⟩)⟩)⟩)⟩)⟩) ?_
    exact hrec _ _ _ h
  · rw [if_neg c168] at h
    refine zw_iload hX dX16_lineBetween_171 rfl ?_
    refine zw_goto (tgt := 178) hX dX16_lineBetween_173 (by decide) ?_
    refine zw_istore hX dX16_lineBetween_178 (by decide) ?_
    refine zw_iinc (v := (i5 + (1 : Int32))) hX dX16_lineBetween_180 rfl rfl (by decide) ?_
    refine zw_goto (tgt := 6) hX dX16_lineBetween_183 (by decide) ?_
    refine zw_sub (lv' := [(0, .ref a0), (1, .int i1), (2, .int i2), (3, .int i3), (4, .int i5), (5, .int (i5 + (1 : Int32)))]) (List.forall_mem_cons.mpr ⟨rfl, (List.forall_mem_cons.mpr ⟨rfl, (List.forall_mem_cons.mpr ⟨rfl, (List.forall_mem_cons.mpr ⟨rfl, (List.forall_mem_cons.mpr ⟨rfl, (List.forall_mem_cons.mpr ⟨rfl, zs_nil⟩)⟩)⟩)⟩)⟩)⟩) ?_
    exact hrec _ _ _ h
set_option maxHeartbeats 4000000 in
set_option maxRecDepth 100000 in
theorem zt_X16_lineBetween_J163 {p : Program} {l : Launch} {e : Env} {R : Room} {s : State} {m : MethodId} {args : Array Value} {below : List Frame} {meth : Method} {c : Code} {V : zm_V} {mc ms d rc rs : Nat} (hX : zm_X p R s m args meth c RX16 "lineBetween" cX16_lineBetween 9 zk_E V mc ms) (hr : meth.sig.returnType = (some .int)) (hR : R.frames = d ∧ R.locals = 64 * d) (hd : 2 ≤ d) {N : Nat} {k : Nat → Int32 → Int32 → Int32 → Int32 → Int32 → zm_S → Option ((Int32 × zm_S) ⊕ ((Int32) × zm_S))} {a0 : Nat} {i1 : Int32} {i2 : Int32} {i3 : Int32} {i4 : Int32} {i5 : Int32} {res : (Int32 × zm_S) ⊕ ((Int32) × zm_S)} {out : (Int32 × zm_S)}   (hf : ∀ o, res = .inl o → o = out) (hk : ∀ (x4 : Int32) (S' : zm_S), res = .inr (x4, S') → zw p l e R s m args below meth c (vx_MQ below (zm_Qc zk_E V (zo_i out)) (zm_XC zk_E V zo_x) args s mc ms (fun q => V.2.2.2.1 ≤ q)) 9 zk_E V mc ms 186 [(4, .int x4)] [] S' rc rs) (hrec : ∀ (i4' : Int32) (i5' : Int32) (S : zm_S), k a0 i1 i2 i3 i4' i5' S = some res → zw p l e R s m args below meth c (vx_MQ below (zm_Qc zk_E V (zo_i out)) (zm_XC zk_E V zo_x) args s mc ms (fun q => V.2.2.2.1 ≤ q)) 9 zk_E V mc ms 6 [(0, .ref a0), (1, .int i1), (2, .int i2), (3, .int i3), (4, .int i4'), (5, .int i5')] [] S rc rs) {S : zm_S} (h : zf_X16_lineBetween_J163 N k a0 i1 i2 i3 i4 i5 S = some res) : zw p l e R s m args below meth c (vx_MQ below (zm_Qc zk_E V (zo_i out)) (zm_XC zk_E V zo_x) args s mc ms (fun q => V.2.2.2.1 ≤ q)) 9 zk_E V mc ms 163 [(0, .ref a0), (1, .int i1), (2, .int i2), (3, .int i3), (4, .int i4), (5, .int i5)] [] S rc rs := by
  unfold zf_X16_lineBetween_J163 at h
  refine zw_iconst (v := (0 : Int32)) hX dX16_lineBetween_163 (by decide) ?_
  refine zw_sub (lv' := [(0, .ref a0), (1, .int i1), (2, .int i2), (3, .int i3), (4, .int i4), (5, .int i5)]) (List.forall_mem_cons.mpr ⟨rfl, (List.forall_mem_cons.mpr ⟨rfl, (List.forall_mem_cons.mpr ⟨rfl, (List.forall_mem_cons.mpr ⟨rfl, (List.forall_mem_cons.mpr ⟨rfl, (List.forall_mem_cons.mpr ⟨rfl, zs_nil⟩)⟩)⟩)⟩)⟩)⟩) ?_
  exact zt_X16_lineBetween_J164 hX hr hR hd hf hk hrec h
set_option maxHeartbeats 4000000 in
set_option maxRecDepth 100000 in
theorem zt_X16_lineBetween_J112 {p : Program} {l : Launch} {e : Env} {R : Room} {s : State} {m : MethodId} {args : Array Value} {below : List Frame} {meth : Method} {c : Code} {V : zm_V} {mc ms d rc rs : Nat} (hX : zm_X p R s m args meth c RX16 "lineBetween" cX16_lineBetween 9 zk_E V mc ms) (hr : meth.sig.returnType = (some .int)) (hR : R.frames = d ∧ R.locals = 64 * d) (hd : 2 ≤ d) {N : Nat} {k : Nat → Int32 → Int32 → Int32 → Int32 → Int32 → zm_S → Option ((Int32 × zm_S) ⊕ ((Int32) × zm_S))} {a0 : Nat} {i1 : Int32} {i2 : Int32} {i3 : Int32} {i4 : Int32} {i5 : Int32} {res : (Int32 × zm_S) ⊕ ((Int32) × zm_S)} {out : (Int32 × zm_S)}   (hf : ∀ o, res = .inl o → o = out) (hk : ∀ (x4 : Int32) (S' : zm_S), res = .inr (x4, S') → zw p l e R s m args below meth c (vx_MQ below (zm_Qc zk_E V (zo_i out)) (zm_XC zk_E V zo_x) args s mc ms (fun q => V.2.2.2.1 ≤ q)) 9 zk_E V mc ms 186 [(4, .int x4)] [] S' rc rs) (hrec : ∀ (i4' : Int32) (i5' : Int32) (S : zm_S), k a0 i1 i2 i3 i4' i5' S = some res → zw p l e R s m args below meth c (vx_MQ below (zm_Qc zk_E V (zo_i out)) (zm_XC zk_E V zo_x) args s mc ms (fun q => V.2.2.2.1 ≤ q)) 9 zk_E V mc ms 6 [(0, .ref a0), (1, .int i1), (2, .int i2), (3, .int i3), (4, .int i4'), (5, .int i5')] [] S rc rs) {S : zm_S} (h : zf_X16_lineBetween_J112 N k a0 i1 i2 i3 i4 i5 S = some res) : zw p l e R s m args below meth c (vx_MQ below (zm_Qc zk_E V (zo_i out)) (zm_XC zk_E V zo_x) args s mc ms (fun q => V.2.2.2.1 ≤ q)) 9 zk_E V mc ms 112 [(0, .ref a0), (1, .int i1), (2, .int i2), (3, .int i3), (4, .int i4), (5, .int i5)] [] S rc rs := by
  unfold zf_X16_lineBetween_J112 at h
  refine zw_iconst (v := (0 : Int32)) hX dX16_lineBetween_112 (by decide) ?_
  refine zw_goto (tgt := 164) hX dX16_lineBetween_113 (by decide) ?_
  refine zw_sub (lv' := [(0, .ref a0), (1, .int i1), (2, .int i2), (3, .int i3), (4, .int i4), (5, .int i5)]) (List.forall_mem_cons.mpr ⟨rfl, (List.forall_mem_cons.mpr ⟨rfl, (List.forall_mem_cons.mpr ⟨rfl, (List.forall_mem_cons.mpr ⟨rfl, (List.forall_mem_cons.mpr ⟨rfl, (List.forall_mem_cons.mpr ⟨rfl, zs_nil⟩)⟩)⟩)⟩)⟩)⟩) ?_
  exact zt_X16_lineBetween_J164 hX hr hR hd hf hk hrec h
set_option maxHeartbeats 4000000 in
set_option maxRecDepth 100000 in
theorem zt_X16_lineBetween_J58 {p : Program} {l : Launch} {e : Env} {R : Room} {s : State} {m : MethodId} {args : Array Value} {below : List Frame} {meth : Method} {c : Code} {V : zm_V} {mc ms d rc rs : Nat} (hX : zm_X p R s m args meth c RX16 "lineBetween" cX16_lineBetween 9 zk_E V mc ms) (hr : meth.sig.returnType = (some .int)) (hR : R.frames = d ∧ R.locals = 64 * d) (hd : 2 ≤ d) {N : Nat} {k : Nat → Int32 → Int32 → Int32 → Int32 → Int32 → zm_S → Option ((Int32 × zm_S) ⊕ ((Int32) × zm_S))} {a0 : Nat} {i1 : Int32} {i2 : Int32} {i3 : Int32} {i4 : Int32} {i5 : Int32} {i6 : Int32} {t0 : Int32} {res : (Int32 × zm_S) ⊕ ((Int32) × zm_S)} {out : (Int32 × zm_S)}   (hf : ∀ o, res = .inl o → o = out) (hk : ∀ (x4 : Int32) (S' : zm_S), res = .inr (x4, S') → zw p l e R s m args below meth c (vx_MQ below (zm_Qc zk_E V (zo_i out)) (zm_XC zk_E V zo_x) args s mc ms (fun q => V.2.2.2.1 ≤ q)) 9 zk_E V mc ms 186 [(4, .int x4)] [] S' rc rs) (hrec : ∀ (i4' : Int32) (i5' : Int32) (S : zm_S), k a0 i1 i2 i3 i4' i5' S = some res → zw p l e R s m args below meth c (vx_MQ below (zm_Qc zk_E V (zo_i out)) (zm_XC zk_E V zo_x) args s mc ms (fun q => V.2.2.2.1 ≤ q)) 9 zk_E V mc ms 6 [(0, .ref a0), (1, .int i1), (2, .int i2), (3, .int i3), (4, .int i4'), (5, .int i5')] [] S rc rs) {S : zm_S} (h : zf_X16_lineBetween_J58 N k a0 i1 i2 i3 i4 i5 i6 t0 S = some res) : zw p l e R s m args below meth c (vx_MQ below (zm_Qc zk_E V (zo_i out)) (zm_XC zk_E V zo_x) args s mc ms (fun q => V.2.2.2.1 ≤ q)) 9 zk_E V mc ms 58 [(0, .ref a0), (1, .int i1), (2, .int i2), (3, .int i3), (4, .int i4), (5, .int i5), (6, .int i6)] [.int t0] S rc rs := by
  unfold zf_X16_lineBetween_J58 at h
  refine zw_istore hX dX16_lineBetween_58 (by decide) ?_
  refine zw_iload hX dX16_lineBetween_60 rfl ?_
  refine zw_if_eq (tgt := 116) hX dX16_lineBetween_62 (by decide) (fun c62 => ?_) (fun c62 => ?_)
  · rw [if_pos c62] at h
    refine zw_aload_n hX dX16_lineBetween_116 rfl ?_
    obtain ⟨b2, g, h⟩ := zb_some h
    refine zw_getr hX zl_X16_16 dX16_lineBetween_117 g ?_
    refine zw_iload hX dX16_lineBetween_120 rfl ?_
    obtain ⟨v3, g, h⟩ := zb_some h
    refine zw_xz hX dX16_lineBetween_122 g ?_
    refine zw_if_eq (tgt := 163) hX dX16_lineBetween_123 (by decide) (fun c123 => ?_) (fun c123 => ?_)
    · rw [if_pos c123] at h
      refine zw_sub (lv' := [(0, .ref a0), (1, .int i1), (2, .int i2), (3, .int i3), (4, .int i4), (5, .int i5)]) (List.forall_mem_cons.mpr ⟨rfl, (List.forall_mem_cons.mpr ⟨rfl, (List.forall_mem_cons.mpr ⟨rfl, (List.forall_mem_cons.mpr ⟨rfl, (List.forall_mem_cons.mpr ⟨rfl, (List.forall_mem_cons.mpr ⟨rfl, zs_nil⟩)⟩)⟩)⟩)⟩)⟩) ?_
      exact zt_X16_lineBetween_J163 hX hr hR hd hf hk hrec h
    · rw [if_neg c123] at h
      refine zw_aload_n hX dX16_lineBetween_126 rfl ?_
      obtain ⟨b4, g, h⟩ := zb_some h
      refine zw_getr hX zl_X16_13 dX16_lineBetween_127 g ?_
      refine zw_iload hX dX16_lineBetween_130 rfl ?_
      obtain ⟨v5, g, h⟩ := zb_some h
      refine zw_xi hX dX16_lineBetween_132 g ?_
      refine zw_iload hX dX16_lineBetween_133 rfl ?_
      refine zw_icmp_ne (tgt := 163) hX dX16_lineBetween_135 (by decide) (fun c135 => ?_) (fun c135 => ?_)
      · rw [if_neg c135] at h
        refine zw_sub (lv' := [(0, .ref a0), (1, .int i1), (2, .int i2), (3, .int i3), (4, .int i4), (5, .int i5)]) (List.forall_mem_cons.mpr ⟨rfl, (List.forall_mem_cons.mpr ⟨rfl, (List.forall_mem_cons.mpr ⟨rfl, (List.forall_mem_cons.mpr ⟨rfl, (List.forall_mem_cons.mpr ⟨rfl, (List.forall_mem_cons.mpr ⟨rfl, zs_nil⟩)⟩)⟩)⟩)⟩)⟩) ?_
        exact zt_X16_lineBetween_J163 hX hr hR hd hf hk hrec h
      · rw [if_pos c135] at h
        refine zw_aload_n hX dX16_lineBetween_138 rfl ?_
        obtain ⟨b6, g, h⟩ := zb_some h
        refine zw_getr hX zl_X16_7 dX16_lineBetween_139 g ?_
        refine zw_iload hX dX16_lineBetween_142 rfl ?_
        obtain ⟨v7, g, h⟩ := zb_some h
        refine zw_xi hX dX16_lineBetween_144 g ?_
        refine zw_iload_n hX dX16_lineBetween_145 rfl ?_
        refine zw_icmp_gt (tgt := 163) hX dX16_lineBetween_146 (by decide) (fun c146 => ?_) (fun c146 => ?_)
        · rw [if_pos c146] at h
          refine zw_sub (lv' := [(0, .ref a0), (1, .int i1), (2, .int i2), (3, .int i3), (4, .int i4), (5, .int i5)]) (List.forall_mem_cons.mpr ⟨rfl, (List.forall_mem_cons.mpr ⟨rfl, (List.forall_mem_cons.mpr ⟨rfl, (List.forall_mem_cons.mpr ⟨rfl, (List.forall_mem_cons.mpr ⟨rfl, (List.forall_mem_cons.mpr ⟨rfl, zs_nil⟩)⟩)⟩)⟩)⟩)⟩) ?_
          exact zt_X16_lineBetween_J163 hX hr hR hd hf hk hrec h
        · rw [if_neg c146] at h
          refine zw_aload_n hX dX16_lineBetween_149 rfl ?_
          refine zw_iload hX dX16_lineBetween_150 rfl ?_
          obtain ⟨_, gi, h⟩ := zb_some h
          obtain ⟨r9, g, h⟩ := zb_some h
          refine zc_Vi (as := [.int i5]) hX gi (zt_X16_highX (d := d - 1) (by omega) g) zl_X16_89 rfl dX16_lineBetween_152 ⟨rfl, rfl, Nat.le_of_ble_eq_true rfl⟩ ⟨by omega, by omega⟩ ?_
          refine zw_iload_n hX dX16_lineBetween_155 rfl ?_
          refine zw_icmp_le (tgt := 163) hX dX16_lineBetween_156 (by decide) (fun c156 => ?_) (fun c156 => ?_)
          · rw [if_pos c156] at h
            refine zw_sub (lv' := [(0, .ref a0), (1, .int i1), (2, .int i2), (3, .int i3), (4, .int i4), (5, .int i5)]) (List.forall_mem_cons.mpr ⟨rfl, (List.forall_mem_cons.mpr ⟨rfl, (List.forall_mem_cons.mpr ⟨rfl, (List.forall_mem_cons.mpr ⟨rfl, (List.forall_mem_cons.mpr ⟨rfl, (List.forall_mem_cons.mpr ⟨rfl, zs_nil⟩)⟩)⟩)⟩)⟩)⟩) ?_
            exact zt_X16_lineBetween_J163 hX hr hR hd hf hk hrec h
          · rw [if_neg c156] at h
            refine zw_iconst (v := (1 : Int32)) hX dX16_lineBetween_159 (by decide) ?_
            refine zw_goto (tgt := 164) hX dX16_lineBetween_160 (by decide) ?_
            refine zw_sub (lv' := [(0, .ref a0), (1, .int i1), (2, .int i2), (3, .int i3), (4, .int i4), (5, .int i5)]) (List.forall_mem_cons.mpr ⟨rfl, (List.forall_mem_cons.mpr ⟨rfl, (List.forall_mem_cons.mpr ⟨rfl, (List.forall_mem_cons.mpr ⟨rfl, (List.forall_mem_cons.mpr ⟨rfl, (List.forall_mem_cons.mpr ⟨rfl, zs_nil⟩)⟩)⟩)⟩)⟩)⟩) ?_
            exact zt_X16_lineBetween_J164 hX hr hR hd hf hk hrec h
  · rw [if_neg c62] at h
    refine zw_aload_n hX dX16_lineBetween_65 rfl ?_
    obtain ⟨b10, g, h⟩ := zb_some h
    refine zw_getr hX zl_X16_16 dX16_lineBetween_66 g ?_
    refine zw_iload hX dX16_lineBetween_69 rfl ?_
    obtain ⟨v11, g, h⟩ := zb_some h
    refine zw_xz hX dX16_lineBetween_71 g ?_
    refine zw_if_ne (tgt := 112) hX dX16_lineBetween_72 (by decide) (fun c72 => ?_) (fun c72 => ?_)
    · rw [if_neg c72] at h
      refine zw_sub (lv' := [(0, .ref a0), (1, .int i1), (2, .int i2), (3, .int i3), (4, .int i4), (5, .int i5)]) (List.forall_mem_cons.mpr ⟨rfl, (List.forall_mem_cons.mpr ⟨rfl, (List.forall_mem_cons.mpr ⟨rfl, (List.forall_mem_cons.mpr ⟨rfl, (List.forall_mem_cons.mpr ⟨rfl, (List.forall_mem_cons.mpr ⟨rfl, zs_nil⟩)⟩)⟩)⟩)⟩)⟩) ?_
      exact zt_X16_lineBetween_J112 hX hr hR hd hf hk hrec h
    · rw [if_pos c72] at h
      refine zw_aload_n hX dX16_lineBetween_75 rfl ?_
      obtain ⟨b12, g, h⟩ := zb_some h
      refine zw_getr hX zl_X16_7 dX16_lineBetween_76 g ?_
      refine zw_iload hX dX16_lineBetween_79 rfl ?_
      obtain ⟨v13, g, h⟩ := zb_some h
      refine zw_xi hX dX16_lineBetween_81 g ?_
      refine zw_iload hX dX16_lineBetween_82 rfl ?_
      refine zw_icmp_ne (tgt := 112) hX dX16_lineBetween_84 (by decide) (fun c84 => ?_) (fun c84 => ?_)
      · rw [if_neg c84] at h
        refine zw_sub (lv' := [(0, .ref a0), (1, .int i1), (2, .int i2), (3, .int i3), (4, .int i4), (5, .int i5)]) (List.forall_mem_cons.mpr ⟨rfl, (List.forall_mem_cons.mpr ⟨rfl, (List.forall_mem_cons.mpr ⟨rfl, (List.forall_mem_cons.mpr ⟨rfl, (List.forall_mem_cons.mpr ⟨rfl, (List.forall_mem_cons.mpr ⟨rfl, zs_nil⟩)⟩)⟩)⟩)⟩)⟩) ?_
        exact zt_X16_lineBetween_J112 hX hr hR hd hf hk hrec h
      · rw [if_pos c84] at h
        refine zw_aload_n hX dX16_lineBetween_87 rfl ?_
        obtain ⟨b14, g, h⟩ := zb_some h
        refine zw_getr hX zl_X16_13 dX16_lineBetween_88 g ?_
        refine zw_iload hX dX16_lineBetween_91 rfl ?_
        obtain ⟨v15, g, h⟩ := zb_some h
        refine zw_xi hX dX16_lineBetween_93 g ?_
        refine zw_iload_n hX dX16_lineBetween_94 rfl ?_
        refine zw_icmp_gt (tgt := 112) hX dX16_lineBetween_95 (by decide) (fun c95 => ?_) (fun c95 => ?_)
        · rw [if_pos c95] at h
          refine zw_sub (lv' := [(0, .ref a0), (1, .int i1), (2, .int i2), (3, .int i3), (4, .int i4), (5, .int i5)]) (List.forall_mem_cons.mpr ⟨rfl, (List.forall_mem_cons.mpr ⟨rfl, (List.forall_mem_cons.mpr ⟨rfl, (List.forall_mem_cons.mpr ⟨rfl, (List.forall_mem_cons.mpr ⟨rfl, (List.forall_mem_cons.mpr ⟨rfl, zs_nil⟩)⟩)⟩)⟩)⟩)⟩) ?_
          exact zt_X16_lineBetween_J112 hX hr hR hd hf hk hrec h
        · rw [if_neg c95] at h
          refine zw_aload_n hX dX16_lineBetween_98 rfl ?_
          refine zw_iload hX dX16_lineBetween_99 rfl ?_
          obtain ⟨_, gi, h⟩ := zb_some h
          obtain ⟨r17, g, h⟩ := zb_some h
          refine zc_Vi (as := [.int i5]) hX gi (zt_X16_highY (d := d - 1) (by omega) g) zl_X16_93 rfl dX16_lineBetween_101 ⟨rfl, rfl, Nat.le_of_ble_eq_true rfl⟩ ⟨by omega, by omega⟩ ?_
          refine zw_iload_n hX dX16_lineBetween_104 rfl ?_
          refine zw_icmp_le (tgt := 112) hX dX16_lineBetween_105 (by decide) (fun c105 => ?_) (fun c105 => ?_)
          · rw [if_pos c105] at h
            refine zw_sub (lv' := [(0, .ref a0), (1, .int i1), (2, .int i2), (3, .int i3), (4, .int i4), (5, .int i5)]) (List.forall_mem_cons.mpr ⟨rfl, (List.forall_mem_cons.mpr ⟨rfl, (List.forall_mem_cons.mpr ⟨rfl, (List.forall_mem_cons.mpr ⟨rfl, (List.forall_mem_cons.mpr ⟨rfl, (List.forall_mem_cons.mpr ⟨rfl, zs_nil⟩)⟩)⟩)⟩)⟩)⟩) ?_
            exact zt_X16_lineBetween_J112 hX hr hR hd hf hk hrec h
          · rw [if_neg c105] at h
            refine zw_iconst (v := (1 : Int32)) hX dX16_lineBetween_108 (by decide) ?_
            refine zw_goto (tgt := 164) hX dX16_lineBetween_109 (by decide) ?_
            refine zw_sub (lv' := [(0, .ref a0), (1, .int i1), (2, .int i2), (3, .int i3), (4, .int i4), (5, .int i5)]) (List.forall_mem_cons.mpr ⟨rfl, (List.forall_mem_cons.mpr ⟨rfl, (List.forall_mem_cons.mpr ⟨rfl, (List.forall_mem_cons.mpr ⟨rfl, (List.forall_mem_cons.mpr ⟨rfl, (List.forall_mem_cons.mpr ⟨rfl, zs_nil⟩)⟩)⟩)⟩)⟩)⟩) ?_
            exact zt_X16_lineBetween_J164 hX hr hR hd hf hk hrec h
set_option maxHeartbeats 4000000 in
set_option maxRecDepth 100000 in
theorem zt_X16_lineBetween_J25 {p : Program} {l : Launch} {e : Env} {R : Room} {s : State} {m : MethodId} {args : Array Value} {below : List Frame} {meth : Method} {c : Code} {V : zm_V} {mc ms d rc rs : Nat} (hX : zm_X p R s m args meth c RX16 "lineBetween" cX16_lineBetween 9 zk_E V mc ms) (hr : meth.sig.returnType = (some .int)) (hR : R.frames = d ∧ R.locals = 64 * d) (hd : 2 ≤ d) {N : Nat} {k : Nat → Int32 → Int32 → Int32 → Int32 → Int32 → zm_S → Option ((Int32 × zm_S) ⊕ ((Int32) × zm_S))} {a0 : Nat} {i1 : Int32} {i2 : Int32} {i3 : Int32} {i4 : Int32} {i5 : Int32} {t0 : Int32} {res : (Int32 × zm_S) ⊕ ((Int32) × zm_S)} {out : (Int32 × zm_S)}   (hf : ∀ o, res = .inl o → o = out) (hk : ∀ (x4 : Int32) (S' : zm_S), res = .inr (x4, S') → zw p l e R s m args below meth c (vx_MQ below (zm_Qc zk_E V (zo_i out)) (zm_XC zk_E V zo_x) args s mc ms (fun q => V.2.2.2.1 ≤ q)) 9 zk_E V mc ms 186 [(4, .int x4)] [] S' rc rs) (hrec : ∀ (i4' : Int32) (i5' : Int32) (S : zm_S), k a0 i1 i2 i3 i4' i5' S = some res → zw p l e R s m args below meth c (vx_MQ below (zm_Qc zk_E V (zo_i out)) (zm_XC zk_E V zo_x) args s mc ms (fun q => V.2.2.2.1 ≤ q)) 9 zk_E V mc ms 6 [(0, .ref a0), (1, .int i1), (2, .int i2), (3, .int i3), (4, .int i4'), (5, .int i5')] [] S rc rs) {S : zm_S} (h : zf_X16_lineBetween_J25 N k a0 i1 i2 i3 i4 i5 t0 S = some res) : zw p l e R s m args below meth c (vx_MQ below (zm_Qc zk_E V (zo_i out)) (zm_XC zk_E V zo_x) args s mc ms (fun q => V.2.2.2.1 ≤ q)) 9 zk_E V mc ms 25 [(0, .ref a0), (1, .int i1), (2, .int i2), (3, .int i3), (4, .int i4), (5, .int i5)] [.int t0] S rc rs := by
  unfold zf_X16_lineBetween_J25 at h
  refine zw_istore hX dX16_lineBetween_25 (by decide) ?_
  refine zw_iload_n hX dX16_lineBetween_27 rfl ?_
  refine zw_if_ne (tgt := 37) hX dX16_lineBetween_28 (by decide) (fun c28 => ?_) (fun c28 => ?_)
  · rw [if_neg c28] at h
    refine zw_iload_n hX dX16_lineBetween_37 rfl ?_
    refine zw_iconst (v := (1 : Int32)) hX dX16_lineBetween_38 (by decide) ?_
    refine zw_icmp_ne (tgt := 46) hX dX16_lineBetween_39 (by decide) (fun c39 => ?_) (fun c39 => ?_)
    · rw [if_neg c39] at h
      refine zw_iload_n hX dX16_lineBetween_46 rfl ?_
      refine zw_iconst (v := (2 : Int32)) hX dX16_lineBetween_47 (by decide) ?_
      refine zw_icmp_ne (tgt := 57) hX dX16_lineBetween_48 (by decide) (fun c48 => ?_) (fun c48 => ?_)
      · rw [if_neg c48] at h
        refine zw_iload_n hX dX16_lineBetween_57 rfl ?_
        refine zw_sub (lv' := [(0, .ref a0), (1, .int i1), (2, .int i2), (3, .int i3), (4, .int i4), (5, .int i5), (6, .int t0)]) (List.forall_mem_cons.mpr ⟨rfl, (List.forall_mem_cons.mpr ⟨rfl, (List.forall_mem_cons.mpr ⟨rfl, (List.forall_mem_cons.mpr ⟨rfl, (List.forall_mem_cons.mpr ⟨rfl, (List.forall_mem_cons.mpr ⟨rfl, (List.forall_mem_cons.mpr ⟨rfl, zs_nil⟩)⟩)⟩)⟩)⟩)⟩)⟩) ?_
        exact zt_X16_lineBetween_J58 hX hr hR hd hf hk hrec h
      · rw [if_pos c48] at h
        refine zw_iload_n hX dX16_lineBetween_51 rfl ?_
        refine zw_iconst (v := (1 : Int32)) hX dX16_lineBetween_52 (by decide) ?_
        refine zw_iadd hX dX16_lineBetween_53 ?_
        refine zw_goto (tgt := 58) hX dX16_lineBetween_54 (by decide) ?_
        refine zw_sub (lv' := [(0, .ref a0), (1, .int i1), (2, .int i2), (3, .int i3), (4, .int i4), (5, .int i5), (6, .int t0)]) (List.forall_mem_cons.mpr ⟨rfl, (List.forall_mem_cons.mpr ⟨rfl, (List.forall_mem_cons.mpr ⟨rfl, (List.forall_mem_cons.mpr ⟨rfl, (List.forall_mem_cons.mpr ⟨rfl, (List.forall_mem_cons.mpr ⟨rfl, (List.forall_mem_cons.mpr ⟨rfl, zs_nil⟩)⟩)⟩)⟩)⟩)⟩)⟩) ?_
        exact zt_X16_lineBetween_J58 hX hr hR hd hf hk hrec h
    · rw [if_pos c39] at h
      refine zw_iload_n hX dX16_lineBetween_42 rfl ?_
      refine zw_goto (tgt := 58) hX dX16_lineBetween_43 (by decide) ?_
      refine zw_sub (lv' := [(0, .ref a0), (1, .int i1), (2, .int i2), (3, .int i3), (4, .int i4), (5, .int i5), (6, .int t0)]) (List.forall_mem_cons.mpr ⟨rfl, (List.forall_mem_cons.mpr ⟨rfl, (List.forall_mem_cons.mpr ⟨rfl, (List.forall_mem_cons.mpr ⟨rfl, (List.forall_mem_cons.mpr ⟨rfl, (List.forall_mem_cons.mpr ⟨rfl, (List.forall_mem_cons.mpr ⟨rfl, zs_nil⟩)⟩)⟩)⟩)⟩)⟩)⟩) ?_
      exact zt_X16_lineBetween_J58 hX hr hR hd hf hk hrec h
  · rw [if_pos c28] at h
    refine zw_iload_n hX dX16_lineBetween_31 rfl ?_
    refine zw_iconst (v := (1 : Int32)) hX dX16_lineBetween_32 (by decide) ?_
    refine zw_iadd hX dX16_lineBetween_33 ?_
    refine zw_goto (tgt := 58) hX dX16_lineBetween_34 (by decide) ?_
    refine zw_sub (lv' := [(0, .ref a0), (1, .int i1), (2, .int i2), (3, .int i3), (4, .int i4), (5, .int i5), (6, .int t0)]) (List.forall_mem_cons.mpr ⟨rfl, (List.forall_mem_cons.mpr ⟨rfl, (List.forall_mem_cons.mpr ⟨rfl, (List.forall_mem_cons.mpr ⟨rfl, (List.forall_mem_cons.mpr ⟨rfl, (List.forall_mem_cons.mpr ⟨rfl, (List.forall_mem_cons.mpr ⟨rfl, zs_nil⟩)⟩)⟩)⟩)⟩)⟩)⟩) ?_
    exact zt_X16_lineBetween_J58 hX hr hR hd hf hk hrec h
set_option maxHeartbeats 4000000 in
set_option maxRecDepth 100000 in
theorem zt_X16_lineBetween_L6 {p : Program} {l : Launch} {e : Env} {R : Room} {s : State} {m : MethodId} {args : Array Value} {below : List Frame} {meth : Method} {c : Code} {V : zm_V} {mc ms d rc rs : Nat} (hX : zm_X p R s m args meth c RX16 "lineBetween" cX16_lineBetween 9 zk_E V mc ms) (hr : meth.sig.returnType = (some .int)) (hR : R.frames = d ∧ R.locals = 64 * d) (hd : 2 ≤ d) {N : Nat} {res : (Int32 × zm_S) ⊕ ((Int32) × zm_S)} {out : (Int32 × zm_S)} (a0 : Nat) (i1 : Int32) (i2 : Int32) (i3 : Int32) (hf : ∀ o, res = .inl o → o = out) (hk : ∀ (x4 : Int32) (S' : zm_S), res = .inr (x4, S') → zw p l e R s m args below meth c (vx_MQ below (zm_Qc zk_E V (zo_i out)) (zm_XC zk_E V zo_x) args s mc ms (fun q => V.2.2.2.1 ≤ q)) 9 zk_E V mc ms 186 [(4, .int x4)] [] S' rc rs) : ∀ (n : Nat) (i4 : Int32) (i5 : Int32) (S : zm_S), zf_X16_lineBetween_L6 N n a0 i1 i2 i3 i4 i5 S = some res → zw p l e R s m args below meth c (vx_MQ below (zm_Qc zk_E V (zo_i out)) (zm_XC zk_E V zo_x) args s mc ms (fun q => V.2.2.2.1 ≤ q)) 9 zk_E V mc ms 6 [(0, .ref a0), (1, .int i1), (2, .int i2), (3, .int i3), (4, .int i4), (5, .int i5)] [] S rc rs := by
  intro n
  induction n with
  | zero => intro i4 i5 S h; cases h
  | succ n ih =>
    intro i4 i5 S h
    rw [zf_X16_lineBetween_L6] at h
    refine zw_iload hX dX16_lineBetween_6 rfl ?_
    refine zw_aload_n hX dX16_lineBetween_8 rfl ?_
    obtain ⟨v1, g, h⟩ := zb_some h
    refine zw_geti hX zl_X16_96 dX16_lineBetween_9 g ?_
    refine zw_icmp_ge (tgt := 186) hX dX16_lineBetween_12 (by decide) (fun c12 => ?_) (fun c12 => ?_)
    · rw [if_pos c12] at h
      refine zw_sub (lv' := [(4, .int i4)]) (List.forall_mem_cons.mpr ⟨rfl, zs_nil⟩) ?_
      exact hk _ _ (Option.some.inj h).symm
    · rw [if_neg c12] at h
      refine zw_iload_n hX dX16_lineBetween_15 rfl ?_
      refine zw_iconst (v := (2 : Int32)) hX dX16_lineBetween_16 (by decide) ?_
      refine zw_icmp_ge (tgt := 24) hX dX16_lineBetween_17 (by decide) (fun c17 => ?_) (fun c17 => ?_)
      · rw [if_pos c17] at h
        refine zw_iconst (v := (0 : Int32)) hX dX16_lineBetween_24 (by decide) ?_
        refine zw_sub (lv' := [(0, .ref a0), (1, .int i1), (2, .int i2), (3, .int i3), (4, .int i4), (5, .int i5)]) (List.forall_mem_cons.mpr ⟨rfl, (List.forall_mem_cons.mpr ⟨rfl, (List.forall_mem_cons.mpr ⟨rfl, (List.forall_mem_cons.mpr ⟨rfl, (List.forall_mem_cons.mpr ⟨rfl, (List.forall_mem_cons.mpr ⟨rfl, zs_nil⟩)⟩)⟩)⟩)⟩)⟩) ?_
        exact zt_X16_lineBetween_J25 hX hr hR hd hf hk ih h
      · rw [if_neg c17] at h
        refine zw_iconst (v := (1 : Int32)) hX dX16_lineBetween_20 (by decide) ?_
        refine zw_goto (tgt := 25) hX dX16_lineBetween_21 (by decide) ?_
        refine zw_sub (lv' := [(0, .ref a0), (1, .int i1), (2, .int i2), (3, .int i3), (4, .int i4), (5, .int i5)]) (List.forall_mem_cons.mpr ⟨rfl, (List.forall_mem_cons.mpr ⟨rfl, (List.forall_mem_cons.mpr ⟨rfl, (List.forall_mem_cons.mpr ⟨rfl, (List.forall_mem_cons.mpr ⟨rfl, (List.forall_mem_cons.mpr ⟨rfl, zs_nil⟩)⟩)⟩)⟩)⟩)⟩) ?_
        exact zt_X16_lineBetween_J25 hX hr hR hd hf hk ih h
set_option maxHeartbeats 4000000 in
set_option maxRecDepth 100000 in
theorem zt_X16_lineBetween {l : Launch} {V : zm_V} {N : Nat} {S : zm_S} {out : (Int32 × zm_S)} {d : Nat} {a0 : Nat} {i1 : Int32} {i2 : Int32} {i3 : Int32} (hd : 2 ≤ d) (h : zf_X16_lineBetween N a0 i1 i2 i3 S = some out) : zm_Met l zk_E V yX16_lineBetween (.code yX16_lineBetween cX16_lineBetween 9 (some .int)) d [.ref a0, .int i1, .int i2, .int i3] S 0 0 (zo_i out) zo_x := by
  refine zm_of (by decide +kernel) (Nat.le_of_ble_eq_true rfl) ?_
  intro p e R s m args below meth c hRR hX hr hxt
  have hR : R.frames = d ∧ R.locals = 64 * d := by rw [hRR]; exact ⟨rfl, rfl⟩
  have hX : zm_X p R s m args meth c RX16 "lineBetween" cX16_lineBetween 9 zk_E V 0 0 := hX
  unfold zf_X16_lineBetween at h
  refine zw_sub (lv' := [(0, .ref a0), (1, .int i1), (2, .int i2), (3, .int i3)]) (List.forall_mem_cons.mpr ⟨rfl, (List.forall_mem_cons.mpr ⟨rfl, (List.forall_mem_cons.mpr ⟨rfl, (List.forall_mem_cons.mpr ⟨rfl, zs_nil⟩)⟩)⟩)⟩) ?_
  refine zw_iconst (v := (-1 : Int32)) hX dX16_lineBetween_0 (by decide) ?_
  refine zw_istore hX dX16_lineBetween_1 (by decide) ?_
  refine zw_iconst (v := (0 : Int32)) hX dX16_lineBetween_3 (by decide) ?_
  refine zw_istore hX dX16_lineBetween_4 (by decide) ?_
  obtain ⟨r, g, h⟩ := zb_some h
  refine zw_sub (lv' := [(0, .ref a0), (1, .int i1), (2, .int i2), (3, .int i3), (4, .int (-1 : Int32)), (5, .int (0 : Int32))]) (List.forall_mem_cons.mpr ⟨rfl, (List.forall_mem_cons.mpr ⟨rfl, (List.forall_mem_cons.mpr ⟨rfl, (List.forall_mem_cons.mpr ⟨rfl, (List.forall_mem_cons.mpr ⟨rfl, (List.forall_mem_cons.mpr ⟨rfl, zs_nil⟩)⟩)⟩)⟩)⟩)⟩) ?_
  refine zt_X16_lineBetween_L6 hX hr hR hd (res := r) (out := out) a0 i1 i2 i3 ?_ ?_ N _ _ _ g
  · intro o ho
    subst ho
    exact Option.some.inj h
  · intro v19 S18 hx
    subst hx
    try dsimp only at h
    refine zw_iload hX dX16_lineBetween_186 rfl ?_
    obtain rfl := Option.some.inj h
    exact zw_iret hX hr dX16_lineBetween_188 rfl ⟨rfl, rfl⟩
set_option maxHeartbeats 4000000 in
set_option maxRecDepth 100000 in
theorem zt_X16_isThere_J29 {p : Program} {l : Launch} {e : Env} {R : Room} {s : State} {m : MethodId} {args : Array Value} {below : List Frame} {meth : Method} {c : Code} {V : zm_V} {mc ms d rc rs : Nat} (hX : zm_X p R s m args meth c RX16 "isThere" cX16_isThere 6 zk_E V mc ms) (hr : meth.sig.returnType = (some .boolean)) (hR : R.frames = d ∧ R.locals = 64 * d) (hd : 1 ≤ d) {N : Nat} {a0 : Nat} {i1 : Int32} {i2 : Int32} {t0 : Int32} {out : (Int32 × zm_S)} {S : zm_S} (h : zf_X16_isThere_J29 N a0 i1 i2 t0 S = some out) : zw p l e R s m args below meth c (vx_MQ below (zm_Qc zk_E V (zo_i out)) (zm_XC zk_E V zo_x) args s mc ms (fun q => V.2.2.2.1 ≤ q)) 6 zk_E V mc ms 29 [(0, .ref a0), (1, .int i1), (2, .int i2)] [.int t0] S rc rs := by
  unfold zf_X16_isThere_J29 at h
  refine zw_istore hX dX16_isThere_29 (by decide) ?_
  refine zw_aload_n hX dX16_isThere_31 rfl ?_
  obtain ⟨b5, g, h⟩ := zb_some h
  refine zw_getr hX zl_X16_26 dX16_isThere_32 g ?_
  refine zw_bipush (v := (6 : Int32)) hX dX16_isThere_35 (by decide) ?_
  refine zw_iload_n hX dX16_isThere_37 rfl ?_
  refine zw_imul hX dX16_isThere_38 ?_
  refine zw_iload_n hX dX16_isThere_39 rfl ?_
  refine zw_iadd hX dX16_isThere_40 ?_
  obtain ⟨v6, g, h⟩ := zb_some h
  refine zw_xi hX dX16_isThere_41 g ?_
  refine zw_iload hX dX16_isThere_42 rfl ?_
  refine zw_icmp_gt (tgt := 67) hX dX16_isThere_44 (by decide) (fun c44 => ?_) (fun c44 => ?_)
  · rw [if_pos c44] at h
    refine zw_iconst (v := (0 : Int32)) hX dX16_isThere_67 (by decide) ?_
    obtain rfl := Option.some.inj h
    exact zw_iret hX hr dX16_isThere_68 rfl ⟨rfl, rfl⟩
  · rw [if_neg c44] at h
    refine zw_iload hX dX16_isThere_47 rfl ?_
    refine zw_aload_n hX dX16_isThere_49 rfl ?_
    obtain ⟨b7, g, h⟩ := zb_some h
    refine zw_getr hX zl_X16_29 dX16_isThere_50 g ?_
    refine zw_bipush (v := (6 : Int32)) hX dX16_isThere_53 (by decide) ?_
    refine zw_iload_n hX dX16_isThere_55 rfl ?_
    refine zw_imul hX dX16_isThere_56 ?_
    refine zw_iload_n hX dX16_isThere_57 rfl ?_
    refine zw_iadd hX dX16_isThere_58 ?_
    obtain ⟨v8, g, h⟩ := zb_some h
    refine zw_xi hX dX16_isThere_59 g ?_
    refine zw_icmp_ge (tgt := 67) hX dX16_isThere_60 (by decide) (fun c60 => ?_) (fun c60 => ?_)
    · rw [if_pos c60] at h
      refine zw_iconst (v := (0 : Int32)) hX dX16_isThere_67 (by decide) ?_
      obtain rfl := Option.some.inj h
      exact zw_iret hX hr dX16_isThere_68 rfl ⟨rfl, rfl⟩
    · rw [if_neg c60] at h
      refine zw_iconst (v := (1 : Int32)) hX dX16_isThere_63 (by decide) ?_
      refine zw_goto (tgt := 68) hX dX16_isThere_64 (by decide) ?_
      obtain rfl := Option.some.inj h
      exact zw_iret hX hr dX16_isThere_68 rfl ⟨rfl, rfl⟩
set_option maxHeartbeats 4000000 in
set_option maxRecDepth 100000 in
theorem zt_X16_isThere {l : Launch} {V : zm_V} {N : Nat} {S : zm_S} {out : (Int32 × zm_S)} {d : Nat} {a0 : Nat} {i1 : Int32} {i2 : Int32} {i3 : Int32} {i4 : Int32} (hd : 1 ≤ d) (h : zf_X16_isThere N a0 i1 i2 i3 i4 S = some out) : zm_Met l zk_E V yX16_isThere (.code yX16_isThere cX16_isThere 6 (some .boolean)) d [.ref a0, .int i1, .int i2, .int i3, .int i4] S 0 0 (zo_i out) zo_x := by
  refine zm_of (by decide +kernel) (Nat.le_of_ble_eq_true rfl) ?_
  intro p e R s m args below meth c hRR hX hr hxt
  have hR : R.frames = d ∧ R.locals = 64 * d := by rw [hRR]; exact ⟨rfl, rfl⟩
  have hX : zm_X p R s m args meth c RX16 "isThere" cX16_isThere 6 zk_E V 0 0 := hX
  unfold zf_X16_isThere at h
  refine zw_sub (lv' := [(0, .ref a0), (1, .int i1), (2, .int i2), (3, .int i3), (4, .int i4)]) (List.forall_mem_cons.mpr ⟨rfl, (List.forall_mem_cons.mpr ⟨rfl, (List.forall_mem_cons.mpr ⟨rfl, (List.forall_mem_cons.mpr ⟨rfl, (List.forall_mem_cons.mpr ⟨rfl, zs_nil⟩)⟩)⟩)⟩)⟩) ?_
  refine zw_aload_n hX dX16_isThere_0 rfl ?_
  obtain ⟨b1, g, h⟩ := zb_some h
  refine zw_getr hX zl_X16_16 dX16_isThere_1 g ?_
  refine zw_iload_n hX dX16_isThere_4 rfl ?_
  obtain ⟨v2, g, h⟩ := zb_some h
  refine zw_xz hX dX16_isThere_5 g ?_
  refine zw_if_eq (tgt := 20) hX dX16_isThere_6 (by decide) (fun c6 => ?_) (fun c6 => ?_)
  · rw [if_pos c6] at h
    refine zw_iload hX dX16_isThere_20 rfl ?_
    refine zw_aload_n hX dX16_isThere_22 rfl ?_
    obtain ⟨b3, g, h⟩ := zb_some h
    refine zw_getr hX zl_X16_13 dX16_isThere_23 g ?_
    refine zw_iload_n hX dX16_isThere_26 rfl ?_
    obtain ⟨v4, g, h⟩ := zb_some h
    refine zw_xi hX dX16_isThere_27 g ?_
    refine zw_isub hX dX16_isThere_28 ?_
    refine zw_sub (lv' := [(0, .ref a0), (1, .int i1), (2, .int i2)]) (List.forall_mem_cons.mpr ⟨rfl, (List.forall_mem_cons.mpr ⟨rfl, (List.forall_mem_cons.mpr ⟨rfl, zs_nil⟩)⟩)⟩) ?_
    exact zt_X16_isThere_J29 hX hr hR hd h
  · rw [if_neg c6] at h
    refine zw_iload_n hX dX16_isThere_9 rfl ?_
    refine zw_aload_n hX dX16_isThere_10 rfl ?_
    obtain ⟨b9, g, h⟩ := zb_some h
    refine zw_getr hX zl_X16_7 dX16_isThere_11 g ?_
    refine zw_iload_n hX dX16_isThere_14 rfl ?_
    obtain ⟨v10, g, h⟩ := zb_some h
    refine zw_xi hX dX16_isThere_15 g ?_
    refine zw_isub hX dX16_isThere_16 ?_
    refine zw_goto (tgt := 29) hX dX16_isThere_17 (by decide) ?_
    refine zw_sub (lv' := [(0, .ref a0), (1, .int i1), (2, .int i2)]) (List.forall_mem_cons.mpr ⟨rfl, (List.forall_mem_cons.mpr ⟨rfl, (List.forall_mem_cons.mpr ⟨rfl, zs_nil⟩)⟩)⟩) ?_
    exact zt_X16_isThere_J29 hX hr hR hd h
set_option maxHeartbeats 4000000 in
set_option maxRecDepth 100000 in
theorem zt_X17_init {l : Launch} {V : zm_V} {N : Nat} {S : zm_S} {out : (Unit × zm_S)} {d : Nat} {a0 : Nat} (hd : 2 ≤ d) (h : zf_X17_init N a0 S = some out) : zm_Met l zk_E V yX17_init (.code yX17_init cX17_init 1 none) d [.ref a0] S 16 934 (zo_v out) zo_x := by
  refine zm_of (by decide +kernel) (Nat.le_of_ble_eq_true rfl) ?_
  intro p e R s m args below meth c hRR hX hr hxt
  have hR : R.frames = d ∧ R.locals = 64 * d := by rw [hRR]; exact ⟨rfl, rfl⟩
  have hX : zm_X p R s m args meth c RX17 "<init>" cX17_init 1 zk_E V 16 934 := hX
  unfold zf_X17_init at h
  refine zw_sub (lv' := [(0, .ref a0)]) (List.forall_mem_cons.mpr ⟨rfl, zs_nil⟩) ?_
  refine zw_aload_n hX dX17_init_0 rfl ?_
  refine zw_objInit hX zl_X17_1.1 zl_X17_1.2.1 zl_X17_1.2.2 dX17_init_1 (by omega) (by show 0 + 12 ≤ R.locals; omega) ?_
  refine zw_aload_n hX dX17_init_4 rfl ?_
  refine zw_bipush (v := (40 : Int32)) hX dX17_init_5 (by decide) ?_
  obtain ⟨S1, g, h⟩ := zb_some h
  refine zw_ni (b := 40) hX zk_ai dX17_init_7 (by omega) (by omega) (by decide) g ?_
  obtain ⟨S2, g, h⟩ := zb_some h
  refine zw_putvF hX zl_X17_7 zt_17_1 dX17_init_9 rfl rfl g ?_
  refine zw_aload_n hX dX17_init_12 rfl ?_
  refine zw_bipush (v := (40 : Int32)) hX dX17_init_13 (by decide) ?_
  obtain ⟨S3, g, h⟩ := zb_some h
  refine zw_ni (b := 40) hX zk_ai dX17_init_15 (by omega) (by omega) (by decide) g ?_
  obtain ⟨S4, g, h⟩ := zb_some h
  refine zw_putvF hX zl_X17_13 zt_17_2 dX17_init_17 rfl rfl g ?_
  refine zw_aload_n hX dX17_init_20 rfl ?_
  refine zw_bipush (v := (40 : Int32)) hX dX17_init_21 (by decide) ?_
  obtain ⟨S5, g, h⟩ := zb_some h
  refine zw_ni (b := 40) hX zk_ai dX17_init_23 (by omega) (by omega) (by decide) g ?_
  obtain ⟨S6, g, h⟩ := zb_some h
  refine zw_putvF hX zl_X17_16 zt_17_3 dX17_init_25 rfl rfl g ?_
  refine zw_aload_n hX dX17_init_28 rfl ?_
  refine zw_bipush (v := (40 : Int32)) hX dX17_init_29 (by decide) ?_
  obtain ⟨S7, g, h⟩ := zb_some h
  refine zw_ni (b := 40) hX zk_ai dX17_init_31 (by omega) (by omega) (by decide) g ?_
  obtain ⟨S8, g, h⟩ := zb_some h
  refine zw_putvF hX zl_X17_19 zt_17_4 dX17_init_33 rfl rfl g ?_
  refine zw_aload_n hX dX17_init_36 rfl ?_
  refine zw_bipush (v := (120 : Int32)) hX dX17_init_37 (by decide) ?_
  obtain ⟨S9, g, h⟩ := zb_some h
  refine zw_ni (b := 120) hX zk_ai dX17_init_39 (by omega) (by omega) (by decide) g ?_
  obtain ⟨S10, g, h⟩ := zb_some h
  refine zw_putvF hX zl_X17_22 zt_17_5 dX17_init_41 rfl rfl g ?_
  refine zw_aload_n hX dX17_init_44 rfl ?_
  refine zw_sipush (v := (320 : Int32)) hX dX17_init_45 (by decide) ?_
  obtain ⟨S11, g, h⟩ := zb_some h
  refine zw_ni (b := 320) hX zk_ai dX17_init_48 (by omega) (by omega) (by decide) g ?_
  obtain ⟨S12, g, h⟩ := zb_some h
  refine zw_putvF hX zl_X17_25 zt_17_6 dX17_init_50 rfl rfl g ?_
  refine zw_aload_n hX dX17_init_53 rfl ?_
  refine zw_bipush (v := (40 : Int32)) hX dX17_init_54 (by decide) ?_
  obtain ⟨S13, g, h⟩ := zb_some h
  refine zw_ni (b := 40) hX zk_ai dX17_init_56 (by omega) (by omega) (by decide) g ?_
  obtain ⟨S14, g, h⟩ := zb_some h
  refine zw_putvF hX zl_X17_28 zt_17_7 dX17_init_58 rfl rfl g ?_
  refine zw_aload_n hX dX17_init_61 rfl ?_
  refine zw_bipush (v := (40 : Int32)) hX dX17_init_62 (by decide) ?_
  obtain ⟨S15, g, h⟩ := zb_some h
  refine zw_ni (b := 40) hX zk_ai dX17_init_64 (by omega) (by omega) (by decide) g ?_
  obtain ⟨S16, g, h⟩ := zb_some h
  refine zw_putvF hX zl_X17_31 zt_17_8 dX17_init_66 rfl rfl g ?_
  refine zw_aload_n hX dX17_init_69 rfl ?_
  refine zw_bipush (v := (40 : Int32)) hX dX17_init_70 (by decide) ?_
  obtain ⟨S17, g, h⟩ := zb_some h
  refine zw_ni (b := 40) hX zk_ai dX17_init_72 (by omega) (by omega) (by decide) g ?_
  obtain ⟨S18, g, h⟩ := zb_some h
  refine zw_putvF hX zl_X17_34 zt_17_9 dX17_init_74 rfl rfl g ?_
  refine zw_aload_n hX dX17_init_77 rfl ?_
  refine zw_bipush (v := (40 : Int32)) hX dX17_init_78 (by decide) ?_
  obtain ⟨S19, g, h⟩ := zb_some h
  refine zw_nb (b := 40) hX zk_ab dX17_init_80 (by omega) (by omega) (by decide) g ?_
  obtain ⟨S20, g, h⟩ := zb_some h
  refine zw_putvF hX zl_X17_37 zt_17_10 dX17_init_82 rfl rfl g ?_
  refine zw_aload_n hX dX17_init_85 rfl ?_
  refine zw_bipush (v := (40 : Int32)) hX dX17_init_86 (by decide) ?_
  obtain ⟨S21, g, h⟩ := zb_some h
  refine zw_ni (b := 40) hX zk_ai dX17_init_88 (by omega) (by omega) (by decide) g ?_
  obtain ⟨S22, g, h⟩ := zb_some h
  refine zw_putvF hX zl_X17_41 zt_17_11 dX17_init_90 rfl rfl g ?_
  refine zw_aload_n hX dX17_init_93 rfl ?_
  refine zw_bipush (v := (10 : Int32)) hX dX17_init_94 (by decide) ?_
  obtain ⟨S23, g, h⟩ := zb_some h
  refine zw_ni (b := 10) hX zk_ai dX17_init_96 (by omega) (by omega) (by decide) g ?_
  obtain ⟨S24, g, h⟩ := zb_some h
  refine zw_putvF hX zl_X17_44 zt_17_12 dX17_init_98 rfl rfl g ?_
  refine zw_aload_n hX dX17_init_101 rfl ?_
  refine zw_bipush (v := (40 : Int32)) hX dX17_init_102 (by decide) ?_
  obtain ⟨S25, g, h⟩ := zb_some h
  refine zw_ni (b := 40) hX zk_ai dX17_init_104 (by omega) (by omega) (by decide) g ?_
  obtain ⟨S26, g, h⟩ := zb_some h
  refine zw_putvF hX zl_X17_47 zt_17_13 dX17_init_106 rfl rfl g ?_
  refine zw_aload_n hX dX17_init_109 rfl ?_
  refine zw_bipush (v := (40 : Int32)) hX dX17_init_110 (by decide) ?_
  obtain ⟨S27, g, h⟩ := zb_some h
  refine zw_ni (b := 40) hX zk_ai dX17_init_112 (by omega) (by omega) (by decide) g ?_
  obtain ⟨S28, g, h⟩ := zb_some h
  refine zw_putvF hX zl_X17_50 zt_17_15 dX17_init_114 rfl rfl g ?_
  refine zw_aload_n hX dX17_init_117 rfl ?_
  refine zw_bipush (v := (40 : Int32)) hX dX17_init_118 (by decide) ?_
  obtain ⟨S29, g, h⟩ := zb_some h
  refine zw_nb (b := 40) hX zk_ab dX17_init_120 (by omega) (by omega) (by decide) g ?_
  obtain ⟨S30, g, h⟩ := zb_some h
  refine zw_putvF hX zl_X17_53 zt_17_16 dX17_init_122 rfl rfl g ?_
  refine zw_aload_n hX dX17_init_125 rfl ?_
  refine zw_iconst (v := (4 : Int32)) hX dX17_init_126 (by decide) ?_
  obtain ⟨S31, g, h⟩ := zb_some h
  refine zw_ni (b := 4) hX zk_ai dX17_init_127 (by omega) (by omega) (by decide) g ?_
  obtain ⟨S32, g, h⟩ := zb_some h
  refine zw_putvF hX zl_X17_56 zt_17_17 dX17_init_129 rfl rfl g ?_
  obtain rfl := Option.some.inj h
  exact zw_vret hX hr dX17_init_132 ⟨rfl, rfl⟩
set_option maxHeartbeats 4000000 in
set_option maxRecDepth 100000 in
theorem zt_X17_inputs {l : Launch} {V : zm_V} {N : Nat} {S : zm_S} {out : (Int32 × zm_S)} {d : Nat} {i0 : Int32} (hd : 1 ≤ d) (h : zf_X17_inputs N i0 S = some out) : zm_Met l zk_E V yX17_inputs (.code yX17_inputs cX17_inputs 1 (some .int)) d [.int i0] S 0 0 (zo_i out) zo_x := by
  refine zm_of (by decide +kernel) (Nat.le_of_ble_eq_true rfl) ?_
  intro p e R s m args below meth c hRR hX hr hxt
  have hR : R.frames = d ∧ R.locals = 64 * d := by rw [hRR]; exact ⟨rfl, rfl⟩
  have hX : zm_X p R s m args meth c RX17 "inputs" cX17_inputs 1 zk_E V 0 0 := hX
  unfold zf_X17_inputs at h
  refine zw_sub (lv' := [(0, .int i0)]) (List.forall_mem_cons.mpr ⟨rfl, zs_nil⟩) ?_
  refine zw_iload_n hX dX17_inputs_0 rfl ?_
  refine zw_iconst (v := (2 : Int32)) hX dX17_inputs_1 (by decide) ?_
  refine zw_icmp_lt (tgt := 11) hX dX17_inputs_2 (by decide) (fun c2 => ?_) (fun c2 => ?_)
  · rw [if_pos c2] at h
    refine zw_iconst (v := (0 : Int32)) hX dX17_inputs_11 (by decide) ?_
    obtain rfl := Option.some.inj h
    exact zw_iret hX hr dX17_inputs_12 rfl ⟨rfl, rfl⟩
  · rw [if_neg c2] at h
    refine zw_iload_n hX dX17_inputs_5 rfl ?_
    refine zw_bipush (v := (20 : Int32)) hX dX17_inputs_6 (by decide) ?_
    refine zw_icmp_ne (tgt := 13) hX dX17_inputs_8 (by decide) (fun c8 => ?_) (fun c8 => ?_)
    · rw [if_neg c8] at h
      refine zw_iload_n hX dX17_inputs_13 rfl ?_
      refine zw_bipush (v := (14 : Int32)) hX dX17_inputs_14 (by decide) ?_
      refine zw_icmp_ne (tgt := 21) hX dX17_inputs_16 (by decide) (fun c16 => ?_) (fun c16 => ?_)
      · rw [if_neg c16] at h
        refine zw_iload_n hX dX17_inputs_21 rfl ?_
        refine zw_bipush (v := (13 : Int32)) hX dX17_inputs_22 (by decide) ?_
        refine zw_icmp_lt (tgt := 51) hX dX17_inputs_24 (by decide) (fun c24 => ?_) (fun c24 => ?_)
        · rw [if_pos c24] at h
          refine zw_iconst (v := (2 : Int32)) hX dX17_inputs_51 (by decide) ?_
          refine zw_goto (tgt := 56) hX dX17_inputs_52 (by decide) ?_
          obtain rfl := Option.some.inj h
          exact zw_iret hX hr dX17_inputs_56 rfl ⟨rfl, rfl⟩
        · rw [if_neg c24] at h
          refine zw_iload_n hX dX17_inputs_27 rfl ?_
          refine zw_bipush (v := (18 : Int32)) hX dX17_inputs_28 (by decide) ?_
          refine zw_icmp_eq (tgt := 51) hX dX17_inputs_30 (by decide) (fun c30 => ?_) (fun c30 => ?_)
          · rw [if_pos c30] at h
            refine zw_iconst (v := (2 : Int32)) hX dX17_inputs_51 (by decide) ?_
            refine zw_goto (tgt := 56) hX dX17_inputs_52 (by decide) ?_
            obtain rfl := Option.some.inj h
            exact zw_iret hX hr dX17_inputs_56 rfl ⟨rfl, rfl⟩
          · rw [if_neg c30] at h
            refine zw_iload_n hX dX17_inputs_33 rfl ?_
            refine zw_bipush (v := (19 : Int32)) hX dX17_inputs_34 (by decide) ?_
            refine zw_icmp_eq (tgt := 51) hX dX17_inputs_36 (by decide) (fun c36 => ?_) (fun c36 => ?_)
            · rw [if_pos c36] at h
              refine zw_iconst (v := (2 : Int32)) hX dX17_inputs_51 (by decide) ?_
              refine zw_goto (tgt := 56) hX dX17_inputs_52 (by decide) ?_
              obtain rfl := Option.some.inj h
              exact zw_iret hX hr dX17_inputs_56 rfl ⟨rfl, rfl⟩
            · rw [if_neg c36] at h
              refine zw_iload_n hX dX17_inputs_39 rfl ?_
              refine zw_bipush (v := (23 : Int32)) hX dX17_inputs_40 (by decide) ?_
              refine zw_icmp_eq (tgt := 51) hX dX17_inputs_42 (by decide) (fun c42 => ?_) (fun c42 => ?_)
              · rw [if_pos c42] at h
                refine zw_iconst (v := (2 : Int32)) hX dX17_inputs_51 (by decide) ?_
                refine zw_goto (tgt := 56) hX dX17_inputs_52 (by decide) ?_
                obtain rfl := Option.some.inj h
                exact zw_iret hX hr dX17_inputs_56 rfl ⟨rfl, rfl⟩
              · rw [if_neg c42] at h
                refine zw_iload_n hX dX17_inputs_45 rfl ?_
                refine zw_bipush (v := (24 : Int32)) hX dX17_inputs_46 (by decide) ?_
                refine zw_icmp_ne (tgt := 55) hX dX17_inputs_48 (by decide) (fun c48 => ?_) (fun c48 => ?_)
                · rw [if_neg c48] at h
                  refine zw_iconst (v := (1 : Int32)) hX dX17_inputs_55 (by decide) ?_
                  obtain rfl := Option.some.inj h
                  exact zw_iret hX hr dX17_inputs_56 rfl ⟨rfl, rfl⟩
                · rw [if_pos c48] at h
                  refine zw_iconst (v := (2 : Int32)) hX dX17_inputs_51 (by decide) ?_
                  refine zw_goto (tgt := 56) hX dX17_inputs_52 (by decide) ?_
                  obtain rfl := Option.some.inj h
                  exact zw_iret hX hr dX17_inputs_56 rfl ⟨rfl, rfl⟩
      · rw [if_pos c16] at h
        refine zw_iconst (v := (3 : Int32)) hX dX17_inputs_19 (by decide) ?_
        obtain rfl := Option.some.inj h
        exact zw_iret hX hr dX17_inputs_20 rfl ⟨rfl, rfl⟩
    · rw [if_pos c8] at h
      refine zw_iconst (v := (0 : Int32)) hX dX17_inputs_11 (by decide) ?_
      obtain rfl := Option.some.inj h
      exact zw_iret hX hr dX17_inputs_12 rfl ⟨rfl, rfl⟩
set_option maxHeartbeats 4000000 in
set_option maxRecDepth 100000 in
theorem zt_X17_mayCome_J63 {p : Program} {l : Launch} {e : Env} {R : Room} {s : State} {m : MethodId} {args : Array Value} {below : List Frame} {meth : Method} {c : Code} {V : zm_V} {mc ms d rc rs : Nat} (hX : zm_X p R s m args meth c RX17 "mayCome" cX17_mayCome 5 zk_E V mc ms) (hr : meth.sig.returnType = (some .boolean)) (hR : R.frames = d ∧ R.locals = 64 * d) (hd : 2 ≤ d) {N : Nat} {k : Nat → Int32 → Int32 → Int32 → zm_S → Option ((Int32 × zm_S) ⊕ ((Int32) × zm_S))} {a0 : Nat} {i1 : Int32} {i3 : Int32} {res : (Int32 × zm_S) ⊕ ((Int32) × zm_S)} {out : (Int32 × zm_S)}   (hf : ∀ o, res = .inl o → o = out) (hk : ∀ (x2 : Int32) (S' : zm_S), res = .inr (x2, S') → zw p l e R s m args below meth c (vx_MQ below (zm_Qc zk_E V (zo_i out)) (zm_XC zk_E V zo_x) args s mc ms (fun q => V.2.2.2.1 ≤ q)) 5 zk_E V mc ms 71 [(2, .int x2)] [] S' rc rs) (hrec : ∀ (i2' : Int32) (i3' : Int32) (S : zm_S), k a0 i1 i2' i3' S = some res → zw p l e R s m args below meth c (vx_MQ below (zm_Qc zk_E V (zo_i out)) (zm_XC zk_E V zo_x) args s mc ms (fun q => V.2.2.2.1 ≤ q)) 5 zk_E V mc ms 4 [(0, .ref a0), (1, .int i1), (2, .int i2'), (3, .int i3')] [] S rc rs) {S : zm_S} (h : zf_X17_mayCome_J63 N k a0 i1 i3 S = some res) : zw p l e R s m args below meth c (vx_MQ below (zm_Qc zk_E V (zo_i out)) (zm_XC zk_E V zo_x) args s mc ms (fun q => V.2.2.2.1 ≤ q)) 5 zk_E V mc ms 63 [(0, .ref a0), (1, .int i1), (3, .int i3)] [] S rc rs := by
  unfold zf_X17_mayCome_J63 at h
  refine zw_iconst (v := (0 : Int32)) hX dX17_mayCome_63 (by decide) ?_
  refine zw_istore_n hX dX17_mayCome_64 (by decide) ?_
  refine zw_iinc (v := (i3 + (1 : Int32))) hX dX17_mayCome_65 rfl rfl (by decide) ?_
  refine zw_goto (tgt := 4) hX dX17_mayCome_68 (by decide) ?_
  refine zw_sub (lv' := [(0, .ref a0), (1, .int i1), (2, .int (0 : Int32)), (3, .int (i3 + (1 : Int32)))]) (List.forall_mem_cons.mpr ⟨rfl, (List.forall_mem_cons.mpr ⟨rfl, (List.forall_mem_cons.mpr ⟨rfl, (List.forall_mem_cons.mpr ⟨rfl, zs_nil⟩)⟩)⟩)⟩) ?_
  exact hrec _ _ _ h
set_option maxHeartbeats 4000000 in
set_option maxRecDepth 100000 in
theorem zt_X17_mayCome_J59 {p : Program} {l : Launch} {e : Env} {R : Room} {s : State} {m : MethodId} {args : Array Value} {below : List Frame} {meth : Method} {c : Code} {V : zm_V} {mc ms d rc rs : Nat} (hX : zm_X p R s m args meth c RX17 "mayCome" cX17_mayCome 5 zk_E V mc ms) (hr : meth.sig.returnType = (some .boolean)) (hR : R.frames = d ∧ R.locals = 64 * d) (hd : 2 ≤ d) {N : Nat} {k : Nat → Int32 → Int32 → Int32 → zm_S → Option ((Int32 × zm_S) ⊕ ((Int32) × zm_S))} {a0 : Nat} {i1 : Int32} {i3 : Int32} {res : (Int32 × zm_S) ⊕ ((Int32) × zm_S)} {out : (Int32 × zm_S)}   (hf : ∀ o, res = .inl o → o = out) (hk : ∀ (x2 : Int32) (S' : zm_S), res = .inr (x2, S') → zw p l e R s m args below meth c (vx_MQ below (zm_Qc zk_E V (zo_i out)) (zm_XC zk_E V zo_x) args s mc ms (fun q => V.2.2.2.1 ≤ q)) 5 zk_E V mc ms 71 [(2, .int x2)] [] S' rc rs) (hrec : ∀ (i2' : Int32) (i3' : Int32) (S : zm_S), k a0 i1 i2' i3' S = some res → zw p l e R s m args below meth c (vx_MQ below (zm_Qc zk_E V (zo_i out)) (zm_XC zk_E V zo_x) args s mc ms (fun q => V.2.2.2.1 ≤ q)) 5 zk_E V mc ms 4 [(0, .ref a0), (1, .int i1), (2, .int i2'), (3, .int i3')] [] S rc rs) {S : zm_S} (h : zf_X17_mayCome_J59 N k a0 i1 i3 S = some res) : zw p l e R s m args below meth c (vx_MQ below (zm_Qc zk_E V (zo_i out)) (zm_XC zk_E V zo_x) args s mc ms (fun q => V.2.2.2.1 ≤ q)) 5 zk_E V mc ms 59 [(0, .ref a0), (1, .int i1), (3, .int i3)] [] S rc rs := by
  unfold zf_X17_mayCome_J59 at h
  refine zw_iconst (v := (1 : Int32)) hX dX17_mayCome_59 (by decide) ?_
  refine zw_goto (tgt := 64) hX dX17_mayCome_60 (by decide) ?_
  refine zw_istore_n hX dX17_mayCome_64 (by decide) ?_
  refine zw_iinc (v := (i3 + (1 : Int32))) hX dX17_mayCome_65 rfl rfl (by decide) ?_
  refine zw_goto (tgt := 4) hX dX17_mayCome_68 (by decide) ?_
  refine zw_sub (lv' := [(0, .ref a0), (1, .int i1), (2, .int (1 : Int32)), (3, .int (i3 + (1 : Int32)))]) (List.forall_mem_cons.mpr ⟨rfl, (List.forall_mem_cons.mpr ⟨rfl, (List.forall_mem_cons.mpr ⟨rfl, (List.forall_mem_cons.mpr ⟨rfl, zs_nil⟩)⟩)⟩)⟩) ?_
  exact hrec _ _ _ h
set_option maxHeartbeats 4000000 in
set_option maxRecDepth 100000 in
theorem zt_X17_mayCome_L4 {p : Program} {l : Launch} {e : Env} {R : Room} {s : State} {m : MethodId} {args : Array Value} {below : List Frame} {meth : Method} {c : Code} {V : zm_V} {mc ms d rc rs : Nat} (hX : zm_X p R s m args meth c RX17 "mayCome" cX17_mayCome 5 zk_E V mc ms) (hr : meth.sig.returnType = (some .boolean)) (hR : R.frames = d ∧ R.locals = 64 * d) (hd : 2 ≤ d) {N : Nat} {res : (Int32 × zm_S) ⊕ ((Int32) × zm_S)} {out : (Int32 × zm_S)} (a0 : Nat) (i1 : Int32) (hf : ∀ o, res = .inl o → o = out) (hk : ∀ (x2 : Int32) (S' : zm_S), res = .inr (x2, S') → zw p l e R s m args below meth c (vx_MQ below (zm_Qc zk_E V (zo_i out)) (zm_XC zk_E V zo_x) args s mc ms (fun q => V.2.2.2.1 ≤ q)) 5 zk_E V mc ms 71 [(2, .int x2)] [] S' rc rs) : ∀ (n : Nat) (i2 : Int32) (i3 : Int32) (S : zm_S), zf_X17_mayCome_L4 N n a0 i1 i2 i3 S = some res → zw p l e R s m args below meth c (vx_MQ below (zm_Qc zk_E V (zo_i out)) (zm_XC zk_E V zo_x) args s mc ms (fun q => V.2.2.2.1 ≤ q)) 5 zk_E V mc ms 4 [(0, .ref a0), (1, .int i1), (2, .int i2), (3, .int i3)] [] S rc rs := by
  intro n
  induction n with
  | zero => intro i2 i3 S h; cases h
  | succ n ih =>
    intro i2 i3 S h
    rw [zf_X17_mayCome_L4] at h
    refine zw_iload_n hX dX17_mayCome_4 rfl ?_
    refine zw_aload_n hX dX17_mayCome_5 rfl ?_
    obtain ⟨b1, g, h⟩ := zb_some h
    refine zw_getr hX zl_X17_7 dX17_mayCome_6 g ?_
    refine zw_iload_n hX dX17_mayCome_9 rfl ?_
    obtain ⟨v2, g, h⟩ := zb_some h
    refine zw_xi hX dX17_mayCome_10 g ?_
    obtain ⟨r4, g, h⟩ := zb_some h
    refine zc_Si (as := [.int v2]) hX (zt_X17_inputs (d := d - 1) (by omega) g) zl_X17_59 dX17_mayCome_11 ⟨rfl, rfl, Nat.le_of_ble_eq_true rfl⟩ ⟨by omega, by omega⟩ ?_
    refine zw_icmp_ge (tgt := 71) hX dX17_mayCome_14 (by decide) (fun c14 => ?_) (fun c14 => ?_)
    · rw [if_pos c14] at h
      refine zw_sub (lv' := [(2, .int i2)]) (List.forall_mem_cons.mpr ⟨rfl, zs_nil⟩) ?_
      exact hk _ _ (Option.some.inj h).symm
    · rw [if_neg c14] at h
      refine zw_aload_n hX dX17_mayCome_17 rfl ?_
      obtain ⟨b5, g, h⟩ := zb_some h
      refine zw_getr hX zl_X17_7 dX17_mayCome_18 g ?_
      refine zw_iload_n hX dX17_mayCome_21 rfl ?_
      obtain ⟨v6, g, h⟩ := zb_some h
      refine zw_xi hX dX17_mayCome_22 g ?_
      refine zw_bipush (v := (16 : Int32)) hX dX17_mayCome_23 (by decide) ?_
      refine zw_icmp_eq (tgt := 71) hX dX17_mayCome_25 (by decide) (fun c25 => ?_) (fun c25 => ?_)
      · rw [if_pos c25] at h
        refine zw_sub (lv' := [(2, .int i2)]) (List.forall_mem_cons.mpr ⟨rfl, zs_nil⟩) ?_
        exact hk _ _ (Option.some.inj h).symm
      · rw [if_neg c25] at h
        refine zw_aload_n hX dX17_mayCome_28 rfl ?_
        obtain ⟨b7, g, h⟩ := zb_some h
        refine zw_getr hX zl_X17_22 dX17_mayCome_29 g ?_
        refine zw_iconst (v := (3 : Int32)) hX dX17_mayCome_32 (by decide) ?_
        refine zw_iload_n hX dX17_mayCome_33 rfl ?_
        refine zw_imul hX dX17_mayCome_34 ?_
        refine zw_iload_n hX dX17_mayCome_35 rfl ?_
        refine zw_iadd hX dX17_mayCome_36 ?_
        obtain ⟨v8, g, h⟩ := zb_some h
        refine zw_xi hX dX17_mayCome_37 g ?_
        refine zw_istore hX dX17_mayCome_38 (by decide) ?_
        refine zw_iload_n hX dX17_mayCome_40 rfl ?_
        refine zw_if_eq (tgt := 63) hX dX17_mayCome_41 (by decide) (fun c41 => ?_) (fun c41 => ?_)
        · rw [if_pos c41] at h
          refine zw_sub (lv' := [(0, .ref a0), (1, .int i1), (3, .int i3)]) (List.forall_mem_cons.mpr ⟨rfl, (List.forall_mem_cons.mpr ⟨rfl, (List.forall_mem_cons.mpr ⟨rfl, zs_nil⟩)⟩)⟩) ?_
          exact zt_X17_mayCome_J63 hX hr hR hd hf hk ih h
        · rw [if_neg c41] at h
          refine zw_iload hX dX17_mayCome_44 rfl ?_
          refine zw_if_lt (tgt := 59) hX dX17_mayCome_46 (by decide) (fun c46 => ?_) (fun c46 => ?_)
          · rw [if_pos c46] at h
            refine zw_sub (lv' := [(0, .ref a0), (1, .int i1), (3, .int i3)]) (List.forall_mem_cons.mpr ⟨rfl, (List.forall_mem_cons.mpr ⟨rfl, (List.forall_mem_cons.mpr ⟨rfl, zs_nil⟩)⟩)⟩) ?_
            exact zt_X17_mayCome_J59 hX hr hR hd hf hk ih h
          · rw [if_neg c46] at h
            refine zw_aload_n hX dX17_mayCome_49 rfl ?_
            obtain ⟨b9, g, h⟩ := zb_some h
            refine zw_getr hX zl_X17_53 dX17_mayCome_50 g ?_
            refine zw_iload hX dX17_mayCome_53 rfl ?_
            obtain ⟨v10, g, h⟩ := zb_some h
            refine zw_xz hX dX17_mayCome_55 g ?_
            refine zw_if_eq (tgt := 63) hX dX17_mayCome_56 (by decide) (fun c56 => ?_) (fun c56 => ?_)
            · rw [if_pos c56] at h
              refine zw_sub (lv' := [(0, .ref a0), (1, .int i1), (3, .int i3)]) (List.forall_mem_cons.mpr ⟨rfl, (List.forall_mem_cons.mpr ⟨rfl, (List.forall_mem_cons.mpr ⟨rfl, zs_nil⟩)⟩)⟩) ?_
              exact zt_X17_mayCome_J63 hX hr hR hd hf hk ih h
            · rw [if_neg c56] at h
              refine zw_sub (lv' := [(0, .ref a0), (1, .int i1), (3, .int i3)]) (List.forall_mem_cons.mpr ⟨rfl, (List.forall_mem_cons.mpr ⟨rfl, (List.forall_mem_cons.mpr ⟨rfl, zs_nil⟩)⟩)⟩) ?_
              exact zt_X17_mayCome_J59 hX hr hR hd hf hk ih h
set_option maxHeartbeats 4000000 in
set_option maxRecDepth 100000 in
theorem zt_X17_mayCome {l : Launch} {V : zm_V} {N : Nat} {S : zm_S} {out : (Int32 × zm_S)} {d : Nat} {a0 : Nat} {i1 : Int32} (hd : 2 ≤ d) (h : zf_X17_mayCome N a0 i1 S = some out) : zm_Met l zk_E V yX17_mayCome (.code yX17_mayCome cX17_mayCome 5 (some .boolean)) d [.ref a0, .int i1] S 0 0 (zo_i out) zo_x := by
  refine zm_of (by decide +kernel) (Nat.le_of_ble_eq_true rfl) ?_
  intro p e R s m args below meth c hRR hX hr hxt
  have hR : R.frames = d ∧ R.locals = 64 * d := by rw [hRR]; exact ⟨rfl, rfl⟩
  have hX : zm_X p R s m args meth c RX17 "mayCome" cX17_mayCome 5 zk_E V 0 0 := hX
  unfold zf_X17_mayCome at h
  refine zw_sub (lv' := [(0, .ref a0), (1, .int i1)]) (List.forall_mem_cons.mpr ⟨rfl, (List.forall_mem_cons.mpr ⟨rfl, zs_nil⟩)⟩) ?_
  refine zw_iconst (v := (1 : Int32)) hX dX17_mayCome_0 (by decide) ?_
  refine zw_istore_n hX dX17_mayCome_1 (by decide) ?_
  refine zw_iconst (v := (0 : Int32)) hX dX17_mayCome_2 (by decide) ?_
  refine zw_istore_n hX dX17_mayCome_3 (by decide) ?_
  obtain ⟨r, g, h⟩ := zb_some h
  refine zw_sub (lv' := [(0, .ref a0), (1, .int i1), (2, .int (1 : Int32)), (3, .int (0 : Int32))]) (List.forall_mem_cons.mpr ⟨rfl, (List.forall_mem_cons.mpr ⟨rfl, (List.forall_mem_cons.mpr ⟨rfl, (List.forall_mem_cons.mpr ⟨rfl, zs_nil⟩)⟩)⟩)⟩) ?_
  refine zt_X17_mayCome_L4 hX hr hR hd (res := r) (out := out) a0 i1 ?_ ?_ N _ _ _ g
  · intro o ho
    subst ho
    exact Option.some.inj h
  · intro v12 S11 hx
    subst hx
    try dsimp only at h
    refine zw_iload_n hX dX17_mayCome_71 rfl ?_
    by_cases cz : v12 = 0 ∨ v12 = 1
    · rw [if_pos cz] at h
      obtain rfl := Option.some.inj h
      exact zw_iret hX hr dX17_mayCome_72 (zn_z cz) ⟨rfl, rfl⟩
    · rw [if_neg cz] at h
      cases h
set_option maxHeartbeats 4000000 in
set_option maxRecDepth 100000 in
theorem zt_X17_sort_L2 {p : Program} {l : Launch} {e : Env} {R : Room} {s : State} {m : MethodId} {args : Array Value} {below : List Frame} {meth : Method} {c : Code} {V : zm_V} {mc ms d rc rs : Nat} (hX : zm_X p R s m args meth c RX17 "sort" cX17_sort 5 zk_E V mc ms) (hr : meth.sig.returnType = (some .int)) (hR : R.frames = d ∧ R.locals = 64 * d) (hd : 3 ≤ d) {N : Nat} {res : (Int32 × zm_S) ⊕ ((Unit) × zm_S)} {out : (Int32 × zm_S)} (a0 : Nat) (hf : ∀ o, res = .inl o → o = out) (hk : ∀ (S' : zm_S), res = .inr ((), S') → zw p l e R s m args below meth c (vx_MQ below (zm_Qc zk_E V (zo_i out)) (zm_XC zk_E V zo_x) args s mc ms (fun q => V.2.2.2.1 ≤ q)) 5 zk_E V mc ms 23 [(0, .ref a0)] [] S' rc rs) : ∀ (n : Nat) (i1 : Int32) (S : zm_S), zf_X17_sort_L2 N n a0 i1 S = some res → zw p l e R s m args below meth c (vx_MQ below (zm_Qc zk_E V (zo_i out)) (zm_XC zk_E V zo_x) args s mc ms (fun q => V.2.2.2.1 ≤ q)) 5 zk_E V mc ms 2 [(0, .ref a0), (1, .int i1)] [] S rc rs := by
  intro n
  induction n with
  | zero => intro i1 S h; cases h
  | succ n ih =>
    intro i1 S h
    rw [zf_X17_sort_L2] at h
    refine zw_iload_n hX dX17_sort_2 rfl ?_
    refine zw_aload_n hX dX17_sort_3 rfl ?_
    obtain ⟨v1, g, h⟩ := zb_some h
    refine zw_geti hX zl_X17_63 dX17_sort_4 g ?_
    refine zw_icmp_ge (tgt := 23) hX dX17_sort_7 (by decide) (fun c7 => ?_) (fun c7 => ?_)
    · rw [if_pos c7] at h
      refine zw_sub (lv' := [(0, .ref a0)]) (List.forall_mem_cons.mpr ⟨rfl, zs_nil⟩) ?_
      exact hk  _ (Option.some.inj h).symm
    · rw [if_neg c7] at h
      refine zw_aload_n hX dX17_sort_10 rfl ?_
      obtain ⟨b2, g, h⟩ := zb_some h
      refine zw_getr hX zl_X17_53 dX17_sort_11 g ?_
      refine zw_iload_n hX dX17_sort_14 rfl ?_
      refine zw_iconst (v := (0 : Int32)) hX dX17_sort_15 (by decide) ?_
      obtain ⟨S3, g, h⟩ := zb_some h
      refine zw_sz hX dX17_sort_16 g ?_
      refine zw_iinc (v := (i1 + (1 : Int32))) hX dX17_sort_17 rfl rfl (by decide) ?_
      refine zw_goto (tgt := 2) hX dX17_sort_20 (by decide) ?_
      refine zw_sub (lv' := [(0, .ref a0), (1, .int (i1 + (1 : Int32)))]) (List.forall_mem_cons.mpr ⟨rfl, (List.forall_mem_cons.mpr ⟨rfl, zs_nil⟩)⟩) ?_
      exact ih _ _ h
set_option maxHeartbeats 4000000 in
set_option maxRecDepth 100000 in
theorem zt_X17_sort_J70 {p : Program} {l : Launch} {e : Env} {R : Room} {s : State} {m : MethodId} {args : Array Value} {below : List Frame} {meth : Method} {c : Code} {V : zm_V} {mc ms d rc rs : Nat} (hX : zm_X p R s m args meth c RX17 "sort" cX17_sort 5 zk_E V mc ms) (hr : meth.sig.returnType = (some .int)) (hR : R.frames = d ∧ R.locals = 64 * d) (hd : 3 ≤ d) {N : Nat} {k : Nat → Int32 → Int32 → Int32 → zm_S → Option ((Int32 × zm_S) ⊕ ((Int32) × zm_S))} {a0 : Nat} {i1 : Int32} {i3 : Int32} {i4 : Int32} {res : (Int32 × zm_S) ⊕ ((Int32) × zm_S)} {out : (Int32 × zm_S)}   (hf : ∀ o, res = .inl o → o = out) (hk : ∀ (x3 : Int32) (S' : zm_S), res = .inr (x3, S') → zw p l e R s m args below meth c (vx_MQ below (zm_Qc zk_E V (zo_i out)) (zm_XC zk_E V zo_x) args s mc ms (fun q => V.2.2.2.1 ≤ q)) 5 zk_E V mc ms 78 [(0, .ref a0), (1, .int i1), (3, .int x3)] [] S' rc rs) (hrec : ∀ (i3' : Int32) (i4' : Int32) (S : zm_S), k a0 i1 i3' i4' S = some res → zw p l e R s m args below meth c (vx_MQ below (zm_Qc zk_E V (zo_i out)) (zm_XC zk_E V zo_x) args s mc ms (fun q => V.2.2.2.1 ≤ q)) 5 zk_E V mc ms 41 [(0, .ref a0), (1, .int i1), (3, .int i3'), (4, .int i4')] [] S rc rs) {S : zm_S} (h : zf_X17_sort_J70 N k a0 i1 i3 i4 S = some res) : zw p l e R s m args below meth c (vx_MQ below (zm_Qc zk_E V (zo_i out)) (zm_XC zk_E V zo_x) args s mc ms (fun q => V.2.2.2.1 ≤ q)) 5 zk_E V mc ms 70 [(0, .ref a0), (1, .int i1), (3, .int i3), (4, .int i4)] [] S rc rs := by
  unfold zf_X17_sort_J70 at h
  refine zw_iload_n hX dX17_sort_70 rfl ?_
  refine zw_istore_n hX dX17_sort_71 (by decide) ?_
  refine zw_iinc (v := (i4 + (-1 : Int32))) hX dX17_sort_72 rfl rfl (by decide) ?_
  refine zw_goto (tgt := 41) hX dX17_sort_75 (by decide) ?_
  refine zw_sub (lv' := [(0, .ref a0), (1, .int i1), (3, .int i3), (4, .int (i4 + (-1 : Int32)))]) (List.forall_mem_cons.mpr ⟨rfl, (List.forall_mem_cons.mpr ⟨rfl, (List.forall_mem_cons.mpr ⟨rfl, (List.forall_mem_cons.mpr ⟨rfl, zs_nil⟩)⟩)⟩)⟩) ?_
  exact hrec _ _ _ h
set_option maxHeartbeats 4000000 in
set_option maxRecDepth 100000 in
theorem zt_X17_sort_L41 {p : Program} {l : Launch} {e : Env} {R : Room} {s : State} {m : MethodId} {args : Array Value} {below : List Frame} {meth : Method} {c : Code} {V : zm_V} {mc ms d rc rs : Nat} (hX : zm_X p R s m args meth c RX17 "sort" cX17_sort 5 zk_E V mc ms) (hr : meth.sig.returnType = (some .int)) (hR : R.frames = d ∧ R.locals = 64 * d) (hd : 3 ≤ d) {N : Nat} {res : (Int32 × zm_S) ⊕ ((Int32) × zm_S)} {out : (Int32 × zm_S)} (a0 : Nat) (i1 : Int32) (hf : ∀ o, res = .inl o → o = out) (hk : ∀ (x3 : Int32) (S' : zm_S), res = .inr (x3, S') → zw p l e R s m args below meth c (vx_MQ below (zm_Qc zk_E V (zo_i out)) (zm_XC zk_E V zo_x) args s mc ms (fun q => V.2.2.2.1 ≤ q)) 5 zk_E V mc ms 78 [(0, .ref a0), (1, .int i1), (3, .int x3)] [] S' rc rs) : ∀ (n : Nat) (i3 : Int32) (i4 : Int32) (S : zm_S), zf_X17_sort_L41 N n a0 i1 i3 i4 S = some res → zw p l e R s m args below meth c (vx_MQ below (zm_Qc zk_E V (zo_i out)) (zm_XC zk_E V zo_x) args s mc ms (fun q => V.2.2.2.1 ≤ q)) 5 zk_E V mc ms 41 [(0, .ref a0), (1, .int i1), (3, .int i3), (4, .int i4)] [] S rc rs := by
  intro n
  induction n with
  | zero => intro i3 i4 S h; cases h
  | succ n ih =>
    intro i3 i4 S h
    rw [zf_X17_sort_L41] at h
    refine zw_iload hX dX17_sort_41 rfl ?_
    refine zw_if_lt (tgt := 78) hX dX17_sort_43 (by decide) (fun c43 => ?_) (fun c43 => ?_)
    · rw [if_pos c43] at h
      refine zw_sub (lv' := [(0, .ref a0), (1, .int i1), (3, .int i3)]) (List.forall_mem_cons.mpr ⟨rfl, (List.forall_mem_cons.mpr ⟨rfl, (List.forall_mem_cons.mpr ⟨rfl, zs_nil⟩)⟩)⟩) ?_
      exact hk _ _ (Option.some.inj h).symm
    · rw [if_neg c43] at h
      refine zw_aload_n hX dX17_sort_46 rfl ?_
      obtain ⟨b6, g, h⟩ := zb_some h
      refine zw_getr hX zl_X17_53 dX17_sort_47 g ?_
      refine zw_iload hX dX17_sort_50 rfl ?_
      obtain ⟨v7, g, h⟩ := zb_some h
      refine zw_xz hX dX17_sort_52 g ?_
      refine zw_if_ne (tgt := 70) hX dX17_sort_53 (by decide) (fun c53 => ?_) (fun c53 => ?_)
      · rw [if_neg c53] at h
        refine zw_sub (lv' := [(0, .ref a0), (1, .int i1), (3, .int i3), (4, .int i4)]) (List.forall_mem_cons.mpr ⟨rfl, (List.forall_mem_cons.mpr ⟨rfl, (List.forall_mem_cons.mpr ⟨rfl, (List.forall_mem_cons.mpr ⟨rfl, zs_nil⟩)⟩)⟩)⟩) ?_
        exact zt_X17_sort_J70 hX hr hR hd hf hk ih h
      · rw [if_pos c53] at h
        refine zw_aload_n hX dX17_sort_56 rfl ?_
        refine zw_iload hX dX17_sort_57 rfl ?_
        obtain ⟨_, gi, h⟩ := zb_some h
        obtain ⟨r9, g, h⟩ := zb_some h
        refine zc_Vi (as := [.int i4]) hX gi (zt_X17_mayCome (d := d - 1) (by omega) g) zl_X17_67 rfl dX17_sort_59 ⟨rfl, rfl, Nat.le_of_ble_eq_true rfl⟩ ⟨by omega, by omega⟩ ?_
        refine zw_if_eq (tgt := 70) hX dX17_sort_62 (by decide) (fun c62 => ?_) (fun c62 => ?_)
        · rw [if_pos c62] at h
          refine zw_sub (lv' := [(0, .ref a0), (1, .int i1), (3, .int i3), (4, .int i4)]) (List.forall_mem_cons.mpr ⟨rfl, (List.forall_mem_cons.mpr ⟨rfl, (List.forall_mem_cons.mpr ⟨rfl, (List.forall_mem_cons.mpr ⟨rfl, zs_nil⟩)⟩)⟩)⟩) ?_
          exact zt_X17_sort_J70 hX hr hR hd hf hk ih h
        · rw [if_neg c62] at h
          refine zw_iload hX dX17_sort_65 rfl ?_
          refine zw_goto (tgt := 71) hX dX17_sort_67 (by decide) ?_
          refine zw_istore_n hX dX17_sort_71 (by decide) ?_
          refine zw_iinc (v := (i4 + (-1 : Int32))) hX dX17_sort_72 rfl rfl (by decide) ?_
          refine zw_goto (tgt := 41) hX dX17_sort_75 (by decide) ?_
          refine zw_sub (lv' := [(0, .ref a0), (1, .int i1), (3, .int i4), (4, .int (i4 + (-1 : Int32)))]) (List.forall_mem_cons.mpr ⟨rfl, (List.forall_mem_cons.mpr ⟨rfl, (List.forall_mem_cons.mpr ⟨rfl, (List.forall_mem_cons.mpr ⟨rfl, zs_nil⟩)⟩)⟩)⟩) ?_
          exact ih _ _ _ h
set_option maxHeartbeats 4000000 in
set_option maxRecDepth 100000 in
theorem zt_X17_sort_J87 {p : Program} {l : Launch} {e : Env} {R : Room} {s : State} {m : MethodId} {args : Array Value} {below : List Frame} {meth : Method} {c : Code} {V : zm_V} {mc ms d rc rs : Nat} (hX : zm_X p R s m args meth c RX17 "sort" cX17_sort 5 zk_E V mc ms) (hr : meth.sig.returnType = (some .int)) (hR : R.frames = d ∧ R.locals = 64 * d) (hd : 3 ≤ d) {N : Nat} {k : Nat → Int32 → Int32 → zm_S → Option ((Int32 × zm_S) ⊕ ((Int32) × zm_S))} {a0 : Nat} {i1 : Int32} {i3 : Int32} {t0 : Int32} {res : (Int32 × zm_S) ⊕ ((Int32) × zm_S)} {out : (Int32 × zm_S)}   (hf : ∀ o, res = .inl o → o = out) (hk : ∀ (x1 : Int32) (S' : zm_S), res = .inr (x1, S') → zw p l e R s m args below meth c (vx_MQ below (zm_Qc zk_E V (zo_i out)) (zm_XC zk_E V zo_x) args s mc ms (fun q => V.2.2.2.1 ≤ q)) 5 zk_E V mc ms 112 [(0, .ref a0), (1, .int x1)] [] S' rc rs) (hrec : ∀ (i1' : Int32) (i2' : Int32) (S : zm_S), k a0 i1' i2' S = some res → zw p l e R s m args below meth c (vx_MQ below (zm_Qc zk_E V (zo_i out)) (zm_XC zk_E V zo_x) args s mc ms (fun q => V.2.2.2.1 ≤ q)) 5 zk_E V mc ms 27 [(0, .ref a0), (1, .int i1'), (2, .int i2')] [] S rc rs) {S : zm_S} (h : zf_X17_sort_J87 N k a0 i1 i3 t0 S = some res) : zw p l e R s m args below meth c (vx_MQ below (zm_Qc zk_E V (zo_i out)) (zm_XC zk_E V zo_x) args s mc ms (fun q => V.2.2.2.1 ≤ q)) 5 zk_E V mc ms 87 [(0, .ref a0), (1, .int i1), (3, .int i3)] [.int t0] S rc rs := by
  unfold zf_X17_sort_J87 at h
  refine zw_istore_n hX dX17_sort_87 (by decide) ?_
  refine zw_iload_n hX dX17_sort_88 rfl ?_
  refine zw_if_eq (tgt := 109) hX dX17_sort_89 (by decide) (fun c89 => ?_) (fun c89 => ?_)
  · rw [if_pos c89] at h
    refine zw_goto (tgt := 27) hX dX17_sort_109 (by decide) ?_
    refine zw_sub (lv' := [(0, .ref a0), (1, .int i1), (2, .int t0)]) (List.forall_mem_cons.mpr ⟨rfl, (List.forall_mem_cons.mpr ⟨rfl, (List.forall_mem_cons.mpr ⟨rfl, zs_nil⟩)⟩)⟩) ?_
    exact hrec _ _ _ h
  · rw [if_neg c89] at h
    refine zw_aload_n hX dX17_sort_92 rfl ?_
    obtain ⟨b12, g, h⟩ := zb_some h
    refine zw_getr hX zl_X17_53 dX17_sort_93 g ?_
    refine zw_iload_n hX dX17_sort_96 rfl ?_
    refine zw_iconst (v := (1 : Int32)) hX dX17_sort_97 (by decide) ?_
    obtain ⟨S13, g, h⟩ := zb_some h
    refine zw_sz hX dX17_sort_98 g ?_
    refine zw_aload_n hX dX17_sort_99 rfl ?_
    obtain ⟨b14, g, h⟩ := zb_some h
    refine zw_getr hX zl_X17_50 dX17_sort_100 g ?_
    refine zw_iload_n hX dX17_sort_103 rfl ?_
    refine zw_iload_n hX dX17_sort_104 rfl ?_
    obtain ⟨S15, g, h⟩ := zb_some h
    refine zw_si hX dX17_sort_105 g ?_
    refine zw_iinc (v := (i1 + (1 : Int32))) hX dX17_sort_106 rfl rfl (by decide) ?_
    refine zw_goto (tgt := 27) hX dX17_sort_109 (by decide) ?_
    refine zw_sub (lv' := [(0, .ref a0), (1, .int (i1 + (1 : Int32))), (2, .int t0)]) (List.forall_mem_cons.mpr ⟨rfl, (List.forall_mem_cons.mpr ⟨rfl, (List.forall_mem_cons.mpr ⟨rfl, zs_nil⟩)⟩)⟩) ?_
    exact hrec _ _ _ h
set_option maxHeartbeats 4000000 in
set_option maxRecDepth 100000 in
theorem zt_X17_sort_L27 {p : Program} {l : Launch} {e : Env} {R : Room} {s : State} {m : MethodId} {args : Array Value} {below : List Frame} {meth : Method} {c : Code} {V : zm_V} {mc ms d rc rs : Nat} (hX : zm_X p R s m args meth c RX17 "sort" cX17_sort 5 zk_E V mc ms) (hr : meth.sig.returnType = (some .int)) (hR : R.frames = d ∧ R.locals = 64 * d) (hd : 3 ≤ d) {N : Nat} {res : (Int32 × zm_S) ⊕ ((Int32) × zm_S)} {out : (Int32 × zm_S)} (a0 : Nat) (hf : ∀ o, res = .inl o → o = out) (hk : ∀ (x1 : Int32) (S' : zm_S), res = .inr (x1, S') → zw p l e R s m args below meth c (vx_MQ below (zm_Qc zk_E V (zo_i out)) (zm_XC zk_E V zo_x) args s mc ms (fun q => V.2.2.2.1 ≤ q)) 5 zk_E V mc ms 112 [(0, .ref a0), (1, .int x1)] [] S' rc rs) : ∀ (n : Nat) (i1 : Int32) (i2 : Int32) (S : zm_S), zf_X17_sort_L27 N n a0 i1 i2 S = some res → zw p l e R s m args below meth c (vx_MQ below (zm_Qc zk_E V (zo_i out)) (zm_XC zk_E V zo_x) args s mc ms (fun q => V.2.2.2.1 ≤ q)) 5 zk_E V mc ms 27 [(0, .ref a0), (1, .int i1), (2, .int i2)] [] S rc rs := by
  intro n
  induction n with
  | zero => intro i1 i2 S h; cases h
  | succ n ih =>
    intro i1 i2 S h
    rw [zf_X17_sort_L27] at h
    refine zw_iload_n hX dX17_sort_27 rfl ?_
    refine zw_if_eq (tgt := 112) hX dX17_sort_28 (by decide) (fun c28 => ?_) (fun c28 => ?_)
    · rw [if_pos c28] at h
      refine zw_sub (lv' := [(0, .ref a0), (1, .int i1)]) (List.forall_mem_cons.mpr ⟨rfl, (List.forall_mem_cons.mpr ⟨rfl, zs_nil⟩)⟩) ?_
      exact hk _ _ (Option.some.inj h).symm
    · rw [if_neg c28] at h
      refine zw_iconst (v := (-1 : Int32)) hX dX17_sort_31 (by decide) ?_
      refine zw_istore_n hX dX17_sort_32 (by decide) ?_
      refine zw_aload_n hX dX17_sort_33 rfl ?_
      obtain ⟨v5, g, h⟩ := zb_some h
      refine zw_geti hX zl_X17_63 dX17_sort_34 g ?_
      refine zw_iconst (v := (1 : Int32)) hX dX17_sort_37 (by decide) ?_
      refine zw_isub hX dX17_sort_38 ?_
      refine zw_istore hX dX17_sort_39 (by decide) ?_
      obtain ⟨r, g, h⟩ := zb_some h
      refine zw_sub (lv' := [(0, .ref a0), (1, .int i1), (3, .int (-1 : Int32)), (4, .int (v5 - (1 : Int32)))]) (List.forall_mem_cons.mpr ⟨rfl, (List.forall_mem_cons.mpr ⟨rfl, (List.forall_mem_cons.mpr ⟨rfl, (List.forall_mem_cons.mpr ⟨rfl, zs_nil⟩)⟩)⟩)⟩) ?_
      refine zt_X17_sort_L41 hX hr hR hd (res := r) (out := out) a0 i1 ?_ ?_ N _ _ _ g
      · intro o ho
        subst ho
        exact hf _ (Option.some.inj h).symm
      · intro v11 S10 hx
        subst hx
        try dsimp only at h
        refine zw_iload_n hX dX17_sort_78 rfl ?_
        refine zw_if_lt (tgt := 86) hX dX17_sort_79 (by decide) (fun c79 => ?_) (fun c79 => ?_)
        · rw [if_pos c79] at h
          refine zw_iconst (v := (0 : Int32)) hX dX17_sort_86 (by decide) ?_
          refine zw_sub (lv' := [(0, .ref a0), (1, .int i1), (3, .int v11)]) (List.forall_mem_cons.mpr ⟨rfl, (List.forall_mem_cons.mpr ⟨rfl, (List.forall_mem_cons.mpr ⟨rfl, zs_nil⟩)⟩)⟩) ?_
          exact zt_X17_sort_J87 hX hr hR hd hf hk ih h
        · rw [if_neg c79] at h
          refine zw_iconst (v := (1 : Int32)) hX dX17_sort_82 (by decide) ?_
          refine zw_goto (tgt := 87) hX dX17_sort_83 (by decide) ?_
          refine zw_sub (lv' := [(0, .ref a0), (1, .int i1), (3, .int v11)]) (List.forall_mem_cons.mpr ⟨rfl, (List.forall_mem_cons.mpr ⟨rfl, (List.forall_mem_cons.mpr ⟨rfl, zs_nil⟩)⟩)⟩) ?_
          exact zt_X17_sort_J87 hX hr hR hd hf hk ih h
set_option maxHeartbeats 4000000 in
set_option maxRecDepth 100000 in
theorem zt_X17_sort_L117 {p : Program} {l : Launch} {e : Env} {R : Room} {s : State} {m : MethodId} {args : Array Value} {below : List Frame} {meth : Method} {c : Code} {V : zm_V} {mc ms d rc rs : Nat} (hX : zm_X p R s m args meth c RX17 "sort" cX17_sort 5 zk_E V mc ms) (hr : meth.sig.returnType = (some .int)) (hR : R.frames = d ∧ R.locals = 64 * d) (hd : 3 ≤ d) {N : Nat} {res : (Int32 × zm_S) ⊕ ((Unit) × zm_S)} {out : (Int32 × zm_S)} (a0 : Nat) (i1 : Int32) (hf : ∀ o, res = .inl o → o = out) (hk : ∀ (S' : zm_S), res = .inr ((), S') → zw p l e R s m args below meth c (vx_MQ below (zm_Qc zk_E V (zo_i out)) (zm_XC zk_E V zo_x) args s mc ms (fun q => V.2.2.2.1 ≤ q)) 5 zk_E V mc ms 153 [(1, .int i1)] [] S' rc rs) : ∀ (n : Nat) (i3 : Int32) (i4 : Int32) (S : zm_S), zf_X17_sort_L117 N n a0 i1 i3 i4 S = some res → zw p l e R s m args below meth c (vx_MQ below (zm_Qc zk_E V (zo_i out)) (zm_XC zk_E V zo_x) args s mc ms (fun q => V.2.2.2.1 ≤ q)) 5 zk_E V mc ms 117 [(0, .ref a0), (1, .int i1), (3, .int i3), (4, .int i4)] [] S rc rs := by
  intro n
  induction n with
  | zero => intro i3 i4 S h; cases h
  | succ n ih =>
    intro i3 i4 S h
    rw [zf_X17_sort_L117] at h
    refine zw_iload hX dX17_sort_117 rfl ?_
    refine zw_aload_n hX dX17_sort_119 rfl ?_
    obtain ⟨v18, g, h⟩ := zb_some h
    refine zw_geti hX zl_X17_63 dX17_sort_120 g ?_
    refine zw_icmp_ge (tgt := 153) hX dX17_sort_123 (by decide) (fun c123 => ?_) (fun c123 => ?_)
    · rw [if_pos c123] at h
      refine zw_sub (lv' := [(1, .int i1)]) (List.forall_mem_cons.mpr ⟨rfl, zs_nil⟩) ?_
      exact hk  _ (Option.some.inj h).symm
    · rw [if_neg c123] at h
      refine zw_aload_n hX dX17_sort_126 rfl ?_
      obtain ⟨b19, g, h⟩ := zb_some h
      refine zw_getr hX zl_X17_53 dX17_sort_127 g ?_
      refine zw_iload hX dX17_sort_130 rfl ?_
      obtain ⟨v20, g, h⟩ := zb_some h
      refine zw_xz hX dX17_sort_132 g ?_
      refine zw_if_ne (tgt := 147) hX dX17_sort_133 (by decide) (fun c133 => ?_) (fun c133 => ?_)
      · rw [if_neg c133] at h
        refine zw_iinc (v := (i4 + (1 : Int32))) hX dX17_sort_147 rfl rfl (by decide) ?_
        refine zw_goto (tgt := 117) hX dX17_sort_150 (by decide) ?_
        refine zw_sub (lv' := [(0, .ref a0), (1, .int i1), (3, .int i3), (4, .int (i4 + (1 : Int32)))]) (List.forall_mem_cons.mpr ⟨rfl, (List.forall_mem_cons.mpr ⟨rfl, (List.forall_mem_cons.mpr ⟨rfl, (List.forall_mem_cons.mpr ⟨rfl, zs_nil⟩)⟩)⟩)⟩) ?_
        exact ih _ _ _ h
      · rw [if_pos c133] at h
        refine zw_aload_n hX dX17_sort_136 rfl ?_
        obtain ⟨b21, g, h⟩ := zb_some h
        refine zw_getr hX zl_X17_50 dX17_sort_137 g ?_
        refine zw_iload_n hX dX17_sort_140 rfl ?_
        refine zw_iload hX dX17_sort_141 rfl ?_
        obtain ⟨S22, g, h⟩ := zb_some h
        refine zw_si hX dX17_sort_143 g ?_
        refine zw_iinc (v := (i3 + (1 : Int32))) hX dX17_sort_144 rfl rfl (by decide) ?_
        refine zw_iinc (v := (i4 + (1 : Int32))) hX dX17_sort_147 rfl rfl (by decide) ?_
        refine zw_goto (tgt := 117) hX dX17_sort_150 (by decide) ?_
        refine zw_sub (lv' := [(0, .ref a0), (1, .int i1), (3, .int (i3 + (1 : Int32))), (4, .int (i4 + (1 : Int32)))]) (List.forall_mem_cons.mpr ⟨rfl, (List.forall_mem_cons.mpr ⟨rfl, (List.forall_mem_cons.mpr ⟨rfl, (List.forall_mem_cons.mpr ⟨rfl, zs_nil⟩)⟩)⟩)⟩) ?_
        exact ih _ _ _ h
set_option maxHeartbeats 4000000 in
set_option maxRecDepth 100000 in
theorem zt_X17_sort {l : Launch} {V : zm_V} {N : Nat} {S : zm_S} {out : (Int32 × zm_S)} {d : Nat} {a0 : Nat} (hd : 3 ≤ d) (h : zf_X17_sort N a0 S = some out) : zm_Met l zk_E V yX17_sort (.code yX17_sort cX17_sort 5 (some .int)) d [.ref a0] S 0 0 (zo_i out) zo_x := by
  refine zm_of (by decide +kernel) (Nat.le_of_ble_eq_true rfl) ?_
  intro p e R s m args below meth c hRR hX hr hxt
  have hR : R.frames = d ∧ R.locals = 64 * d := by rw [hRR]; exact ⟨rfl, rfl⟩
  have hX : zm_X p R s m args meth c RX17 "sort" cX17_sort 5 zk_E V 0 0 := hX
  unfold zf_X17_sort at h
  refine zw_sub (lv' := [(0, .ref a0)]) (List.forall_mem_cons.mpr ⟨rfl, zs_nil⟩) ?_
  refine zw_iconst (v := (0 : Int32)) hX dX17_sort_0 (by decide) ?_
  refine zw_istore_n hX dX17_sort_1 (by decide) ?_
  obtain ⟨r, g, h⟩ := zb_some h
  refine zw_sub (lv' := [(0, .ref a0), (1, .int (0 : Int32))]) (List.forall_mem_cons.mpr ⟨rfl, (List.forall_mem_cons.mpr ⟨rfl, zs_nil⟩)⟩) ?_
  refine zt_X17_sort_L2 hX hr hR hd (res := r) (out := out) a0 ?_ ?_ N _ _ g
  · intro o ho
    subst ho
    exact Option.some.inj h
  · intro  S4 hx
    subst hx
    try dsimp only at h
    refine zw_iconst (v := (0 : Int32)) hX dX17_sort_23 (by decide) ?_
    refine zw_istore_n hX dX17_sort_24 (by decide) ?_
    refine zw_iconst (v := (1 : Int32)) hX dX17_sort_25 (by decide) ?_
    refine zw_istore_n hX dX17_sort_26 (by decide) ?_
    obtain ⟨r, g, h⟩ := zb_some h
    refine zw_sub (lv' := [(0, .ref a0), (1, .int (0 : Int32)), (2, .int (1 : Int32))]) (List.forall_mem_cons.mpr ⟨rfl, (List.forall_mem_cons.mpr ⟨rfl, (List.forall_mem_cons.mpr ⟨rfl, zs_nil⟩)⟩)⟩) ?_
    refine zt_X17_sort_L27 hX hr hR hd (res := r) (out := out) a0 ?_ ?_ N _ _ _ g
    · intro o ho
      subst ho
      exact Option.some.inj h
    · intro v17 S16 hx
      subst hx
      try dsimp only at h
      refine zw_iload_n hX dX17_sort_112 rfl ?_
      refine zw_istore_n hX dX17_sort_113 (by decide) ?_
      refine zw_iconst (v := (0 : Int32)) hX dX17_sort_114 (by decide) ?_
      refine zw_istore hX dX17_sort_115 (by decide) ?_
      obtain ⟨r, g, h⟩ := zb_some h
      refine zw_sub (lv' := [(0, .ref a0), (1, .int v17), (3, .int v17), (4, .int (0 : Int32))]) (List.forall_mem_cons.mpr ⟨rfl, (List.forall_mem_cons.mpr ⟨rfl, (List.forall_mem_cons.mpr ⟨rfl, (List.forall_mem_cons.mpr ⟨rfl, zs_nil⟩)⟩)⟩)⟩) ?_
      refine zt_X17_sort_L117 hX hr hR hd (res := r) (out := out) a0 v17 ?_ ?_ N _ _ _ g
      · intro o ho
        subst ho
        exact Option.some.inj h
      · intro  S23 hx
        subst hx
        try dsimp only at h
        refine zw_iload_n hX dX17_sort_153 rfl ?_
        obtain rfl := Option.some.inj h
        exact zw_iret hX hr dX17_sort_154 rfl ⟨rfl, rfl⟩
set_option maxHeartbeats 4000000 in
set_option maxRecDepth 100000 in
theorem zt_X17_place_L7 {p : Program} {l : Launch} {e : Env} {R : Room} {s : State} {m : MethodId} {args : Array Value} {below : List Frame} {meth : Method} {c : Code} {V : zm_V} {mc ms d rc rs : Nat} (hX : zm_X p R s m args meth c RX17 "place" cX17_place 4 zk_E V mc ms) (hr : meth.sig.returnType = (some .int)) (hR : R.frames = d ∧ R.locals = 64 * d) (hd : 4 ≤ d) {N : Nat} {res : (Int32 × zm_S) ⊕ ((Int32) × zm_S)} {out : (Int32 × zm_S)} (a0 : Nat) (i1 : Int32) (hf : ∀ o, res = .inl o → o = out) (hk : ∀ (x3 : Int32) (S' : zm_S), res = .inr (x3, S') → zw p l e R s m args below meth c (vx_MQ below (zm_Qc zk_E V (zo_i out)) (zm_XC zk_E V zo_x) args s mc ms (fun q => V.2.2.2.1 ≤ q)) 4 zk_E V mc ms 23 [(3, .int x3)] [] S' rc rs) : ∀ (n : Nat) (i3 : Int32) (S : zm_S), zf_X17_place_L7 N n a0 i1 i3 S = some res → zw p l e R s m args below meth c (vx_MQ below (zm_Qc zk_E V (zo_i out)) (zm_XC zk_E V zo_x) args s mc ms (fun q => V.2.2.2.1 ≤ q)) 4 zk_E V mc ms 7 [(0, .ref a0), (1, .int i1), (3, .int i3)] [] S rc rs := by
  intro n
  induction n with
  | zero => intro i3 S h; cases h
  | succ n ih =>
    intro i3 S h
    rw [zf_X17_place_L7] at h
    refine zw_aload_n hX dX17_place_7 rfl ?_
    obtain ⟨b3, g, h⟩ := zb_some h
    refine zw_getr hX zl_X17_50 dX17_place_8 g ?_
    refine zw_iload_n hX dX17_place_11 rfl ?_
    obtain ⟨v4, g, h⟩ := zb_some h
    refine zw_xi hX dX17_place_12 g ?_
    refine zw_iload_n hX dX17_place_13 rfl ?_
    refine zw_icmp_eq (tgt := 23) hX dX17_place_14 (by decide) (fun c14 => ?_) (fun c14 => ?_)
    · rw [if_pos c14] at h
      refine zw_sub (lv' := [(3, .int i3)]) (List.forall_mem_cons.mpr ⟨rfl, zs_nil⟩) ?_
      exact hk _ _ (Option.some.inj h).symm
    · rw [if_neg c14] at h
      refine zw_iinc (v := (i3 + (1 : Int32))) hX dX17_place_17 rfl rfl (by decide) ?_
      refine zw_goto (tgt := 7) hX dX17_place_20 (by decide) ?_
      refine zw_sub (lv' := [(0, .ref a0), (1, .int i1), (3, .int (i3 + (1 : Int32)))]) (List.forall_mem_cons.mpr ⟨rfl, (List.forall_mem_cons.mpr ⟨rfl, (List.forall_mem_cons.mpr ⟨rfl, zs_nil⟩)⟩)⟩) ?_
      exact ih _ _ h
set_option maxHeartbeats 4000000 in
set_option maxRecDepth 100000 in
theorem zt_X17_place {l : Launch} {V : zm_V} {N : Nat} {S : zm_S} {out : (Int32 × zm_S)} {d : Nat} {a0 : Nat} {i1 : Int32} (hd : 4 ≤ d) (h : zf_X17_place N a0 i1 S = some out) : zm_Met l zk_E V yX17_place (.code yX17_place cX17_place 4 (some .int)) d [.ref a0, .int i1] S 0 0 (zo_i out) zo_x := by
  refine zm_of (by decide +kernel) (Nat.le_of_ble_eq_true rfl) ?_
  intro p e R s m args below meth c hRR hX hr hxt
  have hR : R.frames = d ∧ R.locals = 64 * d := by rw [hRR]; exact ⟨rfl, rfl⟩
  have hX : zm_X p R s m args meth c RX17 "place" cX17_place 4 zk_E V 0 0 := hX
  unfold zf_X17_place at h
  refine zw_sub (lv' := [(0, .ref a0), (1, .int i1)]) (List.forall_mem_cons.mpr ⟨rfl, (List.forall_mem_cons.mpr ⟨rfl, zs_nil⟩)⟩) ?_
  refine zw_aload_n hX dX17_place_0 rfl ?_
  obtain ⟨_, gi, h⟩ := zb_some h
  obtain ⟨r2, g, h⟩ := zb_some h
  refine zc_Vi (as := []) hX gi (zt_X17_sort (d := d - 1) (by omega) g) zl_X17_71 rfl dX17_place_1 ⟨rfl, rfl, Nat.le_of_ble_eq_true rfl⟩ ⟨by omega, by omega⟩ ?_
  refine zw_istore_n hX dX17_place_4 (by decide) ?_
  refine zw_iconst (v := (0 : Int32)) hX dX17_place_5 (by decide) ?_
  refine zw_istore_n hX dX17_place_6 (by decide) ?_
  obtain ⟨r, g, h⟩ := zb_some h
  refine zw_sub (lv' := [(0, .ref a0), (1, .int i1), (3, .int (0 : Int32))]) (List.forall_mem_cons.mpr ⟨rfl, (List.forall_mem_cons.mpr ⟨rfl, (List.forall_mem_cons.mpr ⟨rfl, zs_nil⟩)⟩)⟩) ?_
  refine zt_X17_place_L7 hX hr hR hd (res := r) (out := out) a0 i1 ?_ ?_ N _ _ g
  · intro o ho
    subst ho
    exact Option.some.inj h
  · intro v6 S5 hx
    subst hx
    try dsimp only at h
    refine zw_iload_n hX dX17_place_23 rfl ?_
    obtain rfl := Option.some.inj h
    exact zw_iret hX hr dX17_place_24 rfl ⟨rfl, rfl⟩
set_option maxHeartbeats 4000000 in
set_option maxRecDepth 100000 in
theorem zt_X17_block_L12 {p : Program} {l : Launch} {e : Env} {R : Room} {s : State} {m : MethodId} {args : Array Value} {below : List Frame} {meth : Method} {c : Code} {V : zm_V} {mc ms d rc rs : Nat} (hX : zm_X p R s m args meth c RX17 "block" cX17_block 3 zk_E V mc ms) (hr : meth.sig.returnType = (some .int)) (hR : R.frames = d ∧ R.locals = 64 * d) (hd : 1 ≤ d) {N : Nat} {res : (Int32 × zm_S) ⊕ ((Unit) × zm_S)} {out : (Int32 × zm_S)} (a0 : Nat) (hf : ∀ o, res = .inl o → o = out) (hk : ∀ (S' : zm_S), res = .inr ((), S') → zw p l e R s m args below meth c (vx_MQ below (zm_Qc zk_E V (zo_i out)) (zm_XC zk_E V zo_x) args s mc ms (fun q => V.2.2.2.1 ≤ q)) 3 zk_E V mc ms 37 [(0, .ref a0)] [] S' rc rs) : ∀ (n : Nat) (i2 : Int32) (S : zm_S), zf_X17_block_L12 N n a0 i2 S = some res → zw p l e R s m args below meth c (vx_MQ below (zm_Qc zk_E V (zo_i out)) (zm_XC zk_E V zo_x) args s mc ms (fun q => V.2.2.2.1 ≤ q)) 3 zk_E V mc ms 12 [(0, .ref a0), (2, .int i2)] [] S rc rs := by
  intro n
  induction n with
  | zero => intro i2 S h; cases h
  | succ n ih =>
    intro i2 S h
    rw [zf_X17_block_L12] at h
    refine zw_iload_n hX dX17_block_12 rfl ?_
    refine zw_iconst (v := (3 : Int32)) hX dX17_block_13 (by decide) ?_
    refine zw_icmp_ge (tgt := 37) hX dX17_block_14 (by decide) (fun c14 => ?_) (fun c14 => ?_)
    · rw [if_pos c14] at h
      refine zw_sub (lv' := [(0, .ref a0)]) (List.forall_mem_cons.mpr ⟨rfl, zs_nil⟩) ?_
      exact hk  _ (Option.some.inj h).symm
    · rw [if_neg c14] at h
      refine zw_aload_n hX dX17_block_17 rfl ?_
      obtain ⟨b4, g, h⟩ := zb_some h
      refine zw_getr hX zl_X17_22 dX17_block_18 g ?_
      refine zw_iconst (v := (3 : Int32)) hX dX17_block_21 (by decide) ?_
      refine zw_aload_n hX dX17_block_22 rfl ?_
      obtain ⟨v5, g, h⟩ := zb_some h
      refine zw_geti hX zl_X17_63 dX17_block_23 g ?_
      refine zw_imul hX dX17_block_26 ?_
      refine zw_iload_n hX dX17_block_27 rfl ?_
      refine zw_iadd hX dX17_block_28 ?_
      refine zw_iconst (v := (-1 : Int32)) hX dX17_block_29 (by decide) ?_
      obtain ⟨S6, g, h⟩ := zb_some h
      refine zw_si hX dX17_block_30 g ?_
      refine zw_iinc (v := (i2 + (1 : Int32))) hX dX17_block_31 rfl rfl (by decide) ?_
      refine zw_goto (tgt := 12) hX dX17_block_34 (by decide) ?_
      refine zw_sub (lv' := [(0, .ref a0), (2, .int (i2 + (1 : Int32)))]) (List.forall_mem_cons.mpr ⟨rfl, (List.forall_mem_cons.mpr ⟨rfl, zs_nil⟩)⟩) ?_
      exact ih _ _ h
set_option maxHeartbeats 4000000 in
set_option maxRecDepth 100000 in
theorem zt_X17_block {l : Launch} {V : zm_V} {N : Nat} {S : zm_S} {out : (Int32 × zm_S)} {d : Nat} {a0 : Nat} {i1 : Int32} (hd : 1 ≤ d) (h : zf_X17_block N a0 i1 S = some out) : zm_Met l zk_E V yX17_block (.code yX17_block cX17_block 3 (some .int)) d [.ref a0, .int i1] S 0 0 (zo_i out) zo_x := by
  refine zm_of (by decide +kernel) (Nat.le_of_ble_eq_true rfl) ?_
  intro p e R s m args below meth c hRR hX hr hxt
  have hR : R.frames = d ∧ R.locals = 64 * d := by rw [hRR]; exact ⟨rfl, rfl⟩
  have hX : zm_X p R s m args meth c RX17 "block" cX17_block 3 zk_E V 0 0 := hX
  unfold zf_X17_block at h
  refine zw_sub (lv' := [(0, .ref a0), (1, .int i1)]) (List.forall_mem_cons.mpr ⟨rfl, (List.forall_mem_cons.mpr ⟨rfl, zs_nil⟩)⟩) ?_
  refine zw_aload_n hX dX17_block_0 rfl ?_
  obtain ⟨b1, g, h⟩ := zb_some h
  refine zw_getr hX zl_X17_7 dX17_block_1 g ?_
  refine zw_aload_n hX dX17_block_4 rfl ?_
  obtain ⟨v2, g, h⟩ := zb_some h
  refine zw_geti hX zl_X17_63 dX17_block_5 g ?_
  refine zw_iload_n hX dX17_block_8 rfl ?_
  obtain ⟨S3, g, h⟩ := zb_some h
  refine zw_si hX dX17_block_9 g ?_
  refine zw_iconst (v := (0 : Int32)) hX dX17_block_10 (by decide) ?_
  refine zw_istore_n hX dX17_block_11 (by decide) ?_
  obtain ⟨r, g, h⟩ := zb_some h
  refine zw_sub (lv' := [(0, .ref a0), (2, .int (0 : Int32))]) (List.forall_mem_cons.mpr ⟨rfl, (List.forall_mem_cons.mpr ⟨rfl, zs_nil⟩)⟩) ?_
  refine zt_X17_block_L12 hX hr hR hd (res := r) (out := out) a0 ?_ ?_ N _ _ g
  · intro o ho
    subst ho
    exact Option.some.inj h
  · intro  S7 hx
    subst hx
    try dsimp only at h
    refine zw_aload_n hX dX17_block_37 rfl ?_
    refine zw_dup hX dX17_block_38 rfl ?_
    obtain ⟨v8, g, h⟩ := zb_some h
    refine zw_geti hX zl_X17_63 dX17_block_39 g ?_
    refine zw_iconst (v := (1 : Int32)) hX dX17_block_42 (by decide) ?_
    refine zw_iadd hX dX17_block_43 ?_
    obtain ⟨S9, g, h⟩ := zb_some h
    refine zw_putv hX zl_X17_63 zt_17_0 dX17_block_44 rfl rfl g ?_
    refine zw_aload_n hX dX17_block_47 rfl ?_
    obtain ⟨v10, g, h⟩ := zb_some h
    refine zw_geti hX zl_X17_63 dX17_block_48 g ?_
    refine zw_iconst (v := (1 : Int32)) hX dX17_block_51 (by decide) ?_
    refine zw_isub hX dX17_block_52 ?_
    obtain rfl := Option.some.inj h
    exact zw_iret hX hr dX17_block_53 rfl ⟨rfl, rfl⟩
set_option maxHeartbeats 4000000 in
set_option maxRecDepth 100000 in
theorem zt_X17_in {l : Launch} {V : zm_V} {N : Nat} {S : zm_S} {out : (Int32 × zm_S)} {d : Nat} {a0 : Nat} {i1 : Int32} {i2 : Int32} (hd : 1 ≤ d) (h : zf_X17_in N a0 i1 i2 S = some out) : zm_Met l zk_E V yX17_in (.code yX17_in cX17_in 3 (some .int)) d [.ref a0, .int i1, .int i2] S 0 0 (zo_i out) zo_x := by
  refine zm_of (by decide +kernel) (Nat.le_of_ble_eq_true rfl) ?_
  intro p e R s m args below meth c hRR hX hr hxt
  have hR : R.frames = d ∧ R.locals = 64 * d := by rw [hRR]; exact ⟨rfl, rfl⟩
  have hX : zm_X p R s m args meth c RX17 "in" cX17_in 3 zk_E V 0 0 := hX
  unfold zf_X17_in at h
  refine zw_sub (lv' := [(0, .ref a0), (1, .int i1), (2, .int i2)]) (List.forall_mem_cons.mpr ⟨rfl, (List.forall_mem_cons.mpr ⟨rfl, (List.forall_mem_cons.mpr ⟨rfl, zs_nil⟩)⟩)⟩) ?_
  refine zw_aload_n hX dX17_in_0 rfl ?_
  obtain ⟨b1, g, h⟩ := zb_some h
  refine zw_getr hX zl_X17_28 dX17_in_1 g ?_
  refine zw_aload_n hX dX17_in_4 rfl ?_
  obtain ⟨b2, g, h⟩ := zb_some h
  refine zw_getr hX zl_X17_22 dX17_in_5 g ?_
  refine zw_iconst (v := (3 : Int32)) hX dX17_in_8 (by decide) ?_
  refine zw_iload_n hX dX17_in_9 rfl ?_
  refine zw_imul hX dX17_in_10 ?_
  refine zw_iload_n hX dX17_in_11 rfl ?_
  refine zw_iadd hX dX17_in_12 ?_
  obtain ⟨v3, g, h⟩ := zb_some h
  refine zw_xi hX dX17_in_13 g ?_
  obtain ⟨v4, g, h⟩ := zb_some h
  refine zw_xi hX dX17_in_14 g ?_
  obtain rfl := Option.some.inj h
  exact zw_iret hX hr dX17_in_15 rfl ⟨rfl, rfl⟩
set_option maxHeartbeats 4000000 in
set_option maxRecDepth 100000 in
theorem zt_X17_failure_L9 {p : Program} {l : Launch} {e : Env} {R : Room} {s : State} {m : MethodId} {args : Array Value} {below : List Frame} {meth : Method} {c : Code} {V : zm_V} {mc ms d rc rs : Nat} (hX : zm_X p R s m args meth c RX17 "failure" cX17_failure 4 zk_E V mc ms) (hr : meth.sig.returnType = (some .int)) (hR : R.frames = d ∧ R.locals = 64 * d) (hd : 2 ≤ d) {N : Nat} {res : (Int32 × zm_S) ⊕ ((Unit) × zm_S)} {out : (Int32 × zm_S)} (a0 : Nat) (i1 : Int32) (i2 : Int32) (hf : ∀ o, res = .inl o → o = out) (hk : ∀ (S' : zm_S), res = .inr ((), S') → zw p l e R s m args below meth c (vx_MQ below (zm_Qc zk_E V (zo_i out)) (zm_XC zk_E V zo_x) args s mc ms (fun q => V.2.2.2.1 ≤ q)) 4 zk_E V mc ms 44 [(0, .ref a0), (1, .int i1), (2, .int i2)] [] S' rc rs) : ∀ (n : Nat) (i3 : Int32) (S : zm_S), zf_X17_failure_L9 N n a0 i1 i2 i3 S = some res → zw p l e R s m args below meth c (vx_MQ below (zm_Qc zk_E V (zo_i out)) (zm_XC zk_E V zo_x) args s mc ms (fun q => V.2.2.2.1 ≤ q)) 4 zk_E V mc ms 9 [(0, .ref a0), (1, .int i1), (2, .int i2), (3, .int i3)] [] S rc rs := by
  intro n
  induction n with
  | zero => intro i3 S h; cases h
  | succ n ih =>
    intro i3 S h
    rw [zf_X17_failure_L9] at h
    refine zw_iload_n hX dX17_failure_9 rfl ?_
    refine zw_iload_n hX dX17_failure_10 rfl ?_
    obtain ⟨r4, g, h⟩ := zb_some h
    refine zc_Si (as := [.int i2]) hX (zt_X17_inputs (d := d - 1) (by omega) g) zl_X17_59 dX17_failure_11 ⟨rfl, rfl, Nat.le_of_ble_eq_true rfl⟩ ⟨by omega, by omega⟩ ?_
    refine zw_icmp_ge (tgt := 44) hX dX17_failure_14 (by decide) (fun c14 => ?_) (fun c14 => ?_)
    · rw [if_pos c14] at h
      refine zw_sub (lv' := [(0, .ref a0), (1, .int i1), (2, .int i2)]) (List.forall_mem_cons.mpr ⟨rfl, (List.forall_mem_cons.mpr ⟨rfl, (List.forall_mem_cons.mpr ⟨rfl, zs_nil⟩)⟩)⟩) ?_
      exact hk  _ (Option.some.inj h).symm
    · rw [if_neg c14] at h
      refine zw_iload_n hX dX17_failure_17 rfl ?_
      refine zw_bipush (v := (16 : Int32)) hX dX17_failure_18 (by decide) ?_
      refine zw_icmp_eq (tgt := 44) hX dX17_failure_20 (by decide) (fun c20 => ?_) (fun c20 => ?_)
      · rw [if_pos c20] at h
        refine zw_sub (lv' := [(0, .ref a0), (1, .int i1), (2, .int i2)]) (List.forall_mem_cons.mpr ⟨rfl, (List.forall_mem_cons.mpr ⟨rfl, (List.forall_mem_cons.mpr ⟨rfl, zs_nil⟩)⟩)⟩) ?_
        exact hk  _ (Option.some.inj h).symm
      · rw [if_neg c20] at h
        refine zw_aload_n hX dX17_failure_23 rfl ?_
        obtain ⟨b5, g, h⟩ := zb_some h
        refine zw_getr hX zl_X17_22 dX17_failure_24 g ?_
        refine zw_iconst (v := (3 : Int32)) hX dX17_failure_27 (by decide) ?_
        refine zw_iload_n hX dX17_failure_28 rfl ?_
        refine zw_imul hX dX17_failure_29 ?_
        refine zw_iload_n hX dX17_failure_30 rfl ?_
        refine zw_iadd hX dX17_failure_31 ?_
        obtain ⟨v6, g, h⟩ := zb_some h
        refine zw_xi hX dX17_failure_32 g ?_
        refine zw_if_ge (tgt := 38) hX dX17_failure_33 (by decide) (fun c33 => ?_) (fun c33 => ?_)
        · rw [if_pos c33] at h
          refine zw_iinc (v := (i3 + (1 : Int32))) hX dX17_failure_38 rfl rfl (by decide) ?_
          refine zw_goto (tgt := 9) hX dX17_failure_41 (by decide) ?_
          refine zw_sub (lv' := [(0, .ref a0), (1, .int i1), (2, .int i2), (3, .int (i3 + (1 : Int32)))]) (List.forall_mem_cons.mpr ⟨rfl, (List.forall_mem_cons.mpr ⟨rfl, (List.forall_mem_cons.mpr ⟨rfl, (List.forall_mem_cons.mpr ⟨rfl, zs_nil⟩)⟩)⟩)⟩) ?_
          exact ih _ _ h
        · rw [if_neg c33] at h
          refine zw_iconst (v := (3 : Int32)) hX dX17_failure_36 (by decide) ?_
          have hz := hf _ (Option.some.inj h).symm
          subst hz
          exact zw_iret hX hr dX17_failure_37 rfl ⟨rfl, rfl⟩
set_option maxHeartbeats 4000000 in
set_option maxRecDepth 100000 in
theorem zt_X17_failure_J121 {p : Program} {l : Launch} {e : Env} {R : Room} {s : State} {m : MethodId} {args : Array Value} {below : List Frame} {meth : Method} {c : Code} {V : zm_V} {mc ms d rc rs : Nat} (hX : zm_X p R s m args meth c RX17 "failure" cX17_failure 4 zk_E V mc ms) (hr : meth.sig.returnType = (some .int)) (hR : R.frames = d ∧ R.locals = 64 * d) (hd : 2 ≤ d) {N : Nat} {t0 : Int32} {out : (Int32 × zm_S)} {S : zm_S} (h : zf_X17_failure_J121 N t0 S = some out) : zw p l e R s m args below meth c (vx_MQ below (zm_Qc zk_E V (zo_i out)) (zm_XC zk_E V zo_x) args s mc ms (fun q => V.2.2.2.1 ≤ q)) 4 zk_E V mc ms 121 [] [.int t0] S rc rs := by
  unfold zf_X17_failure_J121 at h
  refine zw_istore_n hX dX17_failure_121 (by decide) ?_
  refine zw_iload_n hX dX17_failure_122 rfl ?_
  refine zw_if_eq (tgt := 130) hX dX17_failure_123 (by decide) (fun c123 => ?_) (fun c123 => ?_)
  · rw [if_pos c123] at h
    refine zw_iconst (v := (0 : Int32)) hX dX17_failure_130 (by decide) ?_
    obtain rfl := Option.some.inj h
    exact zw_iret hX hr dX17_failure_131 rfl ⟨rfl, rfl⟩
  · rw [if_neg c123] at h
    refine zw_iconst (v := (2 : Int32)) hX dX17_failure_126 (by decide) ?_
    refine zw_goto (tgt := 131) hX dX17_failure_127 (by decide) ?_
    obtain rfl := Option.some.inj h
    exact zw_iret hX hr dX17_failure_131 rfl ⟨rfl, rfl⟩
set_option maxHeartbeats 4000000 in
set_option maxRecDepth 100000 in
theorem zt_X17_failure_J120 {p : Program} {l : Launch} {e : Env} {R : Room} {s : State} {m : MethodId} {args : Array Value} {below : List Frame} {meth : Method} {c : Code} {V : zm_V} {mc ms d rc rs : Nat} (hX : zm_X p R s m args meth c RX17 "failure" cX17_failure 4 zk_E V mc ms) (hr : meth.sig.returnType = (some .int)) (hR : R.frames = d ∧ R.locals = 64 * d) (hd : 2 ≤ d) {N : Nat}  {out : (Int32 × zm_S)} {S : zm_S} (h : zf_X17_failure_J120 N  S = some out) : zw p l e R s m args below meth c (vx_MQ below (zm_Qc zk_E V (zo_i out)) (zm_XC zk_E V zo_x) args s mc ms (fun q => V.2.2.2.1 ≤ q)) 4 zk_E V mc ms 120 [] [] S rc rs := by
  unfold zf_X17_failure_J120 at h
  refine zw_iconst (v := (0 : Int32)) hX dX17_failure_120 (by decide) ?_
  refine zw_sub (lv' := []) zs_nil ?_
  exact zt_X17_failure_J121 hX hr hR hd h
set_option maxHeartbeats 4000000 in
set_option maxRecDepth 100000 in
theorem zt_X17_failure_J116 {p : Program} {l : Launch} {e : Env} {R : Room} {s : State} {m : MethodId} {args : Array Value} {below : List Frame} {meth : Method} {c : Code} {V : zm_V} {mc ms d rc rs : Nat} (hX : zm_X p R s m args meth c RX17 "failure" cX17_failure 4 zk_E V mc ms) (hr : meth.sig.returnType = (some .int)) (hR : R.frames = d ∧ R.locals = 64 * d) (hd : 2 ≤ d) {N : Nat}  {out : (Int32 × zm_S)} {S : zm_S} (h : zf_X17_failure_J116 N  S = some out) : zw p l e R s m args below meth c (vx_MQ below (zm_Qc zk_E V (zo_i out)) (zm_XC zk_E V zo_x) args s mc ms (fun q => V.2.2.2.1 ≤ q)) 4 zk_E V mc ms 116 [] [] S rc rs := by
  unfold zf_X17_failure_J116 at h
  refine zw_iconst (v := (1 : Int32)) hX dX17_failure_116 (by decide) ?_
  refine zw_goto (tgt := 121) hX dX17_failure_117 (by decide) ?_
  refine zw_sub (lv' := []) zs_nil ?_
  exact zt_X17_failure_J121 hX hr hR hd h
set_option maxHeartbeats 4000000 in
set_option maxRecDepth 100000 in
theorem zt_X17_failure_J90 {p : Program} {l : Launch} {e : Env} {R : Room} {s : State} {m : MethodId} {args : Array Value} {below : List Frame} {meth : Method} {c : Code} {V : zm_V} {mc ms d rc rs : Nat} (hX : zm_X p R s m args meth c RX17 "failure" cX17_failure 4 zk_E V mc ms) (hr : meth.sig.returnType = (some .int)) (hR : R.frames = d ∧ R.locals = 64 * d) (hd : 2 ≤ d) {N : Nat} {a0 : Nat} {i1 : Int32} {i2 : Int32} {out : (Int32 × zm_S)} {S : zm_S} (h : zf_X17_failure_J90 N a0 i1 i2 S = some out) : zw p l e R s m args below meth c (vx_MQ below (zm_Qc zk_E V (zo_i out)) (zm_XC zk_E V zo_x) args s mc ms (fun q => V.2.2.2.1 ≤ q)) 4 zk_E V mc ms 90 [(0, .ref a0), (1, .int i1), (2, .int i2)] [] S rc rs := by
  unfold zf_X17_failure_J90 at h
  refine zw_iload_n hX dX17_failure_90 rfl ?_
  refine zw_bipush (v := (15 : Int32)) hX dX17_failure_91 (by decide) ?_
  refine zw_icmp_ne (tgt := 120) hX dX17_failure_93 (by decide) (fun c93 => ?_) (fun c93 => ?_)
  · rw [if_neg c93] at h
    refine zw_sub (lv' := []) zs_nil ?_
    exact zt_X17_failure_J120 hX hr hR hd h
  · rw [if_pos c93] at h
    refine zw_aload_n hX dX17_failure_96 rfl ?_
    refine zw_iload_n hX dX17_failure_97 rfl ?_
    refine zw_iconst (v := (0 : Int32)) hX dX17_failure_98 (by decide) ?_
    obtain ⟨_, gi, h⟩ := zb_some h
    obtain ⟨r11, g, h⟩ := zb_some h
    refine zc_Vi (as := [.int i1, .int (0 : Int32)]) hX gi (zt_X17_in (d := d - 1) (by omega) g) zl_X17_75 rfl dX17_failure_99 ⟨rfl, rfl, Nat.le_of_ble_eq_true rfl⟩ ⟨by omega, by omega⟩ ?_
    refine zw_if_lt (tgt := 116) hX dX17_failure_102 (by decide) (fun c102 => ?_) (fun c102 => ?_)
    · rw [if_pos c102] at h
      refine zw_sub (lv' := []) zs_nil ?_
      exact zt_X17_failure_J116 hX hr hR hd h
    · rw [if_neg c102] at h
      refine zw_aload_n hX dX17_failure_105 rfl ?_
      refine zw_iload_n hX dX17_failure_106 rfl ?_
      refine zw_iconst (v := (0 : Int32)) hX dX17_failure_107 (by decide) ?_
      obtain ⟨_, gi, h⟩ := zb_some h
      obtain ⟨r13, g, h⟩ := zb_some h
      refine zc_Vi (as := [.int i1, .int (0 : Int32)]) hX gi (zt_X17_in (d := d - 1) (by omega) g) zl_X17_75 rfl dX17_failure_108 ⟨rfl, rfl, Nat.le_of_ble_eq_true rfl⟩ ⟨by omega, by omega⟩ ?_
      refine zw_bipush (v := (7 : Int32)) hX dX17_failure_111 (by decide) ?_
      refine zw_icmp_le (tgt := 120) hX dX17_failure_113 (by decide) (fun c113 => ?_) (fun c113 => ?_)
      · rw [if_pos c113] at h
        refine zw_sub (lv' := []) zs_nil ?_
        exact zt_X17_failure_J120 hX hr hR hd h
      · rw [if_neg c113] at h
        refine zw_sub (lv' := []) zs_nil ?_
        exact zt_X17_failure_J116 hX hr hR hd h
set_option maxHeartbeats 4000000 in
set_option maxRecDepth 100000 in
theorem zt_X17_failure_J66 {p : Program} {l : Launch} {e : Env} {R : Room} {s : State} {m : MethodId} {args : Array Value} {below : List Frame} {meth : Method} {c : Code} {V : zm_V} {mc ms d rc rs : Nat} (hX : zm_X p R s m args meth c RX17 "failure" cX17_failure 4 zk_E V mc ms) (hr : meth.sig.returnType = (some .int)) (hR : R.frames = d ∧ R.locals = 64 * d) (hd : 2 ≤ d) {N : Nat} {a0 : Nat} {i1 : Int32} {i2 : Int32} {out : (Int32 × zm_S)} {S : zm_S} (h : zf_X17_failure_J66 N a0 i1 i2 S = some out) : zw p l e R s m args below meth c (vx_MQ below (zm_Qc zk_E V (zo_i out)) (zm_XC zk_E V zo_x) args s mc ms (fun q => V.2.2.2.1 ≤ q)) 4 zk_E V mc ms 66 [(0, .ref a0), (1, .int i1), (2, .int i2)] [] S rc rs := by
  unfold zf_X17_failure_J66 at h
  refine zw_iload_n hX dX17_failure_66 rfl ?_
  refine zw_if_ne (tgt := 90) hX dX17_failure_67 (by decide) (fun c67 => ?_) (fun c67 => ?_)
  · rw [if_neg c67] at h
    refine zw_sub (lv' := [(0, .ref a0), (1, .int i1), (2, .int i2)]) (List.forall_mem_cons.mpr ⟨rfl, (List.forall_mem_cons.mpr ⟨rfl, (List.forall_mem_cons.mpr ⟨rfl, zs_nil⟩)⟩)⟩) ?_
    exact zt_X17_failure_J90 hX hr hR hd h
  · rw [if_pos c67] at h
    refine zw_aload_n hX dX17_failure_70 rfl ?_
    obtain ⟨b14, g, h⟩ := zb_some h
    refine zw_getr hX zl_X17_13 dX17_failure_71 g ?_
    refine zw_iload_n hX dX17_failure_74 rfl ?_
    obtain ⟨v15, g, h⟩ := zb_some h
    refine zw_xi hX dX17_failure_75 g ?_
    refine zw_if_lt (tgt := 116) hX dX17_failure_76 (by decide) (fun c76 => ?_) (fun c76 => ?_)
    · rw [if_pos c76] at h
      refine zw_sub (lv' := []) zs_nil ?_
      exact zt_X17_failure_J116 hX hr hR hd h
    · rw [if_neg c76] at h
      refine zw_aload_n hX dX17_failure_79 rfl ?_
      obtain ⟨b16, g, h⟩ := zb_some h
      refine zw_getr hX zl_X17_13 dX17_failure_80 g ?_
      refine zw_iload_n hX dX17_failure_83 rfl ?_
      obtain ⟨v17, g, h⟩ := zb_some h
      refine zw_xi hX dX17_failure_84 g ?_
      refine zw_bipush (v := (9 : Int32)) hX dX17_failure_85 (by decide) ?_
      refine zw_icmp_gt (tgt := 116) hX dX17_failure_87 (by decide) (fun c87 => ?_) (fun c87 => ?_)
      · rw [if_pos c87] at h
        refine zw_sub (lv' := []) zs_nil ?_
        exact zt_X17_failure_J116 hX hr hR hd h
      · rw [if_neg c87] at h
        refine zw_sub (lv' := [(0, .ref a0), (1, .int i1), (2, .int i2)]) (List.forall_mem_cons.mpr ⟨rfl, (List.forall_mem_cons.mpr ⟨rfl, (List.forall_mem_cons.mpr ⟨rfl, zs_nil⟩)⟩)⟩) ?_
        exact zt_X17_failure_J90 hX hr hR hd h
set_option maxHeartbeats 4000000 in
set_option maxRecDepth 100000 in
theorem zt_X17_failure_J55 {p : Program} {l : Launch} {e : Env} {R : Room} {s : State} {m : MethodId} {args : Array Value} {below : List Frame} {meth : Method} {c : Code} {V : zm_V} {mc ms d rc rs : Nat} (hX : zm_X p R s m args meth c RX17 "failure" cX17_failure 4 zk_E V mc ms) (hr : meth.sig.returnType = (some .int)) (hR : R.frames = d ∧ R.locals = 64 * d) (hd : 2 ≤ d) {N : Nat} {a0 : Nat} {i1 : Int32} {i2 : Int32} {out : (Int32 × zm_S)} {S : zm_S} (h : zf_X17_failure_J55 N a0 i1 i2 S = some out) : zw p l e R s m args below meth c (vx_MQ below (zm_Qc zk_E V (zo_i out)) (zm_XC zk_E V zo_x) args s mc ms (fun q => V.2.2.2.1 ≤ q)) 4 zk_E V mc ms 55 [(0, .ref a0), (1, .int i1), (2, .int i2)] [] S rc rs := by
  unfold zf_X17_failure_J55 at h
  refine zw_aload_n hX dX17_failure_55 rfl ?_
  refine zw_iload_n hX dX17_failure_56 rfl ?_
  refine zw_iconst (v := (1 : Int32)) hX dX17_failure_57 (by decide) ?_
  obtain ⟨_, gi, h⟩ := zb_some h
  obtain ⟨r9, g, h⟩ := zb_some h
  refine zc_Vi (as := [.int i1, .int (1 : Int32)]) hX gi (zt_X17_in (d := d - 1) (by omega) g) zl_X17_75 rfl dX17_failure_58 ⟨rfl, rfl, Nat.le_of_ble_eq_true rfl⟩ ⟨by omega, by omega⟩ ?_
  refine zw_if_ne (tgt := 66) hX dX17_failure_61 (by decide) (fun c61 => ?_) (fun c61 => ?_)
  · rw [if_neg c61] at h
    refine zw_sub (lv' := [(0, .ref a0), (1, .int i1), (2, .int i2)]) (List.forall_mem_cons.mpr ⟨rfl, (List.forall_mem_cons.mpr ⟨rfl, (List.forall_mem_cons.mpr ⟨rfl, zs_nil⟩)⟩)⟩) ?_
    exact zt_X17_failure_J66 hX hr hR hd h
  · rw [if_pos c61] at h
    refine zw_iconst (v := (1 : Int32)) hX dX17_failure_64 (by decide) ?_
    obtain rfl := Option.some.inj h
    exact zw_iret hX hr dX17_failure_65 rfl ⟨rfl, rfl⟩
set_option maxHeartbeats 4000000 in
set_option maxRecDepth 100000 in
theorem zt_X17_failure_J44 {p : Program} {l : Launch} {e : Env} {R : Room} {s : State} {m : MethodId} {args : Array Value} {below : List Frame} {meth : Method} {c : Code} {V : zm_V} {mc ms d rc rs : Nat} (hX : zm_X p R s m args meth c RX17 "failure" cX17_failure 4 zk_E V mc ms) (hr : meth.sig.returnType = (some .int)) (hR : R.frames = d ∧ R.locals = 64 * d) (hd : 2 ≤ d) {N : Nat} {a0 : Nat} {i1 : Int32} {i2 : Int32} {out : (Int32 × zm_S)} {S : zm_S} (h : zf_X17_failure_J44 N a0 i1 i2 S = some out) : zw p l e R s m args below meth c (vx_MQ below (zm_Qc zk_E V (zo_i out)) (zm_XC zk_E V zo_x) args s mc ms (fun q => V.2.2.2.1 ≤ q)) 4 zk_E V mc ms 44 [(0, .ref a0), (1, .int i1), (2, .int i2)] [] S rc rs := by
  unfold zf_X17_failure_J44 at h
  refine zw_iload_n hX dX17_failure_44 rfl ?_
  refine zw_iconst (v := (5 : Int32)) hX dX17_failure_45 (by decide) ?_
  refine zw_icmp_eq (tgt := 55) hX dX17_failure_46 (by decide) (fun c46 => ?_) (fun c46 => ?_)
  · rw [if_pos c46] at h
    refine zw_sub (lv' := [(0, .ref a0), (1, .int i1), (2, .int i2)]) (List.forall_mem_cons.mpr ⟨rfl, (List.forall_mem_cons.mpr ⟨rfl, (List.forall_mem_cons.mpr ⟨rfl, zs_nil⟩)⟩)⟩) ?_
    exact zt_X17_failure_J55 hX hr hR hd h
  · rw [if_neg c46] at h
    refine zw_iload_n hX dX17_failure_49 rfl ?_
    refine zw_bipush (v := (6 : Int32)) hX dX17_failure_50 (by decide) ?_
    refine zw_icmp_ne (tgt := 66) hX dX17_failure_52 (by decide) (fun c52 => ?_) (fun c52 => ?_)
    · rw [if_neg c52] at h
      refine zw_sub (lv' := [(0, .ref a0), (1, .int i1), (2, .int i2)]) (List.forall_mem_cons.mpr ⟨rfl, (List.forall_mem_cons.mpr ⟨rfl, (List.forall_mem_cons.mpr ⟨rfl, zs_nil⟩)⟩)⟩) ?_
      exact zt_X17_failure_J66 hX hr hR hd h
    · rw [if_pos c52] at h
      refine zw_sub (lv' := [(0, .ref a0), (1, .int i1), (2, .int i2)]) (List.forall_mem_cons.mpr ⟨rfl, (List.forall_mem_cons.mpr ⟨rfl, (List.forall_mem_cons.mpr ⟨rfl, zs_nil⟩)⟩)⟩) ?_
      exact zt_X17_failure_J55 hX hr hR hd h
set_option maxHeartbeats 4000000 in
set_option maxRecDepth 100000 in
theorem zt_X17_failure {l : Launch} {V : zm_V} {N : Nat} {S : zm_S} {out : (Int32 × zm_S)} {d : Nat} {a0 : Nat} {i1 : Int32} (hd : 2 ≤ d) (h : zf_X17_failure N a0 i1 S = some out) : zm_Met l zk_E V yX17_failure (.code yX17_failure cX17_failure 4 (some .int)) d [.ref a0, .int i1] S 0 0 (zo_i out) zo_x := by
  refine zm_of (by decide +kernel) (Nat.le_of_ble_eq_true rfl) ?_
  intro p e R s m args below meth c hRR hX hr hxt
  have hR : R.frames = d ∧ R.locals = 64 * d := by rw [hRR]; exact ⟨rfl, rfl⟩
  have hX : zm_X p R s m args meth c RX17 "failure" cX17_failure 4 zk_E V 0 0 := hX
  unfold zf_X17_failure at h
  refine zw_sub (lv' := [(0, .ref a0), (1, .int i1)]) (List.forall_mem_cons.mpr ⟨rfl, (List.forall_mem_cons.mpr ⟨rfl, zs_nil⟩)⟩) ?_
  refine zw_aload_n hX dX17_failure_0 rfl ?_
  obtain ⟨b1, g, h⟩ := zb_some h
  refine zw_getr hX zl_X17_7 dX17_failure_1 g ?_
  refine zw_iload_n hX dX17_failure_4 rfl ?_
  obtain ⟨v2, g, h⟩ := zb_some h
  refine zw_xi hX dX17_failure_5 g ?_
  refine zw_istore_n hX dX17_failure_6 (by decide) ?_
  refine zw_iconst (v := (0 : Int32)) hX dX17_failure_7 (by decide) ?_
  refine zw_istore_n hX dX17_failure_8 (by decide) ?_
  obtain ⟨r, g, h⟩ := zb_some h
  refine zw_sub (lv' := [(0, .ref a0), (1, .int i1), (2, .int v2), (3, .int (0 : Int32))]) (List.forall_mem_cons.mpr ⟨rfl, (List.forall_mem_cons.mpr ⟨rfl, (List.forall_mem_cons.mpr ⟨rfl, (List.forall_mem_cons.mpr ⟨rfl, zs_nil⟩)⟩)⟩)⟩) ?_
  refine zt_X17_failure_L9 hX hr hR hd (res := r) (out := out) a0 i1 v2 ?_ ?_ N _ _ g
  · intro o ho
    subst ho
    exact Option.some.inj h
  · intro  S7 hx
    subst hx
    try dsimp only at h
    refine zw_sub (lv' := [(0, .ref a0), (1, .int i1), (2, .int v2)]) (List.forall_mem_cons.mpr ⟨rfl, (List.forall_mem_cons.mpr ⟨rfl, (List.forall_mem_cons.mpr ⟨rfl, zs_nil⟩)⟩)⟩) ?_
    exact zt_X17_failure_J44 hX hr hR hd h
set_option maxHeartbeats 4000000 in
set_option maxRecDepth 100000 in
theorem zt_X17_fails {l : Launch} {V : zm_V} {N : Nat} {S : zm_S} {out : (Unit × zm_S)} {d : Nat} {a0 : Nat} {i1 : Int32} {i2 : Int32} (hd : 1 ≤ d) (h : zf_X17_fails N a0 i1 i2 S = some out) : zm_Met l zk_E V yX17_fails (.code yX17_fails cX17_fails 3 none) d [.ref a0, .int i1, .int i2] S 0 0 (zo_v out) zo_x := by
  refine zm_of (by decide +kernel) (Nat.le_of_ble_eq_true rfl) ?_
  intro p e R s m args below meth c hRR hX hr hxt
  have hR : R.frames = d ∧ R.locals = 64 * d := by rw [hRR]; exact ⟨rfl, rfl⟩
  have hX : zm_X p R s m args meth c RX17 "fails" cX17_fails 3 zk_E V 0 0 := hX
  unfold zf_X17_fails at h
  refine zw_sub (lv' := [(0, .ref a0), (1, .int i1), (2, .int i2)]) (List.forall_mem_cons.mpr ⟨rfl, (List.forall_mem_cons.mpr ⟨rfl, (List.forall_mem_cons.mpr ⟨rfl, zs_nil⟩)⟩)⟩) ?_
  refine zw_aload_n hX dX17_fails_0 rfl ?_
  obtain ⟨b1, g, h⟩ := zb_some h
  refine zw_getr hX zl_X17_56 dX17_fails_1 g ?_
  refine zw_iconst (v := (0 : Int32)) hX dX17_fails_4 (by decide) ?_
  refine zw_dup2 hX dX17_fails_5 rfl rfl ?_
  obtain ⟨v2, g, h⟩ := zb_some h
  refine zw_xi hX dX17_fails_6 g ?_
  refine zw_iconst (v := (1 : Int32)) hX dX17_fails_7 (by decide) ?_
  refine zw_iadd hX dX17_fails_8 ?_
  obtain ⟨S3, g, h⟩ := zb_some h
  refine zw_si hX dX17_fails_9 g ?_
  refine zw_aload_n hX dX17_fails_10 rfl ?_
  obtain ⟨b4, g, h⟩ := zb_some h
  refine zw_getr hX zl_X17_56 dX17_fails_11 g ?_
  refine zw_iload_n hX dX17_fails_14 rfl ?_
  refine zw_dup2 hX dX17_fails_15 rfl rfl ?_
  obtain ⟨v5, g, h⟩ := zb_some h
  refine zw_xi hX dX17_fails_16 g ?_
  refine zw_iconst (v := (1 : Int32)) hX dX17_fails_17 (by decide) ?_
  refine zw_iadd hX dX17_fails_18 ?_
  obtain ⟨S6, g, h⟩ := zb_some h
  refine zw_si hX dX17_fails_19 g ?_
  refine zw_aload_n hX dX17_fails_20 rfl ?_
  obtain ⟨b7, g, h⟩ := zb_some h
  refine zw_getr hX zl_X17_28 dX17_fails_21 g ?_
  refine zw_iload_n hX dX17_fails_24 rfl ?_
  refine zw_aload_n hX dX17_fails_25 rfl ?_
  obtain ⟨b8, g, h⟩ := zb_some h
  refine zw_getr hX zl_X17_19 dX17_fails_26 g ?_
  refine zw_iload_n hX dX17_fails_29 rfl ?_
  obtain ⟨v9, g, h⟩ := zb_some h
  refine zw_xi hX dX17_fails_30 g ?_
  obtain ⟨S10, g, h⟩ := zb_some h
  refine zw_si hX dX17_fails_31 g ?_
  obtain rfl := Option.some.inj h
  exact zw_vret hX hr dX17_fails_32 ⟨rfl, rfl⟩
set_option maxHeartbeats 4000000 in
set_option maxRecDepth 100000 in
theorem zt_X17_plain_J220 {p : Program} {l : Launch} {e : Env} {R : Room} {s : State} {m : MethodId} {args : Array Value} {below : List Frame} {meth : Method} {c : Code} {V : zm_V} {mc ms d rc rs : Nat} (hX : zm_X p R s m args meth c RX17 "plain" cX17_plain 4 zk_E V mc ms) (hr : meth.sig.returnType = (some .int)) (hR : R.frames = d ∧ R.locals = 64 * d) (hd : 2 ≤ d) {N : Nat} {a0 : Nat} {i1 : Int32} {i2 : Int32} {out : (Int32 × zm_S)} {S : zm_S} (h : zf_X17_plain_J220 N a0 i1 i2 S = some out) : zw p l e R s m args below meth c (vx_MQ below (zm_Qc zk_E V (zo_i out)) (zm_XC zk_E V zo_x) args s mc ms (fun q => V.2.2.2.1 ≤ q)) 4 zk_E V mc ms 220 [(0, .ref a0), (1, .int i1), (2, .int i2)] [] S rc rs := by
  unfold zf_X17_plain_J220 at h
  refine zw_aload_n hX dX17_plain_220 rfl ?_
  obtain ⟨b3, g, h⟩ := zb_some h
  refine zw_getr hX zl_X17_25 dX17_plain_221 g ?_
  refine zw_bipush (v := (8 : Int32)) hX dX17_plain_224 (by decide) ?_
  refine zw_iload_n hX dX17_plain_226 rfl ?_
  refine zw_imul hX dX17_plain_227 ?_
  refine zw_iload_n hX dX17_plain_228 rfl ?_
  refine zw_iadd hX dX17_plain_229 ?_
  obtain ⟨v4, g, h⟩ := zb_some h
  refine zw_xi hX dX17_plain_230 g ?_
  obtain rfl := Option.some.inj h
  exact zw_iret hX hr dX17_plain_231 rfl ⟨rfl, rfl⟩
set_option maxHeartbeats 4000000 in
set_option maxRecDepth 100000 in
theorem zt_X17_plain_J80 {p : Program} {l : Launch} {e : Env} {R : Room} {s : State} {m : MethodId} {args : Array Value} {below : List Frame} {meth : Method} {c : Code} {V : zm_V} {mc ms d rc rs : Nat} (hX : zm_X p R s m args meth c RX17 "plain" cX17_plain 4 zk_E V mc ms) (hr : meth.sig.returnType = (some .int)) (hR : R.frames = d ∧ R.locals = 64 * d) (hd : 2 ≤ d) {N : Nat} {a0 : Nat} {i1 : Int32} {out : (Int32 × zm_S)} {S : zm_S} (h : zf_X17_plain_J80 N a0 i1 S = some out) : zw p l e R s m args below meth c (vx_MQ below (zm_Qc zk_E V (zo_i out)) (zm_XC zk_E V zo_x) args s mc ms (fun q => V.2.2.2.1 ≤ q)) 4 zk_E V mc ms 80 [(0, .ref a0), (1, .int i1)] [] S rc rs := by
  unfold zf_X17_plain_J80 at h
  refine zw_aload_n hX dX17_plain_80 rfl ?_
  obtain ⟨b5, g, h⟩ := zb_some h
  refine zw_getr hX zl_X17_44 dX17_plain_81 g ?_
  refine zw_aload_n hX dX17_plain_84 rfl ?_
  obtain ⟨b6, g, h⟩ := zb_some h
  refine zw_getr hX zl_X17_13 dX17_plain_85 g ?_
  refine zw_iload_n hX dX17_plain_88 rfl ?_
  obtain ⟨v7, g, h⟩ := zb_some h
  refine zw_xi hX dX17_plain_89 g ?_
  obtain ⟨v8, g, h⟩ := zb_some h
  refine zw_xi hX dX17_plain_90 g ?_
  obtain rfl := Option.some.inj h
  exact zw_iret hX hr dX17_plain_91 rfl ⟨rfl, rfl⟩
set_option maxHeartbeats 4000000 in
set_option maxRecDepth 100000 in
theorem zt_X17_plain_J92 {p : Program} {l : Launch} {e : Env} {R : Room} {s : State} {m : MethodId} {args : Array Value} {below : List Frame} {meth : Method} {c : Code} {V : zm_V} {mc ms d rc rs : Nat} (hX : zm_X p R s m args meth c RX17 "plain" cX17_plain 4 zk_E V mc ms) (hr : meth.sig.returnType = (some .int)) (hR : R.frames = d ∧ R.locals = 64 * d) (hd : 2 ≤ d) {N : Nat} {a0 : Nat} {i1 : Int32} {out : (Int32 × zm_S)} {S : zm_S} (h : zf_X17_plain_J92 N a0 i1 S = some out) : zw p l e R s m args below meth c (vx_MQ below (zm_Qc zk_E V (zo_i out)) (zm_XC zk_E V zo_x) args s mc ms (fun q => V.2.2.2.1 ≤ q)) 4 zk_E V mc ms 92 [(0, .ref a0), (1, .int i1)] [] S rc rs := by
  unfold zf_X17_plain_J92 at h
  refine zw_aload_n hX dX17_plain_92 rfl ?_
  obtain ⟨b9, g, h⟩ := zb_some h
  refine zw_getr hX zl_X17_13 dX17_plain_93 g ?_
  refine zw_iload_n hX dX17_plain_96 rfl ?_
  obtain ⟨v10, g, h⟩ := zb_some h
  refine zw_xi hX dX17_plain_97 g ?_
  obtain rfl := Option.some.inj h
  exact zw_iret hX hr dX17_plain_98 rfl ⟨rfl, rfl⟩
set_option maxHeartbeats 4000000 in
set_option maxRecDepth 100000 in
theorem zt_X17_plain_J99 {p : Program} {l : Launch} {e : Env} {R : Room} {s : State} {m : MethodId} {args : Array Value} {below : List Frame} {meth : Method} {c : Code} {V : zm_V} {mc ms d rc rs : Nat} (hX : zm_X p R s m args meth c RX17 "plain" cX17_plain 4 zk_E V mc ms) (hr : meth.sig.returnType = (some .int)) (hR : R.frames = d ∧ R.locals = 64 * d) (hd : 2 ≤ d) {N : Nat} {i2 : Int32} {i3 : Int32} {out : (Int32 × zm_S)} {S : zm_S} (h : zf_X17_plain_J99 N i2 i3 S = some out) : zw p l e R s m args below meth c (vx_MQ below (zm_Qc zk_E V (zo_i out)) (zm_XC zk_E V zo_x) args s mc ms (fun q => V.2.2.2.1 ≤ q)) 4 zk_E V mc ms 99 [(2, .int i2), (3, .int i3)] [] S rc rs := by
  unfold zf_X17_plain_J99 at h
  refine zw_iload_n hX dX17_plain_99 rfl ?_
  refine zw_iload_n hX dX17_plain_100 rfl ?_
  refine zw_iadd hX dX17_plain_101 ?_
  obtain rfl := Option.some.inj h
  exact zw_iret hX hr dX17_plain_102 rfl ⟨rfl, rfl⟩
set_option maxHeartbeats 4000000 in
set_option maxRecDepth 100000 in
theorem zt_X17_plain_J103 {p : Program} {l : Launch} {e : Env} {R : Room} {s : State} {m : MethodId} {args : Array Value} {below : List Frame} {meth : Method} {c : Code} {V : zm_V} {mc ms d rc rs : Nat} (hX : zm_X p R s m args meth c RX17 "plain" cX17_plain 4 zk_E V mc ms) (hr : meth.sig.returnType = (some .int)) (hR : R.frames = d ∧ R.locals = 64 * d) (hd : 2 ≤ d) {N : Nat} {i2 : Int32} {i3 : Int32} {out : (Int32 × zm_S)} {S : zm_S} (h : zf_X17_plain_J103 N i2 i3 S = some out) : zw p l e R s m args below meth c (vx_MQ below (zm_Qc zk_E V (zo_i out)) (zm_XC zk_E V zo_x) args s mc ms (fun q => V.2.2.2.1 ≤ q)) 4 zk_E V mc ms 103 [(2, .int i2), (3, .int i3)] [] S rc rs := by
  unfold zf_X17_plain_J103 at h
  refine zw_iload_n hX dX17_plain_103 rfl ?_
  refine zw_iload_n hX dX17_plain_104 rfl ?_
  refine zw_isub hX dX17_plain_105 ?_
  obtain rfl := Option.some.inj h
  exact zw_iret hX hr dX17_plain_106 rfl ⟨rfl, rfl⟩
set_option maxHeartbeats 4000000 in
set_option maxRecDepth 100000 in
theorem zt_X17_plain_J107 {p : Program} {l : Launch} {e : Env} {R : Room} {s : State} {m : MethodId} {args : Array Value} {below : List Frame} {meth : Method} {c : Code} {V : zm_V} {mc ms d rc rs : Nat} (hX : zm_X p R s m args meth c RX17 "plain" cX17_plain 4 zk_E V mc ms) (hr : meth.sig.returnType = (some .int)) (hR : R.frames = d ∧ R.locals = 64 * d) (hd : 2 ≤ d) {N : Nat} {i2 : Int32} {i3 : Int32} {out : (Int32 × zm_S)} {S : zm_S} (h : zf_X17_plain_J107 N i2 i3 S = some out) : zw p l e R s m args below meth c (vx_MQ below (zm_Qc zk_E V (zo_i out)) (zm_XC zk_E V zo_x) args s mc ms (fun q => V.2.2.2.1 ≤ q)) 4 zk_E V mc ms 107 [(2, .int i2), (3, .int i3)] [] S rc rs := by
  unfold zf_X17_plain_J107 at h
  refine zw_iload_n hX dX17_plain_107 rfl ?_
  refine zw_iload_n hX dX17_plain_108 rfl ?_
  refine zw_imul hX dX17_plain_109 ?_
  obtain rfl := Option.some.inj h
  exact zw_iret hX hr dX17_plain_110 rfl ⟨rfl, rfl⟩
set_option maxHeartbeats 4000000 in
set_option maxRecDepth 100000 in
theorem zt_X17_plain_J111 {p : Program} {l : Launch} {e : Env} {R : Room} {s : State} {m : MethodId} {args : Array Value} {below : List Frame} {meth : Method} {c : Code} {V : zm_V} {mc ms d rc rs : Nat} (hX : zm_X p R s m args meth c RX17 "plain" cX17_plain 4 zk_E V mc ms) (hr : meth.sig.returnType = (some .int)) (hR : R.frames = d ∧ R.locals = 64 * d) (hd : 2 ≤ d) {N : Nat} {i2 : Int32} {i3 : Int32} {out : (Int32 × zm_S)} {S : zm_S} (h : zf_X17_plain_J111 N i2 i3 S = some out) : zw p l e R s m args below meth c (vx_MQ below (zm_Qc zk_E V (zo_i out)) (zm_XC zk_E V zo_x) args s mc ms (fun q => V.2.2.2.1 ≤ q)) 4 zk_E V mc ms 111 [(2, .int i2), (3, .int i3)] [] S rc rs := by
  unfold zf_X17_plain_J111 at h
  refine zw_iload_n hX dX17_plain_111 rfl ?_
  refine zw_iload_n hX dX17_plain_112 rfl ?_
  by_cases c0 : i3 = 0
  · rw [if_pos c0] at h
    cases h
  rw [if_neg c0] at h
  refine zw_idiv hX dX17_plain_113 c0 ?_
  obtain rfl := Option.some.inj h
  exact zw_iret hX hr dX17_plain_114 rfl ⟨rfl, rfl⟩
set_option maxHeartbeats 4000000 in
set_option maxRecDepth 100000 in
theorem zt_X17_plain_J115 {p : Program} {l : Launch} {e : Env} {R : Room} {s : State} {m : MethodId} {args : Array Value} {below : List Frame} {meth : Method} {c : Code} {V : zm_V} {mc ms d rc rs : Nat} (hX : zm_X p R s m args meth c RX17 "plain" cX17_plain 4 zk_E V mc ms) (hr : meth.sig.returnType = (some .int)) (hR : R.frames = d ∧ R.locals = 64 * d) (hd : 2 ≤ d) {N : Nat} {i2 : Int32} {i3 : Int32} {out : (Int32 × zm_S)} {S : zm_S} (h : zf_X17_plain_J115 N i2 i3 S = some out) : zw p l e R s m args below meth c (vx_MQ below (zm_Qc zk_E V (zo_i out)) (zm_XC zk_E V zo_x) args s mc ms (fun q => V.2.2.2.1 ≤ q)) 4 zk_E V mc ms 115 [(2, .int i2), (3, .int i3)] [] S rc rs := by
  unfold zf_X17_plain_J115 at h
  refine zw_iload_n hX dX17_plain_115 rfl ?_
  refine zw_iload_n hX dX17_plain_116 rfl ?_
  refine zw_iload_n hX dX17_plain_117 rfl ?_
  refine zw_iload_n hX dX17_plain_118 rfl ?_
  by_cases c0 : i3 = 0
  · rw [if_pos c0] at h
    cases h
  rw [if_neg c0] at h
  refine zw_idiv hX dX17_plain_119 c0 ?_
  refine zw_imul hX dX17_plain_120 ?_
  refine zw_isub hX dX17_plain_121 ?_
  obtain rfl := Option.some.inj h
  exact zw_iret hX hr dX17_plain_122 rfl ⟨rfl, rfl⟩
set_option maxHeartbeats 4000000 in
set_option maxRecDepth 100000 in
theorem zt_X17_plain_J123 {p : Program} {l : Launch} {e : Env} {R : Room} {s : State} {m : MethodId} {args : Array Value} {below : List Frame} {meth : Method} {c : Code} {V : zm_V} {mc ms d rc rs : Nat} (hX : zm_X p R s m args meth c RX17 "plain" cX17_plain 4 zk_E V mc ms) (hr : meth.sig.returnType = (some .int)) (hR : R.frames = d ∧ R.locals = 64 * d) (hd : 2 ≤ d) {N : Nat} {i2 : Int32} {i3 : Int32} {out : (Int32 × zm_S)} {S : zm_S} (h : zf_X17_plain_J123 N i2 i3 S = some out) : zw p l e R s m args below meth c (vx_MQ below (zm_Qc zk_E V (zo_i out)) (zm_XC zk_E V zo_x) args s mc ms (fun q => V.2.2.2.1 ≤ q)) 4 zk_E V mc ms 123 [(2, .int i2), (3, .int i3)] [] S rc rs := by
  unfold zf_X17_plain_J123 at h
  refine zw_iload_n hX dX17_plain_123 rfl ?_
  refine zw_iload_n hX dX17_plain_124 rfl ?_
  refine zw_icmp_ge (tgt := 132) hX dX17_plain_125 (by decide) (fun c125 => ?_) (fun c125 => ?_)
  · rw [if_pos c125] at h
    refine zw_iload_n hX dX17_plain_132 rfl ?_
    obtain rfl := Option.some.inj h
    exact zw_iret hX hr dX17_plain_133 rfl ⟨rfl, rfl⟩
  · rw [if_neg c125] at h
    refine zw_iload_n hX dX17_plain_128 rfl ?_
    refine zw_goto (tgt := 133) hX dX17_plain_129 (by decide) ?_
    obtain rfl := Option.some.inj h
    exact zw_iret hX hr dX17_plain_133 rfl ⟨rfl, rfl⟩
set_option maxHeartbeats 4000000 in
set_option maxRecDepth 100000 in
theorem zt_X17_plain_J134 {p : Program} {l : Launch} {e : Env} {R : Room} {s : State} {m : MethodId} {args : Array Value} {below : List Frame} {meth : Method} {c : Code} {V : zm_V} {mc ms d rc rs : Nat} (hX : zm_X p R s m args meth c RX17 "plain" cX17_plain 4 zk_E V mc ms) (hr : meth.sig.returnType = (some .int)) (hR : R.frames = d ∧ R.locals = 64 * d) (hd : 2 ≤ d) {N : Nat} {i2 : Int32} {i3 : Int32} {out : (Int32 × zm_S)} {S : zm_S} (h : zf_X17_plain_J134 N i2 i3 S = some out) : zw p l e R s m args below meth c (vx_MQ below (zm_Qc zk_E V (zo_i out)) (zm_XC zk_E V zo_x) args s mc ms (fun q => V.2.2.2.1 ≤ q)) 4 zk_E V mc ms 134 [(2, .int i2), (3, .int i3)] [] S rc rs := by
  unfold zf_X17_plain_J134 at h
  refine zw_iload_n hX dX17_plain_134 rfl ?_
  refine zw_iload_n hX dX17_plain_135 rfl ?_
  refine zw_icmp_le (tgt := 143) hX dX17_plain_136 (by decide) (fun c136 => ?_) (fun c136 => ?_)
  · rw [if_pos c136] at h
    refine zw_iload_n hX dX17_plain_143 rfl ?_
    obtain rfl := Option.some.inj h
    exact zw_iret hX hr dX17_plain_144 rfl ⟨rfl, rfl⟩
  · rw [if_neg c136] at h
    refine zw_iload_n hX dX17_plain_139 rfl ?_
    refine zw_goto (tgt := 144) hX dX17_plain_140 (by decide) ?_
    obtain rfl := Option.some.inj h
    exact zw_iret hX hr dX17_plain_144 rfl ⟨rfl, rfl⟩
set_option maxHeartbeats 4000000 in
set_option maxRecDepth 100000 in
theorem zt_X17_plain_J145 {p : Program} {l : Launch} {e : Env} {R : Room} {s : State} {m : MethodId} {args : Array Value} {below : List Frame} {meth : Method} {c : Code} {V : zm_V} {mc ms d rc rs : Nat} (hX : zm_X p R s m args meth c RX17 "plain" cX17_plain 4 zk_E V mc ms) (hr : meth.sig.returnType = (some .int)) (hR : R.frames = d ∧ R.locals = 64 * d) (hd : 2 ≤ d) {N : Nat} {i2 : Int32} {i3 : Int32} {out : (Int32 × zm_S)} {S : zm_S} (h : zf_X17_plain_J145 N i2 i3 S = some out) : zw p l e R s m args below meth c (vx_MQ below (zm_Qc zk_E V (zo_i out)) (zm_XC zk_E V zo_x) args s mc ms (fun q => V.2.2.2.1 ≤ q)) 4 zk_E V mc ms 145 [(2, .int i2), (3, .int i3)] [] S rc rs := by
  unfold zf_X17_plain_J145 at h
  refine zw_iload_n hX dX17_plain_145 rfl ?_
  refine zw_iload_n hX dX17_plain_146 rfl ?_
  refine zw_icmp_ge (tgt := 154) hX dX17_plain_147 (by decide) (fun c147 => ?_) (fun c147 => ?_)
  · rw [if_pos c147] at h
    refine zw_iconst (v := (0 : Int32)) hX dX17_plain_154 (by decide) ?_
    obtain rfl := Option.some.inj h
    exact zw_iret hX hr dX17_plain_155 rfl ⟨rfl, rfl⟩
  · rw [if_neg c147] at h
    refine zw_iconst (v := (1 : Int32)) hX dX17_plain_150 (by decide) ?_
    refine zw_goto (tgt := 155) hX dX17_plain_151 (by decide) ?_
    obtain rfl := Option.some.inj h
    exact zw_iret hX hr dX17_plain_155 rfl ⟨rfl, rfl⟩
set_option maxHeartbeats 4000000 in
set_option maxRecDepth 100000 in
theorem zt_X17_plain_J156 {p : Program} {l : Launch} {e : Env} {R : Room} {s : State} {m : MethodId} {args : Array Value} {below : List Frame} {meth : Method} {c : Code} {V : zm_V} {mc ms d rc rs : Nat} (hX : zm_X p R s m args meth c RX17 "plain" cX17_plain 4 zk_E V mc ms) (hr : meth.sig.returnType = (some .int)) (hR : R.frames = d ∧ R.locals = 64 * d) (hd : 2 ≤ d) {N : Nat} {i2 : Int32} {i3 : Int32} {out : (Int32 × zm_S)} {S : zm_S} (h : zf_X17_plain_J156 N i2 i3 S = some out) : zw p l e R s m args below meth c (vx_MQ below (zm_Qc zk_E V (zo_i out)) (zm_XC zk_E V zo_x) args s mc ms (fun q => V.2.2.2.1 ≤ q)) 4 zk_E V mc ms 156 [(2, .int i2), (3, .int i3)] [] S rc rs := by
  unfold zf_X17_plain_J156 at h
  refine zw_iload_n hX dX17_plain_156 rfl ?_
  refine zw_iload_n hX dX17_plain_157 rfl ?_
  refine zw_icmp_ne (tgt := 165) hX dX17_plain_158 (by decide) (fun c158 => ?_) (fun c158 => ?_)
  · rw [if_neg c158] at h
    refine zw_iconst (v := (0 : Int32)) hX dX17_plain_165 (by decide) ?_
    obtain rfl := Option.some.inj h
    exact zw_iret hX hr dX17_plain_166 rfl ⟨rfl, rfl⟩
  · rw [if_pos c158] at h
    refine zw_iconst (v := (1 : Int32)) hX dX17_plain_161 (by decide) ?_
    refine zw_goto (tgt := 166) hX dX17_plain_162 (by decide) ?_
    obtain rfl := Option.some.inj h
    exact zw_iret hX hr dX17_plain_166 rfl ⟨rfl, rfl⟩
set_option maxHeartbeats 4000000 in
set_option maxRecDepth 100000 in
theorem zt_X17_plain_J167 {p : Program} {l : Launch} {e : Env} {R : Room} {s : State} {m : MethodId} {args : Array Value} {below : List Frame} {meth : Method} {c : Code} {V : zm_V} {mc ms d rc rs : Nat} (hX : zm_X p R s m args meth c RX17 "plain" cX17_plain 4 zk_E V mc ms) (hr : meth.sig.returnType = (some .int)) (hR : R.frames = d ∧ R.locals = 64 * d) (hd : 2 ≤ d) {N : Nat} {i2 : Int32} {i3 : Int32} {out : (Int32 × zm_S)} {S : zm_S} (h : zf_X17_plain_J167 N i2 i3 S = some out) : zw p l e R s m args below meth c (vx_MQ below (zm_Qc zk_E V (zo_i out)) (zm_XC zk_E V zo_x) args s mc ms (fun q => V.2.2.2.1 ≤ q)) 4 zk_E V mc ms 167 [(2, .int i2), (3, .int i3)] [] S rc rs := by
  unfold zf_X17_plain_J167 at h
  refine zw_iload_n hX dX17_plain_167 rfl ?_
  refine zw_if_eq (tgt := 179) hX dX17_plain_168 (by decide) (fun c168 => ?_) (fun c168 => ?_)
  · rw [if_pos c168] at h
    refine zw_iconst (v := (0 : Int32)) hX dX17_plain_179 (by decide) ?_
    obtain rfl := Option.some.inj h
    exact zw_iret hX hr dX17_plain_180 rfl ⟨rfl, rfl⟩
  · rw [if_neg c168] at h
    refine zw_iload_n hX dX17_plain_171 rfl ?_
    refine zw_if_eq (tgt := 179) hX dX17_plain_172 (by decide) (fun c172 => ?_) (fun c172 => ?_)
    · rw [if_pos c172] at h
      refine zw_iconst (v := (0 : Int32)) hX dX17_plain_179 (by decide) ?_
      obtain rfl := Option.some.inj h
      exact zw_iret hX hr dX17_plain_180 rfl ⟨rfl, rfl⟩
    · rw [if_neg c172] at h
      refine zw_iconst (v := (1 : Int32)) hX dX17_plain_175 (by decide) ?_
      refine zw_goto (tgt := 180) hX dX17_plain_176 (by decide) ?_
      obtain rfl := Option.some.inj h
      exact zw_iret hX hr dX17_plain_180 rfl ⟨rfl, rfl⟩
set_option maxHeartbeats 4000000 in
set_option maxRecDepth 100000 in
theorem zt_X17_plain_J181 {p : Program} {l : Launch} {e : Env} {R : Room} {s : State} {m : MethodId} {args : Array Value} {below : List Frame} {meth : Method} {c : Code} {V : zm_V} {mc ms d rc rs : Nat} (hX : zm_X p R s m args meth c RX17 "plain" cX17_plain 4 zk_E V mc ms) (hr : meth.sig.returnType = (some .int)) (hR : R.frames = d ∧ R.locals = 64 * d) (hd : 2 ≤ d) {N : Nat} {i2 : Int32} {i3 : Int32} {out : (Int32 × zm_S)} {S : zm_S} (h : zf_X17_plain_J181 N i2 i3 S = some out) : zw p l e R s m args below meth c (vx_MQ below (zm_Qc zk_E V (zo_i out)) (zm_XC zk_E V zo_x) args s mc ms (fun q => V.2.2.2.1 ≤ q)) 4 zk_E V mc ms 181 [(2, .int i2), (3, .int i3)] [] S rc rs := by
  unfold zf_X17_plain_J181 at h
  refine zw_iload_n hX dX17_plain_181 rfl ?_
  refine zw_if_ne (tgt := 189) hX dX17_plain_182 (by decide) (fun c182 => ?_) (fun c182 => ?_)
  · rw [if_neg c182] at h
    refine zw_iconst (v := (1 : Int32)) hX dX17_plain_189 (by decide) ?_
    refine zw_goto (tgt := 194) hX dX17_plain_190 (by decide) ?_
    obtain rfl := Option.some.inj h
    exact zw_iret hX hr dX17_plain_194 rfl ⟨rfl, rfl⟩
  · rw [if_pos c182] at h
    refine zw_iload_n hX dX17_plain_185 rfl ?_
    refine zw_if_eq (tgt := 193) hX dX17_plain_186 (by decide) (fun c186 => ?_) (fun c186 => ?_)
    · rw [if_pos c186] at h
      refine zw_iconst (v := (0 : Int32)) hX dX17_plain_193 (by decide) ?_
      obtain rfl := Option.some.inj h
      exact zw_iret hX hr dX17_plain_194 rfl ⟨rfl, rfl⟩
    · rw [if_neg c186] at h
      refine zw_iconst (v := (1 : Int32)) hX dX17_plain_189 (by decide) ?_
      refine zw_goto (tgt := 194) hX dX17_plain_190 (by decide) ?_
      obtain rfl := Option.some.inj h
      exact zw_iret hX hr dX17_plain_194 rfl ⟨rfl, rfl⟩
set_option maxHeartbeats 4000000 in
set_option maxRecDepth 100000 in
theorem zt_X17_plain_J195 {p : Program} {l : Launch} {e : Env} {R : Room} {s : State} {m : MethodId} {args : Array Value} {below : List Frame} {meth : Method} {c : Code} {V : zm_V} {mc ms d rc rs : Nat} (hX : zm_X p R s m args meth c RX17 "plain" cX17_plain 4 zk_E V mc ms) (hr : meth.sig.returnType = (some .int)) (hR : R.frames = d ∧ R.locals = 64 * d) (hd : 2 ≤ d) {N : Nat} {i2 : Int32} {out : (Int32 × zm_S)} {S : zm_S} (h : zf_X17_plain_J195 N i2 S = some out) : zw p l e R s m args below meth c (vx_MQ below (zm_Qc zk_E V (zo_i out)) (zm_XC zk_E V zo_x) args s mc ms (fun q => V.2.2.2.1 ≤ q)) 4 zk_E V mc ms 195 [(2, .int i2)] [] S rc rs := by
  unfold zf_X17_plain_J195 at h
  refine zw_iload_n hX dX17_plain_195 rfl ?_
  refine zw_if_ne (tgt := 203) hX dX17_plain_196 (by decide) (fun c196 => ?_) (fun c196 => ?_)
  · rw [if_neg c196] at h
    refine zw_iconst (v := (0 : Int32)) hX dX17_plain_203 (by decide) ?_
    obtain rfl := Option.some.inj h
    exact zw_iret hX hr dX17_plain_204 rfl ⟨rfl, rfl⟩
  · rw [if_pos c196] at h
    refine zw_iconst (v := (1 : Int32)) hX dX17_plain_199 (by decide) ?_
    refine zw_goto (tgt := 204) hX dX17_plain_200 (by decide) ?_
    obtain rfl := Option.some.inj h
    exact zw_iret hX hr dX17_plain_204 rfl ⟨rfl, rfl⟩
set_option maxHeartbeats 4000000 in
set_option maxRecDepth 100000 in
theorem zt_X17_plain_J205 {p : Program} {l : Launch} {e : Env} {R : Room} {s : State} {m : MethodId} {args : Array Value} {below : List Frame} {meth : Method} {c : Code} {V : zm_V} {mc ms d rc rs : Nat} (hX : zm_X p R s m args meth c RX17 "plain" cX17_plain 4 zk_E V mc ms) (hr : meth.sig.returnType = (some .int)) (hR : R.frames = d ∧ R.locals = 64 * d) (hd : 2 ≤ d) {N : Nat} {a0 : Nat} {i1 : Int32} {i2 : Int32} {i3 : Int32} {out : (Int32 × zm_S)} {S : zm_S} (h : zf_X17_plain_J205 N a0 i1 i2 i3 S = some out) : zw p l e R s m args below meth c (vx_MQ below (zm_Qc zk_E V (zo_i out)) (zm_XC zk_E V zo_x) args s mc ms (fun q => V.2.2.2.1 ≤ q)) 4 zk_E V mc ms 205 [(0, .ref a0), (1, .int i1), (2, .int i2), (3, .int i3)] [] S rc rs := by
  unfold zf_X17_plain_J205 at h
  refine zw_iload_n hX dX17_plain_205 rfl ?_
  refine zw_if_eq (tgt := 213) hX dX17_plain_206 (by decide) (fun c206 => ?_) (fun c206 => ?_)
  · rw [if_pos c206] at h
    refine zw_aload_n hX dX17_plain_213 rfl ?_
    refine zw_iload_n hX dX17_plain_214 rfl ?_
    refine zw_iconst (v := (2 : Int32)) hX dX17_plain_215 (by decide) ?_
    obtain ⟨_, gi, h⟩ := zb_some h
    obtain ⟨r12, g, h⟩ := zb_some h
    refine zc_Vi (as := [.int i1, .int (2 : Int32)]) hX gi (zt_X17_in (d := d - 1) (by omega) g) zl_X17_75 rfl dX17_plain_216 ⟨rfl, rfl, Nat.le_of_ble_eq_true rfl⟩ ⟨by omega, by omega⟩ ?_
    obtain rfl := Option.some.inj h
    exact zw_iret hX hr dX17_plain_219 rfl ⟨rfl, rfl⟩
  · rw [if_neg c206] at h
    refine zw_iload_n hX dX17_plain_209 rfl ?_
    refine zw_goto (tgt := 219) hX dX17_plain_210 (by decide) ?_
    obtain rfl := Option.some.inj h
    exact zw_iret hX hr dX17_plain_219 rfl ⟨rfl, rfl⟩
set_option maxHeartbeats 4000000 in
set_option maxRecDepth 100000 in
theorem zt_X17_plain {l : Launch} {V : zm_V} {N : Nat} {S : zm_S} {out : (Int32 × zm_S)} {d : Nat} {a0 : Nat} {i1 : Int32} {i2 : Int32} {i3 : Int32} (hd : 2 ≤ d) (h : zf_X17_plain N a0 i1 i2 i3 S = some out) : zm_Met l zk_E V yX17_plain (.code yX17_plain cX17_plain 4 (some .int)) d [.ref a0, .int i1, .int i2, .int i3] S 0 0 (zo_i out) zo_x := by
  refine zm_of (by decide +kernel) (Nat.le_of_ble_eq_true rfl) ?_
  intro p e R s m args below meth c hRR hX hr hxt
  have hR : R.frames = d ∧ R.locals = 64 * d := by rw [hRR]; exact ⟨rfl, rfl⟩
  have hX : zm_X p R s m args meth c RX17 "plain" cX17_plain 4 zk_E V 0 0 := hX
  unfold zf_X17_plain at h
  refine zw_sub (lv' := [(0, .ref a0), (1, .int i1), (2, .int i2), (3, .int i3)]) (List.forall_mem_cons.mpr ⟨rfl, (List.forall_mem_cons.mpr ⟨rfl, (List.forall_mem_cons.mpr ⟨rfl, (List.forall_mem_cons.mpr ⟨rfl, zs_nil⟩)⟩)⟩)⟩) ?_
  refine zw_aload_n hX dX17_plain_0 rfl ?_
  obtain ⟨b1, g, h⟩ := zb_some h
  refine zw_getr hX zl_X17_7 dX17_plain_1 g ?_
  refine zw_iload_n hX dX17_plain_4 rfl ?_
  obtain ⟨v2, g, h⟩ := zb_some h
  refine zw_xi hX dX17_plain_5 g ?_
  by_cases c6_0 : (v2).toInt = 0
  · rw [if_pos c6_0] at h
    refine zw_tableIn (off := 74) (tgt := 80) hX dX17_plain_6 (by rw [c6_0]; decide) (by rw [c6_0]; decide) (by rw [c6_0]; decide) (by decide) ?_
    refine zw_sub (lv' := [(0, .ref a0), (1, .int i1)]) (List.forall_mem_cons.mpr ⟨rfl, (List.forall_mem_cons.mpr ⟨rfl, zs_nil⟩)⟩) ?_
    exact zt_X17_plain_J80 hX hr hR hd h
  rw [if_neg c6_0] at h
  by_cases c6_1 : (v2).toInt = 1
  · rw [if_pos c6_1] at h
    refine zw_tableIn (off := 86) (tgt := 92) hX dX17_plain_6 (by rw [c6_1]; decide) (by rw [c6_1]; decide) (by rw [c6_1]; decide) (by decide) ?_
    refine zw_sub (lv' := [(0, .ref a0), (1, .int i1)]) (List.forall_mem_cons.mpr ⟨rfl, (List.forall_mem_cons.mpr ⟨rfl, zs_nil⟩)⟩) ?_
    exact zt_X17_plain_J92 hX hr hR hd h
  rw [if_neg c6_1] at h
  by_cases c6_2 : (v2).toInt = 2
  · rw [if_pos c6_2] at h
    refine zw_tableIn (off := 93) (tgt := 99) hX dX17_plain_6 (by rw [c6_2]; decide) (by rw [c6_2]; decide) (by rw [c6_2]; decide) (by decide) ?_
    refine zw_sub (lv' := [(2, .int i2), (3, .int i3)]) (List.forall_mem_cons.mpr ⟨rfl, (List.forall_mem_cons.mpr ⟨rfl, zs_nil⟩)⟩) ?_
    exact zt_X17_plain_J99 hX hr hR hd h
  rw [if_neg c6_2] at h
  by_cases c6_3 : (v2).toInt = 3
  · rw [if_pos c6_3] at h
    refine zw_tableIn (off := 97) (tgt := 103) hX dX17_plain_6 (by rw [c6_3]; decide) (by rw [c6_3]; decide) (by rw [c6_3]; decide) (by decide) ?_
    refine zw_sub (lv' := [(2, .int i2), (3, .int i3)]) (List.forall_mem_cons.mpr ⟨rfl, (List.forall_mem_cons.mpr ⟨rfl, zs_nil⟩)⟩) ?_
    exact zt_X17_plain_J103 hX hr hR hd h
  rw [if_neg c6_3] at h
  by_cases c6_4 : (v2).toInt = 4
  · rw [if_pos c6_4] at h
    refine zw_tableIn (off := 101) (tgt := 107) hX dX17_plain_6 (by rw [c6_4]; decide) (by rw [c6_4]; decide) (by rw [c6_4]; decide) (by decide) ?_
    refine zw_sub (lv' := [(2, .int i2), (3, .int i3)]) (List.forall_mem_cons.mpr ⟨rfl, (List.forall_mem_cons.mpr ⟨rfl, zs_nil⟩)⟩) ?_
    exact zt_X17_plain_J107 hX hr hR hd h
  rw [if_neg c6_4] at h
  by_cases c6_5 : (v2).toInt = 5
  · rw [if_pos c6_5] at h
    refine zw_tableIn (off := 105) (tgt := 111) hX dX17_plain_6 (by rw [c6_5]; decide) (by rw [c6_5]; decide) (by rw [c6_5]; decide) (by decide) ?_
    refine zw_sub (lv' := [(2, .int i2), (3, .int i3)]) (List.forall_mem_cons.mpr ⟨rfl, (List.forall_mem_cons.mpr ⟨rfl, zs_nil⟩)⟩) ?_
    exact zt_X17_plain_J111 hX hr hR hd h
  rw [if_neg c6_5] at h
  by_cases c6_6 : (v2).toInt = 6
  · rw [if_pos c6_6] at h
    refine zw_tableIn (off := 109) (tgt := 115) hX dX17_plain_6 (by rw [c6_6]; decide) (by rw [c6_6]; decide) (by rw [c6_6]; decide) (by decide) ?_
    refine zw_sub (lv' := [(2, .int i2), (3, .int i3)]) (List.forall_mem_cons.mpr ⟨rfl, (List.forall_mem_cons.mpr ⟨rfl, zs_nil⟩)⟩) ?_
    exact zt_X17_plain_J115 hX hr hR hd h
  rw [if_neg c6_6] at h
  by_cases c6_7 : (v2).toInt = 7
  · rw [if_pos c6_7] at h
    refine zw_tableIn (off := 117) (tgt := 123) hX dX17_plain_6 (by rw [c6_7]; decide) (by rw [c6_7]; decide) (by rw [c6_7]; decide) (by decide) ?_
    refine zw_sub (lv' := [(2, .int i2), (3, .int i3)]) (List.forall_mem_cons.mpr ⟨rfl, (List.forall_mem_cons.mpr ⟨rfl, zs_nil⟩)⟩) ?_
    exact zt_X17_plain_J123 hX hr hR hd h
  rw [if_neg c6_7] at h
  by_cases c6_8 : (v2).toInt = 8
  · rw [if_pos c6_8] at h
    refine zw_tableIn (off := 128) (tgt := 134) hX dX17_plain_6 (by rw [c6_8]; decide) (by rw [c6_8]; decide) (by rw [c6_8]; decide) (by decide) ?_
    refine zw_sub (lv' := [(2, .int i2), (3, .int i3)]) (List.forall_mem_cons.mpr ⟨rfl, (List.forall_mem_cons.mpr ⟨rfl, zs_nil⟩)⟩) ?_
    exact zt_X17_plain_J134 hX hr hR hd h
  rw [if_neg c6_8] at h
  by_cases c6_9 : (v2).toInt = 9
  · rw [if_pos c6_9] at h
    refine zw_tableIn (off := 139) (tgt := 145) hX dX17_plain_6 (by rw [c6_9]; decide) (by rw [c6_9]; decide) (by rw [c6_9]; decide) (by decide) ?_
    refine zw_sub (lv' := [(2, .int i2), (3, .int i3)]) (List.forall_mem_cons.mpr ⟨rfl, (List.forall_mem_cons.mpr ⟨rfl, zs_nil⟩)⟩) ?_
    exact zt_X17_plain_J145 hX hr hR hd h
  rw [if_neg c6_9] at h
  by_cases c6_10 : (v2).toInt = 10
  · rw [if_pos c6_10] at h
    refine zw_tableIn (off := 150) (tgt := 156) hX dX17_plain_6 (by rw [c6_10]; decide) (by rw [c6_10]; decide) (by rw [c6_10]; decide) (by decide) ?_
    refine zw_sub (lv' := [(2, .int i2), (3, .int i3)]) (List.forall_mem_cons.mpr ⟨rfl, (List.forall_mem_cons.mpr ⟨rfl, zs_nil⟩)⟩) ?_
    exact zt_X17_plain_J156 hX hr hR hd h
  rw [if_neg c6_10] at h
  by_cases c6_11 : (v2).toInt = 11
  · rw [if_pos c6_11] at h
    refine zw_tableIn (off := 161) (tgt := 167) hX dX17_plain_6 (by rw [c6_11]; decide) (by rw [c6_11]; decide) (by rw [c6_11]; decide) (by decide) ?_
    refine zw_sub (lv' := [(2, .int i2), (3, .int i3)]) (List.forall_mem_cons.mpr ⟨rfl, (List.forall_mem_cons.mpr ⟨rfl, zs_nil⟩)⟩) ?_
    exact zt_X17_plain_J167 hX hr hR hd h
  rw [if_neg c6_11] at h
  by_cases c6_12 : (v2).toInt = 12
  · rw [if_pos c6_12] at h
    refine zw_tableIn (off := 175) (tgt := 181) hX dX17_plain_6 (by rw [c6_12]; decide) (by rw [c6_12]; decide) (by rw [c6_12]; decide) (by decide) ?_
    refine zw_sub (lv' := [(2, .int i2), (3, .int i3)]) (List.forall_mem_cons.mpr ⟨rfl, (List.forall_mem_cons.mpr ⟨rfl, zs_nil⟩)⟩) ?_
    exact zt_X17_plain_J181 hX hr hR hd h
  rw [if_neg c6_12] at h
  by_cases c6_13 : (v2).toInt = 13
  · rw [if_pos c6_13] at h
    refine zw_tableIn (off := 189) (tgt := 195) hX dX17_plain_6 (by rw [c6_13]; decide) (by rw [c6_13]; decide) (by rw [c6_13]; decide) (by decide) ?_
    refine zw_sub (lv' := [(2, .int i2)]) (List.forall_mem_cons.mpr ⟨rfl, zs_nil⟩) ?_
    exact zt_X17_plain_J195 hX hr hR hd h
  rw [if_neg c6_13] at h
  by_cases c6_14 : (v2).toInt = 14
  · rw [if_pos c6_14] at h
    refine zw_tableIn (off := 199) (tgt := 205) hX dX17_plain_6 (by rw [c6_14]; decide) (by rw [c6_14]; decide) (by rw [c6_14]; decide) (by decide) ?_
    refine zw_sub (lv' := [(0, .ref a0), (1, .int i1), (2, .int i2), (3, .int i3)]) (List.forall_mem_cons.mpr ⟨rfl, (List.forall_mem_cons.mpr ⟨rfl, (List.forall_mem_cons.mpr ⟨rfl, (List.forall_mem_cons.mpr ⟨rfl, zs_nil⟩)⟩)⟩)⟩) ?_
    exact zt_X17_plain_J205 hX hr hR hd h
  rw [if_neg c6_14] at h
  refine zw_tableOut (tgt := 220) hX dX17_plain_6 (by omega) (by decide) ?_
  refine zw_sub (lv' := [(0, .ref a0), (1, .int i1), (2, .int i2)]) (List.forall_mem_cons.mpr ⟨rfl, (List.forall_mem_cons.mpr ⟨rfl, (List.forall_mem_cons.mpr ⟨rfl, zs_nil⟩)⟩)⟩) ?_
  exact zt_X17_plain_J220 hX hr hR hd h
set_option maxHeartbeats 4000000 in
set_option maxRecDepth 100000 in
theorem zt_X17_ramp_J55 {p : Program} {l : Launch} {e : Env} {R : Room} {s : State} {m : MethodId} {args : Array Value} {below : List Frame} {meth : Method} {c : Code} {V : zm_V} {mc ms d rc rs : Nat} (hX : zm_X p R s m args meth c RX17 "ramp" cX17_ramp 7 zk_E V mc ms) (hr : meth.sig.returnType = (some .int)) (hR : R.frames = d ∧ R.locals = 64 * d) (hd : 1 ≤ d) {N : Nat} {a0 : Nat} {i1 : Int32} {j3 : Int64} {out : (Int32 × zm_S)} {S : zm_S} (h : zf_X17_ramp_J55 N a0 i1 j3 S = some out) : zw p l e R s m args below meth c (vx_MQ below (zm_Qc zk_E V (zo_i out)) (zm_XC zk_E V zo_x) args s mc ms (fun q => V.2.2.2.1 ≤ q)) 7 zk_E V mc ms 55 [(0, .ref a0), (1, .int i1), (3, .long j3)] [] S rc rs := by
  unfold zf_X17_ramp_J55 at h
  refine zw_aload_n hX dX17_ramp_55 rfl ?_
  obtain ⟨b7, g, h⟩ := zb_some h
  refine zw_getr hX zl_X17_28 dX17_ramp_56 g ?_
  refine zw_iload_n hX dX17_ramp_59 rfl ?_
  obtain ⟨v8, g, h⟩ := zb_some h
  refine zw_xi hX dX17_ramp_60 g ?_
  refine zw_i2l hX dX17_ramp_61 ?_
  refine zw_lload_n hX dX17_ramp_62 rfl ?_
  refine zw_ladd hX dX17_ramp_63 ?_
  refine zw_l2i hX dX17_ramp_64 ?_
  obtain rfl := Option.some.inj h
  exact zw_iret hX hr dX17_ramp_65 rfl ⟨rfl, rfl⟩
set_option maxHeartbeats 4000000 in
set_option maxRecDepth 100000 in
theorem zt_X17_ramp_J43 {p : Program} {l : Launch} {e : Env} {R : Room} {s : State} {m : MethodId} {args : Array Value} {below : List Frame} {meth : Method} {c : Code} {V : zm_V} {mc ms d rc rs : Nat} (hX : zm_X p R s m args meth c RX17 "ramp" cX17_ramp 7 zk_E V mc ms) (hr : meth.sig.returnType = (some .int)) (hR : R.frames = d ∧ R.locals = 64 * d) (hd : 1 ≤ d) {N : Nat} {a0 : Nat} {i1 : Int32} {j3 : Int64} {j5 : Int64} {out : (Int32 × zm_S)} {S : zm_S} (h : zf_X17_ramp_J43 N a0 i1 j3 j5 S = some out) : zw p l e R s m args below meth c (vx_MQ below (zm_Qc zk_E V (zo_i out)) (zm_XC zk_E V zo_x) args s mc ms (fun q => V.2.2.2.1 ≤ q)) 7 zk_E V mc ms 43 [(0, .ref a0), (1, .int i1), (3, .long j3), (5, .long j5)] [] S rc rs := by
  unfold zf_X17_ramp_J43 at h
  refine zw_lload_n hX dX17_ramp_43 rfl ?_
  refine zw_lload hX dX17_ramp_44 rfl ?_
  refine zw_lneg hX dX17_ramp_46 ?_
  refine zw_lcmp hX dX17_ramp_47 ?_
  refine zw_if_ge (tgt := 55) hX dX17_ramp_48 (by decide) (fun c48 => ?_) (fun c48 => ?_)
  · rw [if_pos c48] at h
    refine zw_sub (lv' := [(0, .ref a0), (1, .int i1), (3, .long j3)]) (List.forall_mem_cons.mpr ⟨rfl, (List.forall_mem_cons.mpr ⟨rfl, (List.forall_mem_cons.mpr ⟨rfl, zs_nil⟩)⟩)⟩) ?_
    exact zt_X17_ramp_J55 hX hr hR hd h
  · rw [if_neg c48] at h
    refine zw_lload hX dX17_ramp_51 rfl ?_
    refine zw_lneg hX dX17_ramp_53 ?_
    refine zw_lstore_n hX dX17_ramp_54 (by decide) ?_
    refine zw_sub (lv' := [(0, .ref a0), (1, .int i1), (3, .long (-j5))]) (List.forall_mem_cons.mpr ⟨rfl, (List.forall_mem_cons.mpr ⟨rfl, (List.forall_mem_cons.mpr ⟨rfl, zs_nil⟩)⟩)⟩) ?_
    exact zt_X17_ramp_J55 hX hr hR hd h
set_option maxHeartbeats 4000000 in
set_option maxRecDepth 100000 in
theorem zt_X17_ramp_J31 {p : Program} {l : Launch} {e : Env} {R : Room} {s : State} {m : MethodId} {args : Array Value} {below : List Frame} {meth : Method} {c : Code} {V : zm_V} {mc ms d rc rs : Nat} (hX : zm_X p R s m args meth c RX17 "ramp" cX17_ramp 7 zk_E V mc ms) (hr : meth.sig.returnType = (some .int)) (hR : R.frames = d ∧ R.locals = 64 * d) (hd : 1 ≤ d) {N : Nat} {a0 : Nat} {i1 : Int32} {j3 : Int64} {t0 : Int64} {out : (Int32 × zm_S)} {S : zm_S} (h : zf_X17_ramp_J31 N a0 i1 j3 t0 S = some out) : zw p l e R s m args below meth c (vx_MQ below (zm_Qc zk_E V (zo_i out)) (zm_XC zk_E V zo_x) args s mc ms (fun q => V.2.2.2.1 ≤ q)) 7 zk_E V mc ms 31 [(0, .ref a0), (1, .int i1), (3, .long j3)] [.long t0] S rc rs := by
  unfold zf_X17_ramp_J31 at h
  refine zw_lstore hX dX17_ramp_31 (by decide) ?_
  refine zw_lload_n hX dX17_ramp_33 rfl ?_
  refine zw_lload hX dX17_ramp_34 rfl ?_
  refine zw_lcmp hX dX17_ramp_36 ?_
  refine zw_if_le (tgt := 43) hX dX17_ramp_37 (by decide) (fun c37 => ?_) (fun c37 => ?_)
  · rw [if_pos c37] at h
    refine zw_sub (lv' := [(0, .ref a0), (1, .int i1), (3, .long j3), (5, .long t0)]) (List.forall_mem_cons.mpr ⟨rfl, (List.forall_mem_cons.mpr ⟨rfl, (List.forall_mem_cons.mpr ⟨rfl, (List.forall_mem_cons.mpr ⟨rfl, zs_nil⟩)⟩)⟩)⟩) ?_
    exact zt_X17_ramp_J43 hX hr hR hd h
  · rw [if_neg c37] at h
    refine zw_lload hX dX17_ramp_40 rfl ?_
    refine zw_lstore_n hX dX17_ramp_42 (by decide) ?_
    refine zw_sub (lv' := [(0, .ref a0), (1, .int i1), (3, .long t0), (5, .long t0)]) (List.forall_mem_cons.mpr ⟨rfl, (List.forall_mem_cons.mpr ⟨rfl, (List.forall_mem_cons.mpr ⟨rfl, (List.forall_mem_cons.mpr ⟨rfl, zs_nil⟩)⟩)⟩)⟩) ?_
    exact zt_X17_ramp_J43 hX hr hR hd h
set_option maxHeartbeats 4000000 in
set_option maxRecDepth 100000 in
theorem zt_X17_ramp {l : Launch} {V : zm_V} {N : Nat} {S : zm_S} {out : (Int32 × zm_S)} {d : Nat} {a0 : Nat} {i1 : Int32} {i2 : Int32} (hd : 1 ≤ d) (h : zf_X17_ramp N a0 i1 i2 S = some out) : zm_Met l zk_E V yX17_ramp (.code yX17_ramp cX17_ramp 7 (some .int)) d [.ref a0, .int i1, .int i2] S 0 0 (zo_i out) zo_x := by
  refine zm_of (by decide +kernel) (Nat.le_of_ble_eq_true rfl) ?_
  intro p e R s m args below meth c hRR hX hr hxt
  have hR : R.frames = d ∧ R.locals = 64 * d := by rw [hRR]; exact ⟨rfl, rfl⟩
  have hX : zm_X p R s m args meth c RX17 "ramp" cX17_ramp 7 zk_E V 0 0 := hX
  unfold zf_X17_ramp at h
  refine zw_sub (lv' := [(0, .ref a0), (1, .int i1), (2, .int i2)]) (List.forall_mem_cons.mpr ⟨rfl, (List.forall_mem_cons.mpr ⟨rfl, (List.forall_mem_cons.mpr ⟨rfl, zs_nil⟩)⟩)⟩) ?_
  refine zw_iload_n hX dX17_ramp_0 rfl ?_
  refine zw_i2l hX dX17_ramp_1 ?_
  refine zw_aload_n hX dX17_ramp_2 rfl ?_
  obtain ⟨b1, g, h⟩ := zb_some h
  refine zw_getr hX zl_X17_28 dX17_ramp_3 g ?_
  refine zw_iload_n hX dX17_ramp_6 rfl ?_
  obtain ⟨v2, g, h⟩ := zb_some h
  refine zw_xi hX dX17_ramp_7 g ?_
  refine zw_i2l hX dX17_ramp_8 ?_
  refine zw_lsub hX dX17_ramp_9 ?_
  refine zw_lstore_n hX dX17_ramp_10 (by decide) ?_
  refine zw_aload_n hX dX17_ramp_11 rfl ?_
  obtain ⟨b3, g, h⟩ := zb_some h
  refine zw_getr hX zl_X17_13 dX17_ramp_12 g ?_
  refine zw_iload_n hX dX17_ramp_15 rfl ?_
  obtain ⟨v4, g, h⟩ := zb_some h
  refine zw_xi hX dX17_ramp_16 g ?_
  refine zw_if_ge (tgt := 24) hX dX17_ramp_17 (by decide) (fun c17 => ?_) (fun c17 => ?_)
  · rw [if_pos c17] at h
    refine zw_aload_n hX dX17_ramp_24 rfl ?_
    obtain ⟨b5, g, h⟩ := zb_some h
    refine zw_getr hX zl_X17_13 dX17_ramp_25 g ?_
    refine zw_iload_n hX dX17_ramp_28 rfl ?_
    obtain ⟨v6, g, h⟩ := zb_some h
    refine zw_xi hX dX17_ramp_29 g ?_
    refine zw_i2l hX dX17_ramp_30 ?_
    refine zw_sub (lv' := [(0, .ref a0), (1, .int i1), (3, .long ((i2).toInt64 - (v2).toInt64))]) (List.forall_mem_cons.mpr ⟨rfl, (List.forall_mem_cons.mpr ⟨rfl, (List.forall_mem_cons.mpr ⟨rfl, zs_nil⟩)⟩)⟩) ?_
    exact zt_X17_ramp_J31 hX hr hR hd h
  · rw [if_neg c17] at h
    refine zw_lconst (v := (0 : Int64)) hX dX17_ramp_20 (by decide) ?_
    refine zw_goto (tgt := 31) hX dX17_ramp_21 (by decide) ?_
    refine zw_sub (lv' := [(0, .ref a0), (1, .int i1), (3, .long ((i2).toInt64 - (v2).toInt64))]) (List.forall_mem_cons.mpr ⟨rfl, (List.forall_mem_cons.mpr ⟨rfl, (List.forall_mem_cons.mpr ⟨rfl, zs_nil⟩)⟩)⟩) ?_
    exact zt_X17_ramp_J31 hX hr hR hd h
set_option maxHeartbeats 4000000 in
set_option maxRecDepth 100000 in
theorem zt_X17_clock_J40 {p : Program} {l : Launch} {e : Env} {R : Room} {s : State} {m : MethodId} {args : Array Value} {below : List Frame} {meth : Method} {c : Code} {V : zm_V} {mc ms d rc rs : Nat} (hX : zm_X p R s m args meth c RX17 "clock" cX17_clock 5 zk_E V mc ms) (hr : meth.sig.returnType = (some .int)) (hR : R.frames = d ∧ R.locals = 64 * d) (hd : 1 ≤ d) {N : Nat} {a0 : Nat} {i1 : Int32} {i3 : Int32} {t0 : Int32} {out : (Int32 × zm_S)} {S : zm_S} (h : zf_X17_clock_J40 N a0 i1 i3 t0 S = some out) : zw p l e R s m args below meth c (vx_MQ below (zm_Qc zk_E V (zo_i out)) (zm_XC zk_E V zo_x) args s mc ms (fun q => V.2.2.2.1 ≤ q)) 5 zk_E V mc ms 40 [(0, .ref a0), (1, .int i1), (3, .int i3)] [.int t0] S rc rs := by
  unfold zf_X17_clock_J40 at h
  refine zw_istore hX dX17_clock_40 (by decide) ?_
  refine zw_aload_n hX dX17_clock_42 rfl ?_
  obtain ⟨b6, g, h⟩ := zb_some h
  refine zw_getr hX zl_X17_13 dX17_clock_43 g ?_
  refine zw_iload_n hX dX17_clock_46 rfl ?_
  obtain ⟨v7, g, h⟩ := zb_some h
  refine zw_xi hX dX17_clock_47 g ?_
  refine zw_aload_n hX dX17_clock_48 rfl ?_
  obtain ⟨b8, g, h⟩ := zb_some h
  refine zw_getr hX zl_X17_16 dX17_clock_49 g ?_
  refine zw_iload_n hX dX17_clock_52 rfl ?_
  obtain ⟨v9, g, h⟩ := zb_some h
  refine zw_xi hX dX17_clock_53 g ?_
  refine zw_icmp_gt (tgt := 69) hX dX17_clock_54 (by decide) (fun c54 => ?_) (fun c54 => ?_)
  · rw [if_pos c54] at h
    refine zw_iload_n hX dX17_clock_69 rfl ?_
    refine zw_if_ne (tgt := 78) hX dX17_clock_70 (by decide) (fun c70 => ?_) (fun c70 => ?_)
    · rw [if_neg c70] at h
      refine zw_iconst (v := (1 : Int32)) hX dX17_clock_78 (by decide) ?_
      refine zw_goto (tgt := 83) hX dX17_clock_79 (by decide) ?_
      obtain rfl := Option.some.inj h
      exact zw_iret hX hr dX17_clock_83 rfl ⟨rfl, rfl⟩
    · rw [if_pos c70] at h
      refine zw_iload hX dX17_clock_73 rfl ?_
      refine zw_if_eq (tgt := 82) hX dX17_clock_75 (by decide) (fun c75 => ?_) (fun c75 => ?_)
      · rw [if_pos c75] at h
        refine zw_iconst (v := (0 : Int32)) hX dX17_clock_82 (by decide) ?_
        obtain rfl := Option.some.inj h
        exact zw_iret hX hr dX17_clock_83 rfl ⟨rfl, rfl⟩
      · rw [if_neg c75] at h
        refine zw_iconst (v := (1 : Int32)) hX dX17_clock_78 (by decide) ?_
        refine zw_goto (tgt := 83) hX dX17_clock_79 (by decide) ?_
        obtain rfl := Option.some.inj h
        exact zw_iret hX hr dX17_clock_83 rfl ⟨rfl, rfl⟩
  · rw [if_neg c54] at h
    refine zw_iload_n hX dX17_clock_57 rfl ?_
    refine zw_if_eq (tgt := 82) hX dX17_clock_58 (by decide) (fun c58 => ?_) (fun c58 => ?_)
    · rw [if_pos c58] at h
      refine zw_iconst (v := (0 : Int32)) hX dX17_clock_82 (by decide) ?_
      obtain rfl := Option.some.inj h
      exact zw_iret hX hr dX17_clock_83 rfl ⟨rfl, rfl⟩
    · rw [if_neg c58] at h
      refine zw_iload hX dX17_clock_61 rfl ?_
      refine zw_if_eq (tgt := 82) hX dX17_clock_63 (by decide) (fun c63 => ?_) (fun c63 => ?_)
      · rw [if_pos c63] at h
        refine zw_iconst (v := (0 : Int32)) hX dX17_clock_82 (by decide) ?_
        obtain rfl := Option.some.inj h
        exact zw_iret hX hr dX17_clock_83 rfl ⟨rfl, rfl⟩
      · rw [if_neg c63] at h
        refine zw_goto (tgt := 78) hX dX17_clock_66 (by decide) ?_
        refine zw_iconst (v := (1 : Int32)) hX dX17_clock_78 (by decide) ?_
        refine zw_goto (tgt := 83) hX dX17_clock_79 (by decide) ?_
        obtain rfl := Option.some.inj h
        exact zw_iret hX hr dX17_clock_83 rfl ⟨rfl, rfl⟩
set_option maxHeartbeats 4000000 in
set_option maxRecDepth 100000 in
theorem zt_X17_clock_J24 {p : Program} {l : Launch} {e : Env} {R : Room} {s : State} {m : MethodId} {args : Array Value} {below : List Frame} {meth : Method} {c : Code} {V : zm_V} {mc ms d rc rs : Nat} (hX : zm_X p R s m args meth c RX17 "clock" cX17_clock 5 zk_E V mc ms) (hr : meth.sig.returnType = (some .int)) (hR : R.frames = d ∧ R.locals = 64 * d) (hd : 1 ≤ d) {N : Nat} {a0 : Nat} {i1 : Int32} {i2 : Int32} {t0 : Int32} {out : (Int32 × zm_S)} {S : zm_S} (h : zf_X17_clock_J24 N a0 i1 i2 t0 S = some out) : zw p l e R s m args below meth c (vx_MQ below (zm_Qc zk_E V (zo_i out)) (zm_XC zk_E V zo_x) args s mc ms (fun q => V.2.2.2.1 ≤ q)) 5 zk_E V mc ms 24 [(0, .ref a0), (1, .int i1), (2, .int i2)] [.int t0] S rc rs := by
  unfold zf_X17_clock_J24 at h
  refine zw_istore_n hX dX17_clock_24 (by decide) ?_
  refine zw_iload_n hX dX17_clock_25 rfl ?_
  refine zw_aload_n hX dX17_clock_26 rfl ?_
  obtain ⟨b4, g, h⟩ := zb_some h
  refine zw_getr hX zl_X17_16 dX17_clock_27 g ?_
  refine zw_iload_n hX dX17_clock_30 rfl ?_
  obtain ⟨v5, g, h⟩ := zb_some h
  refine zw_xi hX dX17_clock_31 g ?_
  refine zw_icmp_ge (tgt := 39) hX dX17_clock_32 (by decide) (fun c32 => ?_) (fun c32 => ?_)
  · rw [if_pos c32] at h
    refine zw_iconst (v := (0 : Int32)) hX dX17_clock_39 (by decide) ?_
    refine zw_sub (lv' := [(0, .ref a0), (1, .int i1), (3, .int t0)]) (List.forall_mem_cons.mpr ⟨rfl, (List.forall_mem_cons.mpr ⟨rfl, (List.forall_mem_cons.mpr ⟨rfl, zs_nil⟩)⟩)⟩) ?_
    exact zt_X17_clock_J40 hX hr hR hd h
  · rw [if_neg c32] at h
    refine zw_iconst (v := (1 : Int32)) hX dX17_clock_35 (by decide) ?_
    refine zw_goto (tgt := 40) hX dX17_clock_36 (by decide) ?_
    refine zw_sub (lv' := [(0, .ref a0), (1, .int i1), (3, .int t0)]) (List.forall_mem_cons.mpr ⟨rfl, (List.forall_mem_cons.mpr ⟨rfl, (List.forall_mem_cons.mpr ⟨rfl, zs_nil⟩)⟩)⟩) ?_
    exact zt_X17_clock_J40 hX hr hR hd h
set_option maxHeartbeats 4000000 in
set_option maxRecDepth 100000 in
theorem zt_X17_clock {l : Launch} {V : zm_V} {N : Nat} {S : zm_S} {out : (Int32 × zm_S)} {d : Nat} {a0 : Nat} {i1 : Int32} (hd : 1 ≤ d) (h : zf_X17_clock N a0 i1 S = some out) : zm_Met l zk_E V yX17_clock (.code yX17_clock cX17_clock 5 (some .int)) d [.ref a0, .int i1] S 0 0 (zo_i out) zo_x := by
  refine zm_of (by decide +kernel) (Nat.le_of_ble_eq_true rfl) ?_
  intro p e R s m args below meth c hRR hX hr hxt
  have hR : R.frames = d ∧ R.locals = 64 * d := by rw [hRR]; exact ⟨rfl, rfl⟩
  have hX : zm_X p R s m args meth c RX17 "clock" cX17_clock 5 zk_E V 0 0 := hX
  unfold zf_X17_clock at h
  refine zw_sub (lv' := [(0, .ref a0), (1, .int i1)]) (List.forall_mem_cons.mpr ⟨rfl, (List.forall_mem_cons.mpr ⟨rfl, zs_nil⟩)⟩) ?_
  refine zw_aload_n hX dX17_clock_0 rfl ?_
  obtain ⟨v1, g, h⟩ := zb_some h
  refine zw_geti hX zl_X17_79 dX17_clock_1 g ?_
  refine zw_sipush (v := (1440 : Int32)) hX dX17_clock_4 (by decide) ?_
  refine zw_irem hX dX17_clock_7 (by decide) ?_
  refine zw_istore_n hX dX17_clock_8 (by decide) ?_
  refine zw_iload_n hX dX17_clock_9 rfl ?_
  refine zw_aload_n hX dX17_clock_10 rfl ?_
  obtain ⟨b2, g, h⟩ := zb_some h
  refine zw_getr hX zl_X17_13 dX17_clock_11 g ?_
  refine zw_iload_n hX dX17_clock_14 rfl ?_
  obtain ⟨v3, g, h⟩ := zb_some h
  refine zw_xi hX dX17_clock_15 g ?_
  refine zw_icmp_lt (tgt := 23) hX dX17_clock_16 (by decide) (fun c16 => ?_) (fun c16 => ?_)
  · rw [if_pos c16] at h
    refine zw_iconst (v := (0 : Int32)) hX dX17_clock_23 (by decide) ?_
    refine zw_sub (lv' := [(0, .ref a0), (1, .int i1), (2, .int (v1 - v1 / (1440 : Int32) * (1440 : Int32)))]) (List.forall_mem_cons.mpr ⟨rfl, (List.forall_mem_cons.mpr ⟨rfl, (List.forall_mem_cons.mpr ⟨rfl, zs_nil⟩)⟩)⟩) ?_
    exact zt_X17_clock_J24 hX hr hR hd h
  · rw [if_neg c16] at h
    refine zw_iconst (v := (1 : Int32)) hX dX17_clock_19 (by decide) ?_
    refine zw_goto (tgt := 24) hX dX17_clock_20 (by decide) ?_
    refine zw_sub (lv' := [(0, .ref a0), (1, .int i1), (2, .int (v1 - v1 / (1440 : Int32) * (1440 : Int32)))]) (List.forall_mem_cons.mpr ⟨rfl, (List.forall_mem_cons.mpr ⟨rfl, (List.forall_mem_cons.mpr ⟨rfl, zs_nil⟩)⟩)⟩) ?_
    exact zt_X17_clock_J24 hX hr hR hd h
set_option maxHeartbeats 4000000 in
set_option maxRecDepth 100000 in
theorem zt_X17_pulse_J25 {p : Program} {l : Launch} {e : Env} {R : Room} {s : State} {m : MethodId} {args : Array Value} {below : List Frame} {meth : Method} {c : Code} {V : zm_V} {mc ms d rc rs : Nat} (hX : zm_X p R s m args meth c RX17 "pulse" cX17_pulse 3 zk_E V mc ms) (hr : meth.sig.returnType = (some .int)) (hR : R.frames = d ∧ R.locals = 64 * d) (hd : 1 ≤ d) {N : Nat} {a0 : Nat} {i1 : Int32} {i2 : Int32} {out : (Int32 × zm_S)} {S : zm_S} (h : zf_X17_pulse_J25 N a0 i1 i2 S = some out) : zw p l e R s m args below meth c (vx_MQ below (zm_Qc zk_E V (zo_i out)) (zm_XC zk_E V zo_x) args s mc ms (fun q => V.2.2.2.1 ≤ q)) 3 zk_E V mc ms 25 [(0, .ref a0), (1, .int i1), (2, .int i2)] [] S rc rs := by
  unfold zf_X17_pulse_J25 at h
  refine zw_aload_n hX dX17_pulse_25 rfl ?_
  obtain ⟨b1, g, h⟩ := zb_some h
  refine zw_getr hX zl_X17_34 dX17_pulse_26 g ?_
  refine zw_iload_n hX dX17_pulse_29 rfl ?_
  refine zw_iload_n hX dX17_pulse_30 rfl ?_
  obtain ⟨S2, g, h⟩ := zb_some h
  refine zw_si hX dX17_pulse_31 g ?_
  refine zw_aload_n hX dX17_pulse_32 rfl ?_
  obtain ⟨b3, g, h⟩ := zb_some h
  refine zw_getr hX zl_X17_31 dX17_pulse_33 g ?_
  refine zw_iload_n hX dX17_pulse_36 rfl ?_
  obtain ⟨v4, g, h⟩ := zb_some h
  refine zw_xi hX dX17_pulse_37 g ?_
  refine zw_if_gt (tgt := 43) hX dX17_pulse_38 (by decide) (fun c38 => ?_) (fun c38 => ?_)
  · rw [if_pos c38] at h
    refine zw_aload_n hX dX17_pulse_43 rfl ?_
    obtain ⟨b5, g, h⟩ := zb_some h
    refine zw_getr hX zl_X17_31 dX17_pulse_44 g ?_
    refine zw_iload_n hX dX17_pulse_47 rfl ?_
    refine zw_dup2 hX dX17_pulse_48 rfl rfl ?_
    obtain ⟨v6, g, h⟩ := zb_some h
    refine zw_xi hX dX17_pulse_49 g ?_
    refine zw_iconst (v := (1 : Int32)) hX dX17_pulse_50 (by decide) ?_
    refine zw_isub hX dX17_pulse_51 ?_
    obtain ⟨S7, g, h⟩ := zb_some h
    refine zw_si hX dX17_pulse_52 g ?_
    refine zw_iconst (v := (1 : Int32)) hX dX17_pulse_53 (by decide) ?_
    obtain rfl := Option.some.inj h
    exact zw_iret hX hr dX17_pulse_54 rfl ⟨rfl, rfl⟩
  · rw [if_neg c38] at h
    refine zw_iconst (v := (0 : Int32)) hX dX17_pulse_41 (by decide) ?_
    obtain rfl := Option.some.inj h
    exact zw_iret hX hr dX17_pulse_42 rfl ⟨rfl, rfl⟩
set_option maxHeartbeats 4000000 in
set_option maxRecDepth 100000 in
theorem zt_X17_pulse {l : Launch} {V : zm_V} {N : Nat} {S : zm_S} {out : (Int32 × zm_S)} {d : Nat} {a0 : Nat} {i1 : Int32} {i2 : Int32} (hd : 1 ≤ d) (h : zf_X17_pulse N a0 i1 i2 S = some out) : zm_Met l zk_E V yX17_pulse (.code yX17_pulse cX17_pulse 3 (some .int)) d [.ref a0, .int i1, .int i2] S 0 0 (zo_i out) zo_x := by
  refine zm_of (by decide +kernel) (Nat.le_of_ble_eq_true rfl) ?_
  intro p e R s m args below meth c hRR hX hr hxt
  have hR : R.frames = d ∧ R.locals = 64 * d := by rw [hRR]; exact ⟨rfl, rfl⟩
  have hX : zm_X p R s m args meth c RX17 "pulse" cX17_pulse 3 zk_E V 0 0 := hX
  unfold zf_X17_pulse at h
  refine zw_sub (lv' := [(0, .ref a0), (1, .int i1), (2, .int i2)]) (List.forall_mem_cons.mpr ⟨rfl, (List.forall_mem_cons.mpr ⟨rfl, (List.forall_mem_cons.mpr ⟨rfl, zs_nil⟩)⟩)⟩) ?_
  refine zw_iload_n hX dX17_pulse_0 rfl ?_
  refine zw_if_eq (tgt := 25) hX dX17_pulse_1 (by decide) (fun c1 => ?_) (fun c1 => ?_)
  · rw [if_pos c1] at h
    refine zw_sub (lv' := [(0, .ref a0), (1, .int i1), (2, .int i2)]) (List.forall_mem_cons.mpr ⟨rfl, (List.forall_mem_cons.mpr ⟨rfl, (List.forall_mem_cons.mpr ⟨rfl, zs_nil⟩)⟩)⟩) ?_
    exact zt_X17_pulse_J25 hX hr hR hd h
  · rw [if_neg c1] at h
    refine zw_aload_n hX dX17_pulse_4 rfl ?_
    obtain ⟨b8, g, h⟩ := zb_some h
    refine zw_getr hX zl_X17_34 dX17_pulse_5 g ?_
    refine zw_iload_n hX dX17_pulse_8 rfl ?_
    obtain ⟨v9, g, h⟩ := zb_some h
    refine zw_xi hX dX17_pulse_9 g ?_
    refine zw_if_ne (tgt := 25) hX dX17_pulse_10 (by decide) (fun c10 => ?_) (fun c10 => ?_)
    · rw [if_neg c10] at h
      refine zw_sub (lv' := [(0, .ref a0), (1, .int i1), (2, .int i2)]) (List.forall_mem_cons.mpr ⟨rfl, (List.forall_mem_cons.mpr ⟨rfl, (List.forall_mem_cons.mpr ⟨rfl, zs_nil⟩)⟩)⟩) ?_
      exact zt_X17_pulse_J25 hX hr hR hd h
    · rw [if_pos c10] at h
      refine zw_aload_n hX dX17_pulse_13 rfl ?_
      obtain ⟨b10, g, h⟩ := zb_some h
      refine zw_getr hX zl_X17_31 dX17_pulse_14 g ?_
      refine zw_iload_n hX dX17_pulse_17 rfl ?_
      refine zw_aload_n hX dX17_pulse_18 rfl ?_
      obtain ⟨b11, g, h⟩ := zb_some h
      refine zw_getr hX zl_X17_13 dX17_pulse_19 g ?_
      refine zw_iload_n hX dX17_pulse_22 rfl ?_
      obtain ⟨v12, g, h⟩ := zb_some h
      refine zw_xi hX dX17_pulse_23 g ?_
      obtain ⟨S13, g, h⟩ := zb_some h
      refine zw_si hX dX17_pulse_24 g ?_
      refine zw_sub (lv' := [(0, .ref a0), (1, .int i1), (2, .int i2)]) (List.forall_mem_cons.mpr ⟨rfl, (List.forall_mem_cons.mpr ⟨rfl, (List.forall_mem_cons.mpr ⟨rfl, zs_nil⟩)⟩)⟩) ?_
      exact zt_X17_pulse_J25 hX hr hR hd h
set_option maxHeartbeats 4000000 in
set_option maxRecDepth 100000 in
theorem zt_X17_count_J37 {p : Program} {l : Launch} {e : Env} {R : Room} {s : State} {m : MethodId} {args : Array Value} {below : List Frame} {meth : Method} {c : Code} {V : zm_V} {mc ms d rc rs : Nat} (hX : zm_X p R s m args meth c RX17 "count" cX17_count 4 zk_E V mc ms) (hr : meth.sig.returnType = (some .int)) (hR : R.frames = d ∧ R.locals = 64 * d) (hd : 1 ≤ d) {N : Nat} {a0 : Nat} {i1 : Int32} {i2 : Int32} {out : (Int32 × zm_S)} {S : zm_S} (h : zf_X17_count_J37 N a0 i1 i2 S = some out) : zw p l e R s m args below meth c (vx_MQ below (zm_Qc zk_E V (zo_i out)) (zm_XC zk_E V zo_x) args s mc ms (fun q => V.2.2.2.1 ≤ q)) 4 zk_E V mc ms 37 [(0, .ref a0), (1, .int i1), (2, .int i2)] [] S rc rs := by
  unfold zf_X17_count_J37 at h
  refine zw_aload_n hX dX17_count_37 rfl ?_
  obtain ⟨b1, g, h⟩ := zb_some h
  refine zw_getr hX zl_X17_34 dX17_count_38 g ?_
  refine zw_iload_n hX dX17_count_41 rfl ?_
  refine zw_iload_n hX dX17_count_42 rfl ?_
  obtain ⟨S2, g, h⟩ := zb_some h
  refine zw_si hX dX17_count_43 g ?_
  refine zw_aload_n hX dX17_count_44 rfl ?_
  obtain ⟨b3, g, h⟩ := zb_some h
  refine zw_getr hX zl_X17_31 dX17_count_45 g ?_
  refine zw_iload_n hX dX17_count_48 rfl ?_
  obtain ⟨v4, g, h⟩ := zb_some h
  refine zw_xi hX dX17_count_49 g ?_
  obtain rfl := Option.some.inj h
  exact zw_iret hX hr dX17_count_50 rfl ⟨rfl, rfl⟩
set_option maxHeartbeats 4000000 in
set_option maxRecDepth 100000 in
theorem zt_X17_count {l : Launch} {V : zm_V} {N : Nat} {S : zm_S} {out : (Int32 × zm_S)} {d : Nat} {a0 : Nat} {i1 : Int32} {i2 : Int32} {i3 : Int32} (hd : 1 ≤ d) (h : zf_X17_count N a0 i1 i2 i3 S = some out) : zm_Met l zk_E V yX17_count (.code yX17_count cX17_count 4 (some .int)) d [.ref a0, .int i1, .int i2, .int i3] S 0 0 (zo_i out) zo_x := by
  refine zm_of (by decide +kernel) (Nat.le_of_ble_eq_true rfl) ?_
  intro p e R s m args below meth c hRR hX hr hxt
  have hR : R.frames = d ∧ R.locals = 64 * d := by rw [hRR]; exact ⟨rfl, rfl⟩
  have hX : zm_X p R s m args meth c RX17 "count" cX17_count 4 zk_E V 0 0 := hX
  unfold zf_X17_count at h
  refine zw_sub (lv' := [(0, .ref a0), (1, .int i1), (2, .int i2), (3, .int i3)]) (List.forall_mem_cons.mpr ⟨rfl, (List.forall_mem_cons.mpr ⟨rfl, (List.forall_mem_cons.mpr ⟨rfl, (List.forall_mem_cons.mpr ⟨rfl, zs_nil⟩)⟩)⟩)⟩) ?_
  refine zw_iload_n hX dX17_count_0 rfl ?_
  refine zw_if_eq (tgt := 14) hX dX17_count_1 (by decide) (fun c1 => ?_) (fun c1 => ?_)
  · rw [if_pos c1] at h
    refine zw_iload_n hX dX17_count_14 rfl ?_
    refine zw_if_eq (tgt := 37) hX dX17_count_15 (by decide) (fun c15 => ?_) (fun c15 => ?_)
    · rw [if_pos c15] at h
      refine zw_sub (lv' := [(0, .ref a0), (1, .int i1), (2, .int i2)]) (List.forall_mem_cons.mpr ⟨rfl, (List.forall_mem_cons.mpr ⟨rfl, (List.forall_mem_cons.mpr ⟨rfl, zs_nil⟩)⟩)⟩) ?_
      exact zt_X17_count_J37 hX hr hR hd h
    · rw [if_neg c15] at h
      refine zw_aload_n hX dX17_count_18 rfl ?_
      obtain ⟨b5, g, h⟩ := zb_some h
      refine zw_getr hX zl_X17_34 dX17_count_19 g ?_
      refine zw_iload_n hX dX17_count_22 rfl ?_
      obtain ⟨v6, g, h⟩ := zb_some h
      refine zw_xi hX dX17_count_23 g ?_
      refine zw_if_ne (tgt := 37) hX dX17_count_24 (by decide) (fun c24 => ?_) (fun c24 => ?_)
      · rw [if_neg c24] at h
        refine zw_sub (lv' := [(0, .ref a0), (1, .int i1), (2, .int i2)]) (List.forall_mem_cons.mpr ⟨rfl, (List.forall_mem_cons.mpr ⟨rfl, (List.forall_mem_cons.mpr ⟨rfl, zs_nil⟩)⟩)⟩) ?_
        exact zt_X17_count_J37 hX hr hR hd h
      · rw [if_pos c24] at h
        refine zw_aload_n hX dX17_count_27 rfl ?_
        obtain ⟨b7, g, h⟩ := zb_some h
        refine zw_getr hX zl_X17_31 dX17_count_28 g ?_
        refine zw_iload_n hX dX17_count_31 rfl ?_
        refine zw_dup2 hX dX17_count_32 rfl rfl ?_
        obtain ⟨v8, g, h⟩ := zb_some h
        refine zw_xi hX dX17_count_33 g ?_
        refine zw_iconst (v := (1 : Int32)) hX dX17_count_34 (by decide) ?_
        refine zw_iadd hX dX17_count_35 ?_
        obtain ⟨S9, g, h⟩ := zb_some h
        refine zw_si hX dX17_count_36 g ?_
        refine zw_sub (lv' := [(0, .ref a0), (1, .int i1), (2, .int i2)]) (List.forall_mem_cons.mpr ⟨rfl, (List.forall_mem_cons.mpr ⟨rfl, (List.forall_mem_cons.mpr ⟨rfl, zs_nil⟩)⟩)⟩) ?_
        exact zt_X17_count_J37 hX hr hR hd h
  · rw [if_neg c1] at h
    refine zw_aload_n hX dX17_count_4 rfl ?_
    obtain ⟨b10, g, h⟩ := zb_some h
    refine zw_getr hX zl_X17_31 dX17_count_5 g ?_
    refine zw_iload_n hX dX17_count_8 rfl ?_
    refine zw_iconst (v := (0 : Int32)) hX dX17_count_9 (by decide) ?_
    obtain ⟨S11, g, h⟩ := zb_some h
    refine zw_si hX dX17_count_10 g ?_
    refine zw_goto (tgt := 37) hX dX17_count_11 (by decide) ?_
    refine zw_sub (lv' := [(0, .ref a0), (1, .int i1), (2, .int i2)]) (List.forall_mem_cons.mpr ⟨rfl, (List.forall_mem_cons.mpr ⟨rfl, (List.forall_mem_cons.mpr ⟨rfl, zs_nil⟩)⟩)⟩) ?_
    exact zt_X17_count_J37 hX hr hR hd h
set_option maxHeartbeats 4000000 in
set_option maxRecDepth 100000 in
theorem zt_X17_kept_J255 {p : Program} {l : Launch} {e : Env} {R : Room} {s : State} {m : MethodId} {args : Array Value} {below : List Frame} {meth : Method} {c : Code} {V : zm_V} {mc ms d rc rs : Nat} (hX : zm_X p R s m args meth c RX17 "kept" cX17_kept 5 zk_E V mc ms) (hr : meth.sig.returnType = (some .int)) (hR : R.frames = d ∧ R.locals = 64 * d) (hd : 2 ≤ d) {N : Nat} {a0 : Nat} {i1 : Int32} {t0 : Nat} {t1 : Int32} {t2 : Int32} {out : (Int32 × zm_S)} {S : zm_S} (h : zf_X17_kept_J255 N a0 i1 t0 t1 t2 S = some out) : zw p l e R s m args below meth c (vx_MQ below (zm_Qc zk_E V (zo_i out)) (zm_XC zk_E V zo_x) args s mc ms (fun q => V.2.2.2.1 ≤ q)) 5 zk_E V mc ms 255 [(0, .ref a0), (1, .int i1)] [.int t2, .int t1, .ref t0] S rc rs := by
  unfold zf_X17_kept_J255 at h
  obtain ⟨S10, g, h⟩ := zb_some h
  refine zw_si hX dX17_kept_255 g ?_
  refine zw_aload_n hX dX17_kept_256 rfl ?_
  obtain ⟨b11, g, h⟩ := zb_some h
  refine zw_getr hX zl_X17_31 dX17_kept_257 g ?_
  refine zw_iload_n hX dX17_kept_260 rfl ?_
  obtain ⟨v12, g, h⟩ := zb_some h
  refine zw_xi hX dX17_kept_261 g ?_
  obtain rfl := Option.some.inj h
  exact zw_iret hX hr dX17_kept_262 rfl ⟨rfl, rfl⟩
set_option maxHeartbeats 4000000 in
set_option maxRecDepth 100000 in
theorem zt_X17_kept_J226 {p : Program} {l : Launch} {e : Env} {R : Room} {s : State} {m : MethodId} {args : Array Value} {below : List Frame} {meth : Method} {c : Code} {V : zm_V} {mc ms d rc rs : Nat} (hX : zm_X p R s m args meth c RX17 "kept" cX17_kept 5 zk_E V mc ms) (hr : meth.sig.returnType = (some .int)) (hR : R.frames = d ∧ R.locals = 64 * d) (hd : 2 ≤ d) {N : Nat} {a0 : Nat} {i1 : Int32} {t0 : Int32} {out : (Int32 × zm_S)} {S : zm_S} (h : zf_X17_kept_J226 N a0 i1 t0 S = some out) : zw p l e R s m args below meth c (vx_MQ below (zm_Qc zk_E V (zo_i out)) (zm_XC zk_E V zo_x) args s mc ms (fun q => V.2.2.2.1 ≤ q)) 5 zk_E V mc ms 226 [(0, .ref a0), (1, .int i1)] [.int t0] S rc rs := by
  unfold zf_X17_kept_J226 at h
  refine zw_istore hX dX17_kept_226 (by decide) ?_
  refine zw_aload_n hX dX17_kept_228 rfl ?_
  obtain ⟨b5, g, h⟩ := zb_some h
  refine zw_getr hX zl_X17_31 dX17_kept_229 g ?_
  refine zw_iload_n hX dX17_kept_232 rfl ?_
  refine zw_iload hX dX17_kept_233 rfl ?_
  refine zw_aload_n hX dX17_kept_235 rfl ?_
  obtain ⟨b6, g, h⟩ := zb_some h
  refine zw_getr hX zl_X17_13 dX17_kept_236 g ?_
  refine zw_iload_n hX dX17_kept_239 rfl ?_
  obtain ⟨v7, g, h⟩ := zb_some h
  refine zw_xi hX dX17_kept_240 g ?_
  refine zw_icmp_ge (tgt := 249) hX dX17_kept_241 (by decide) (fun c241 => ?_) (fun c241 => ?_)
  · rw [if_pos c241] at h
    refine zw_aload_n hX dX17_kept_249 rfl ?_
    obtain ⟨b8, g, h⟩ := zb_some h
    refine zw_getr hX zl_X17_13 dX17_kept_250 g ?_
    refine zw_iload_n hX dX17_kept_253 rfl ?_
    obtain ⟨v9, g, h⟩ := zb_some h
    refine zw_xi hX dX17_kept_254 g ?_
    refine zw_sub (lv' := [(0, .ref a0), (1, .int i1)]) (List.forall_mem_cons.mpr ⟨rfl, (List.forall_mem_cons.mpr ⟨rfl, zs_nil⟩)⟩) ?_
    exact zt_X17_kept_J255 hX hr hR hd h
  · rw [if_neg c241] at h
    refine zw_iload hX dX17_kept_244 rfl ?_
    refine zw_goto (tgt := 255) hX dX17_kept_246 (by decide) ?_
    refine zw_sub (lv' := [(0, .ref a0), (1, .int i1)]) (List.forall_mem_cons.mpr ⟨rfl, (List.forall_mem_cons.mpr ⟨rfl, zs_nil⟩)⟩) ?_
    exact zt_X17_kept_J255 hX hr hR hd h
set_option maxHeartbeats 4000000 in
set_option maxRecDepth 100000 in
theorem zt_X17_kept_J210 {p : Program} {l : Launch} {e : Env} {R : Room} {s : State} {m : MethodId} {args : Array Value} {below : List Frame} {meth : Method} {c : Code} {V : zm_V} {mc ms d rc rs : Nat} (hX : zm_X p R s m args meth c RX17 "kept" cX17_kept 5 zk_E V mc ms) (hr : meth.sig.returnType = (some .int)) (hR : R.frames = d ∧ R.locals = 64 * d) (hd : 2 ≤ d) {N : Nat} {a0 : Nat} {i1 : Int32} {i2 : Int32} {out : (Int32 × zm_S)} {S : zm_S} (h : zf_X17_kept_J210 N a0 i1 i2 S = some out) : zw p l e R s m args below meth c (vx_MQ below (zm_Qc zk_E V (zo_i out)) (zm_XC zk_E V zo_x) args s mc ms (fun q => V.2.2.2.1 ≤ q)) 5 zk_E V mc ms 210 [(0, .ref a0), (1, .int i1), (2, .int i2)] [] S rc rs := by
  unfold zf_X17_kept_J210 at h
  refine zw_iload_n hX dX17_kept_210 rfl ?_
  refine zw_if_ne (tgt := 218) hX dX17_kept_211 (by decide) (fun c211 => ?_) (fun c211 => ?_)
  · rw [if_neg c211] at h
    refine zw_aload_n hX dX17_kept_218 rfl ?_
    obtain ⟨b3, g, h⟩ := zb_some h
    refine zw_getr hX zl_X17_31 dX17_kept_219 g ?_
    refine zw_iload_n hX dX17_kept_222 rfl ?_
    obtain ⟨v4, g, h⟩ := zb_some h
    refine zw_xi hX dX17_kept_223 g ?_
    refine zw_iconst (v := (1 : Int32)) hX dX17_kept_224 (by decide) ?_
    refine zw_iadd hX dX17_kept_225 ?_
    refine zw_sub (lv' := [(0, .ref a0), (1, .int i1)]) (List.forall_mem_cons.mpr ⟨rfl, (List.forall_mem_cons.mpr ⟨rfl, zs_nil⟩)⟩) ?_
    exact zt_X17_kept_J226 hX hr hR hd h
  · rw [if_pos c211] at h
    refine zw_iconst (v := (0 : Int32)) hX dX17_kept_214 (by decide) ?_
    refine zw_goto (tgt := 226) hX dX17_kept_215 (by decide) ?_
    refine zw_sub (lv' := [(0, .ref a0), (1, .int i1)]) (List.forall_mem_cons.mpr ⟨rfl, (List.forall_mem_cons.mpr ⟨rfl, zs_nil⟩)⟩) ?_
    exact zt_X17_kept_J226 hX hr hR hd h
set_option maxHeartbeats 4000000 in
set_option maxRecDepth 100000 in
theorem zt_X17_kept_J56 {p : Program} {l : Launch} {e : Env} {R : Room} {s : State} {m : MethodId} {args : Array Value} {below : List Frame} {meth : Method} {c : Code} {V : zm_V} {mc ms d rc rs : Nat} (hX : zm_X p R s m args meth c RX17 "kept" cX17_kept 5 zk_E V mc ms) (hr : meth.sig.returnType = (some .int)) (hR : R.frames = d ∧ R.locals = 64 * d) (hd : 2 ≤ d) {N : Nat} {a0 : Nat} {i1 : Int32} {out : (Int32 × zm_S)} {S : zm_S} (h : zf_X17_kept_J56 N a0 i1 S = some out) : zw p l e R s m args below meth c (vx_MQ below (zm_Qc zk_E V (zo_i out)) (zm_XC zk_E V zo_x) args s mc ms (fun q => V.2.2.2.1 ≤ q)) 5 zk_E V mc ms 56 [(0, .ref a0), (1, .int i1)] [] S rc rs := by
  unfold zf_X17_kept_J56 at h
  refine zw_aload_n hX dX17_kept_56 rfl ?_
  obtain ⟨b13, g, h⟩ := zb_some h
  refine zw_getr hX zl_X17_31 dX17_kept_57 g ?_
  refine zw_iload_n hX dX17_kept_60 rfl ?_
  obtain ⟨v14, g, h⟩ := zb_some h
  refine zw_xi hX dX17_kept_61 g ?_
  obtain rfl := Option.some.inj h
  exact zw_iret hX hr dX17_kept_62 rfl ⟨rfl, rfl⟩
set_option maxHeartbeats 4000000 in
set_option maxRecDepth 100000 in
theorem zt_X17_kept_J63 {p : Program} {l : Launch} {e : Env} {R : Room} {s : State} {m : MethodId} {args : Array Value} {below : List Frame} {meth : Method} {c : Code} {V : zm_V} {mc ms d rc rs : Nat} (hX : zm_X p R s m args meth c RX17 "kept" cX17_kept 5 zk_E V mc ms) (hr : meth.sig.returnType = (some .int)) (hR : R.frames = d ∧ R.locals = 64 * d) (hd : 2 ≤ d) {N : Nat} {a0 : Nat} {i1 : Int32} {i2 : Int32} {out : (Int32 × zm_S)} {S : zm_S} (h : zf_X17_kept_J63 N a0 i1 i2 S = some out) : zw p l e R s m args below meth c (vx_MQ below (zm_Qc zk_E V (zo_i out)) (zm_XC zk_E V zo_x) args s mc ms (fun q => V.2.2.2.1 ≤ q)) 5 zk_E V mc ms 63 [(0, .ref a0), (1, .int i1), (2, .int i2)] [] S rc rs := by
  unfold zf_X17_kept_J63 at h
  refine zw_aload_n hX dX17_kept_63 rfl ?_
  refine zw_iload_n hX dX17_kept_64 rfl ?_
  refine zw_iload_n hX dX17_kept_65 rfl ?_
  obtain ⟨_, gi, h⟩ := zb_some h
  obtain ⟨r16, g, h⟩ := zb_some h
  refine zc_Vi (as := [.int i1, .int i2]) hX gi (zt_X17_ramp (d := d - 1) (by omega) g) zl_X17_82 rfl dX17_kept_66 ⟨rfl, rfl, Nat.le_of_ble_eq_true rfl⟩ ⟨by omega, by omega⟩ ?_
  obtain rfl := Option.some.inj h
  exact zw_iret hX hr dX17_kept_69 rfl ⟨rfl, rfl⟩
set_option maxHeartbeats 4000000 in
set_option maxRecDepth 100000 in
theorem zt_X17_kept_J70 {p : Program} {l : Launch} {e : Env} {R : Room} {s : State} {m : MethodId} {args : Array Value} {below : List Frame} {meth : Method} {c : Code} {V : zm_V} {mc ms d rc rs : Nat} (hX : zm_X p R s m args meth c RX17 "kept" cX17_kept 5 zk_E V mc ms) (hr : meth.sig.returnType = (some .int)) (hR : R.frames = d ∧ R.locals = 64 * d) (hd : 2 ≤ d) {N : Nat} {a0 : Nat} {i1 : Int32} {i2 : Int32} {i3 : Int32} {out : (Int32 × zm_S)} {S : zm_S} (h : zf_X17_kept_J70 N a0 i1 i2 i3 S = some out) : zw p l e R s m args below meth c (vx_MQ below (zm_Qc zk_E V (zo_i out)) (zm_XC zk_E V zo_x) args s mc ms (fun q => V.2.2.2.1 ≤ q)) 5 zk_E V mc ms 70 [(0, .ref a0), (1, .int i1), (2, .int i2), (3, .int i3)] [] S rc rs := by
  unfold zf_X17_kept_J70 at h
  refine zw_aload_n hX dX17_kept_70 rfl ?_
  refine zw_iload_n hX dX17_kept_71 rfl ?_
  refine zw_iload_n hX dX17_kept_72 rfl ?_
  refine zw_iload_n hX dX17_kept_73 rfl ?_
  obtain ⟨_, gi, h⟩ := zb_some h
  obtain ⟨r18, g, h⟩ := zb_some h
  refine zc_Vi (as := [.int i1, .int i2, .int i3]) hX gi (zt_X17_count (d := d - 1) (by omega) g) zl_X17_85 rfl dX17_kept_74 ⟨rfl, rfl, Nat.le_of_ble_eq_true rfl⟩ ⟨by omega, by omega⟩ ?_
  obtain rfl := Option.some.inj h
  exact zw_iret hX hr dX17_kept_77 rfl ⟨rfl, rfl⟩
set_option maxHeartbeats 4000000 in
set_option maxRecDepth 100000 in
theorem zt_X17_kept_J105 {p : Program} {l : Launch} {e : Env} {R : Room} {s : State} {m : MethodId} {args : Array Value} {below : List Frame} {meth : Method} {c : Code} {V : zm_V} {mc ms d rc rs : Nat} (hX : zm_X p R s m args meth c RX17 "kept" cX17_kept 5 zk_E V mc ms) (hr : meth.sig.returnType = (some .int)) (hR : R.frames = d ∧ R.locals = 64 * d) (hd : 2 ≤ d) {N : Nat} {a0 : Nat} {i1 : Int32} {t0 : Nat} {t1 : Int32} {t2 : Int32} {out : (Int32 × zm_S)} {S : zm_S} (h : zf_X17_kept_J105 N a0 i1 t0 t1 t2 S = some out) : zw p l e R s m args below meth c (vx_MQ below (zm_Qc zk_E V (zo_i out)) (zm_XC zk_E V zo_x) args s mc ms (fun q => V.2.2.2.1 ≤ q)) 5 zk_E V mc ms 105 [(0, .ref a0), (1, .int i1)] [.int t2, .int t1, .ref t0] S rc rs := by
  unfold zf_X17_kept_J105 at h
  obtain ⟨S22, g, h⟩ := zb_some h
  refine zw_si hX dX17_kept_105 g ?_
  refine zw_aload_n hX dX17_kept_106 rfl ?_
  obtain ⟨b23, g, h⟩ := zb_some h
  refine zw_getr hX zl_X17_31 dX17_kept_107 g ?_
  refine zw_iload_n hX dX17_kept_110 rfl ?_
  obtain ⟨v24, g, h⟩ := zb_some h
  refine zw_xi hX dX17_kept_111 g ?_
  obtain rfl := Option.some.inj h
  exact zw_iret hX hr dX17_kept_112 rfl ⟨rfl, rfl⟩
set_option maxHeartbeats 4000000 in
set_option maxRecDepth 100000 in
theorem zt_X17_kept_J78 {p : Program} {l : Launch} {e : Env} {R : Room} {s : State} {m : MethodId} {args : Array Value} {below : List Frame} {meth : Method} {c : Code} {V : zm_V} {mc ms d rc rs : Nat} (hX : zm_X p R s m args meth c RX17 "kept" cX17_kept 5 zk_E V mc ms) (hr : meth.sig.returnType = (some .int)) (hR : R.frames = d ∧ R.locals = 64 * d) (hd : 2 ≤ d) {N : Nat} {a0 : Nat} {i1 : Int32} {i2 : Int32} {i3 : Int32} {out : (Int32 × zm_S)} {S : zm_S} (h : zf_X17_kept_J78 N a0 i1 i2 i3 S = some out) : zw p l e R s m args below meth c (vx_MQ below (zm_Qc zk_E V (zo_i out)) (zm_XC zk_E V zo_x) args s mc ms (fun q => V.2.2.2.1 ≤ q)) 5 zk_E V mc ms 78 [(0, .ref a0), (1, .int i1), (2, .int i2), (3, .int i3)] [] S rc rs := by
  unfold zf_X17_kept_J78 at h
  refine zw_aload_n hX dX17_kept_78 rfl ?_
  obtain ⟨b19, g, h⟩ := zb_some h
  refine zw_getr hX zl_X17_31 dX17_kept_79 g ?_
  refine zw_iload_n hX dX17_kept_82 rfl ?_
  refine zw_iload_n hX dX17_kept_83 rfl ?_
  refine zw_if_eq (tgt := 91) hX dX17_kept_84 (by decide) (fun c84 => ?_) (fun c84 => ?_)
  · rw [if_pos c84] at h
    refine zw_iload_n hX dX17_kept_91 rfl ?_
    refine zw_if_eq (tgt := 99) hX dX17_kept_92 (by decide) (fun c92 => ?_) (fun c92 => ?_)
    · rw [if_pos c92] at h
      refine zw_aload_n hX dX17_kept_99 rfl ?_
      obtain ⟨b20, g, h⟩ := zb_some h
      refine zw_getr hX zl_X17_31 dX17_kept_100 g ?_
      refine zw_iload_n hX dX17_kept_103 rfl ?_
      obtain ⟨v21, g, h⟩ := zb_some h
      refine zw_xi hX dX17_kept_104 g ?_
      refine zw_sub (lv' := [(0, .ref a0), (1, .int i1)]) (List.forall_mem_cons.mpr ⟨rfl, (List.forall_mem_cons.mpr ⟨rfl, zs_nil⟩)⟩) ?_
      exact zt_X17_kept_J105 hX hr hR hd h
    · rw [if_neg c92] at h
      refine zw_iconst (v := (0 : Int32)) hX dX17_kept_95 (by decide) ?_
      refine zw_goto (tgt := 105) hX dX17_kept_96 (by decide) ?_
      refine zw_sub (lv' := [(0, .ref a0), (1, .int i1)]) (List.forall_mem_cons.mpr ⟨rfl, (List.forall_mem_cons.mpr ⟨rfl, zs_nil⟩)⟩) ?_
      exact zt_X17_kept_J105 hX hr hR hd h
  · rw [if_neg c84] at h
    refine zw_iconst (v := (1 : Int32)) hX dX17_kept_87 (by decide) ?_
    refine zw_goto (tgt := 105) hX dX17_kept_88 (by decide) ?_
    refine zw_sub (lv' := [(0, .ref a0), (1, .int i1)]) (List.forall_mem_cons.mpr ⟨rfl, (List.forall_mem_cons.mpr ⟨rfl, zs_nil⟩)⟩) ?_
    exact zt_X17_kept_J105 hX hr hR hd h
set_option maxHeartbeats 4000000 in
set_option maxRecDepth 100000 in
theorem zt_X17_kept_J113 {p : Program} {l : Launch} {e : Env} {R : Room} {s : State} {m : MethodId} {args : Array Value} {below : List Frame} {meth : Method} {c : Code} {V : zm_V} {mc ms d rc rs : Nat} (hX : zm_X p R s m args meth c RX17 "kept" cX17_kept 5 zk_E V mc ms) (hr : meth.sig.returnType = (some .int)) (hR : R.frames = d ∧ R.locals = 64 * d) (hd : 2 ≤ d) {N : Nat} {a0 : Nat} {i1 : Int32} {out : (Int32 × zm_S)} {S : zm_S} (h : zf_X17_kept_J113 N a0 i1 S = some out) : zw p l e R s m args below meth c (vx_MQ below (zm_Qc zk_E V (zo_i out)) (zm_XC zk_E V zo_x) args s mc ms (fun q => V.2.2.2.1 ≤ q)) 5 zk_E V mc ms 113 [(0, .ref a0), (1, .int i1)] [] S rc rs := by
  unfold zf_X17_kept_J113 at h
  refine zw_aload_n hX dX17_kept_113 rfl ?_
  refine zw_iload_n hX dX17_kept_114 rfl ?_
  obtain ⟨_, gi, h⟩ := zb_some h
  obtain ⟨r26, g, h⟩ := zb_some h
  refine zc_Vi (as := [.int i1]) hX gi (zt_X17_clock (d := d - 1) (by omega) g) zl_X17_89 rfl dX17_kept_115 ⟨rfl, rfl, Nat.le_of_ble_eq_true rfl⟩ ⟨by omega, by omega⟩ ?_
  obtain rfl := Option.some.inj h
  exact zw_iret hX hr dX17_kept_118 rfl ⟨rfl, rfl⟩
set_option maxHeartbeats 4000000 in
set_option maxRecDepth 100000 in
theorem zt_X17_kept_J119 {p : Program} {l : Launch} {e : Env} {R : Room} {s : State} {m : MethodId} {args : Array Value} {below : List Frame} {meth : Method} {c : Code} {V : zm_V} {mc ms d rc rs : Nat} (hX : zm_X p R s m args meth c RX17 "kept" cX17_kept 5 zk_E V mc ms) (hr : meth.sig.returnType = (some .int)) (hR : R.frames = d ∧ R.locals = 64 * d) (hd : 2 ≤ d) {N : Nat} {a0 : Nat} {i1 : Int32} {i2 : Int32} {out : (Int32 × zm_S)} {S : zm_S} (h : zf_X17_kept_J119 N a0 i1 i2 S = some out) : zw p l e R s m args below meth c (vx_MQ below (zm_Qc zk_E V (zo_i out)) (zm_XC zk_E V zo_x) args s mc ms (fun q => V.2.2.2.1 ≤ q)) 5 zk_E V mc ms 119 [(0, .ref a0), (1, .int i1), (2, .int i2)] [] S rc rs := by
  unfold zf_X17_kept_J119 at h
  refine zw_aload_n hX dX17_kept_119 rfl ?_
  refine zw_iload_n hX dX17_kept_120 rfl ?_
  refine zw_iload_n hX dX17_kept_121 rfl ?_
  obtain ⟨_, gi, h⟩ := zb_some h
  obtain ⟨r28, g, h⟩ := zb_some h
  refine zc_Vi (as := [.int i1, .int i2]) hX gi (zt_X17_pulse (d := d - 1) (by omega) g) zl_X17_92 rfl dX17_kept_122 ⟨rfl, rfl, Nat.le_of_ble_eq_true rfl⟩ ⟨by omega, by omega⟩ ?_
  obtain rfl := Option.some.inj h
  exact zw_iret hX hr dX17_kept_125 rfl ⟨rfl, rfl⟩
set_option maxHeartbeats 4000000 in
set_option maxRecDepth 100000 in
theorem zt_X17_kept_J126 {p : Program} {l : Launch} {e : Env} {R : Room} {s : State} {m : MethodId} {args : Array Value} {below : List Frame} {meth : Method} {c : Code} {V : zm_V} {mc ms d rc rs : Nat} (hX : zm_X p R s m args meth c RX17 "kept" cX17_kept 5 zk_E V mc ms) (hr : meth.sig.returnType = (some .int)) (hR : R.frames = d ∧ R.locals = 64 * d) (hd : 2 ≤ d) {N : Nat} {a0 : Nat} {i1 : Int32} {i2 : Int32} {out : (Int32 × zm_S)} {S : zm_S} (h : zf_X17_kept_J126 N a0 i1 i2 S = some out) : zw p l e R s m args below meth c (vx_MQ below (zm_Qc zk_E V (zo_i out)) (zm_XC zk_E V zo_x) args s mc ms (fun q => V.2.2.2.1 ≤ q)) 5 zk_E V mc ms 126 [(0, .ref a0), (1, .int i1), (2, .int i2)] [] S rc rs := by
  unfold zf_X17_kept_J126 at h
  refine zw_iload_n hX dX17_kept_126 rfl ?_
  refine zw_aload_n hX dX17_kept_127 rfl ?_
  obtain ⟨b29, g, h⟩ := zb_some h
  refine zw_getr hX zl_X17_13 dX17_kept_128 g ?_
  refine zw_iload_n hX dX17_kept_131 rfl ?_
  obtain ⟨v30, g, h⟩ := zb_some h
  refine zw_xi hX dX17_kept_132 g ?_
  refine zw_icmp_ge (tgt := 145) hX dX17_kept_133 (by decide) (fun c133 => ?_) (fun c133 => ?_)
  · rw [if_pos c133] at h
    refine zw_iload_n hX dX17_kept_145 rfl ?_
    refine zw_aload_n hX dX17_kept_146 rfl ?_
    obtain ⟨b31, g, h⟩ := zb_some h
    refine zw_getr hX zl_X17_16 dX17_kept_147 g ?_
    refine zw_iload_n hX dX17_kept_150 rfl ?_
    obtain ⟨v32, g, h⟩ := zb_some h
    refine zw_xi hX dX17_kept_151 g ?_
    refine zw_icmp_le (tgt := 164) hX dX17_kept_152 (by decide) (fun c152 => ?_) (fun c152 => ?_)
    · rw [if_pos c152] at h
      refine zw_iload_n hX dX17_kept_164 rfl ?_
      obtain rfl := Option.some.inj h
      exact zw_iret hX hr dX17_kept_165 rfl ⟨rfl, rfl⟩
    · rw [if_neg c152] at h
      refine zw_aload_n hX dX17_kept_155 rfl ?_
      obtain ⟨b33, g, h⟩ := zb_some h
      refine zw_getr hX zl_X17_16 dX17_kept_156 g ?_
      refine zw_iload_n hX dX17_kept_159 rfl ?_
      obtain ⟨v34, g, h⟩ := zb_some h
      refine zw_xi hX dX17_kept_160 g ?_
      refine zw_goto (tgt := 165) hX dX17_kept_161 (by decide) ?_
      obtain rfl := Option.some.inj h
      exact zw_iret hX hr dX17_kept_165 rfl ⟨rfl, rfl⟩
  · rw [if_neg c133] at h
    refine zw_aload_n hX dX17_kept_136 rfl ?_
    obtain ⟨b35, g, h⟩ := zb_some h
    refine zw_getr hX zl_X17_13 dX17_kept_137 g ?_
    refine zw_iload_n hX dX17_kept_140 rfl ?_
    obtain ⟨v36, g, h⟩ := zb_some h
    refine zw_xi hX dX17_kept_141 g ?_
    refine zw_goto (tgt := 165) hX dX17_kept_142 (by decide) ?_
    obtain rfl := Option.some.inj h
    exact zw_iret hX hr dX17_kept_165 rfl ⟨rfl, rfl⟩
set_option maxHeartbeats 4000000 in
set_option maxRecDepth 100000 in
theorem zt_X17_kept_J166 {p : Program} {l : Launch} {e : Env} {R : Room} {s : State} {m : MethodId} {args : Array Value} {below : List Frame} {meth : Method} {c : Code} {V : zm_V} {mc ms d rc rs : Nat} (hX : zm_X p R s m args meth c RX17 "kept" cX17_kept 5 zk_E V mc ms) (hr : meth.sig.returnType = (some .int)) (hR : R.frames = d ∧ R.locals = 64 * d) (hd : 2 ≤ d) {N : Nat} {a0 : Nat} {i1 : Int32} {i2 : Int32} {i3 : Int32} {out : (Int32 × zm_S)} {S : zm_S} (h : zf_X17_kept_J166 N a0 i1 i2 i3 S = some out) : zw p l e R s m args below meth c (vx_MQ below (zm_Qc zk_E V (zo_i out)) (zm_XC zk_E V zo_x) args s mc ms (fun q => V.2.2.2.1 ≤ q)) 5 zk_E V mc ms 166 [(0, .ref a0), (1, .int i1), (2, .int i2), (3, .int i3)] [] S rc rs := by
  unfold zf_X17_kept_J166 at h
  refine zw_iload_n hX dX17_kept_166 rfl ?_
  refine zw_if_eq (tgt := 179) hX dX17_kept_167 (by decide) (fun c167 => ?_) (fun c167 => ?_)
  · rw [if_pos c167] at h
    refine zw_iload_n hX dX17_kept_179 rfl ?_
    obtain rfl := Option.some.inj h
    exact zw_iret hX hr dX17_kept_180 rfl ⟨rfl, rfl⟩
  · rw [if_neg c167] at h
    refine zw_aload_n hX dX17_kept_170 rfl ?_
    obtain ⟨b37, g, h⟩ := zb_some h
    refine zw_getr hX zl_X17_28 dX17_kept_171 g ?_
    refine zw_iload_n hX dX17_kept_174 rfl ?_
    obtain ⟨v38, g, h⟩ := zb_some h
    refine zw_xi hX dX17_kept_175 g ?_
    refine zw_goto (tgt := 180) hX dX17_kept_176 (by decide) ?_
    obtain rfl := Option.some.inj h
    exact zw_iret hX hr dX17_kept_180 rfl ⟨rfl, rfl⟩
set_option maxHeartbeats 4000000 in
set_option maxRecDepth 100000 in
theorem zt_X17_kept_J202 {p : Program} {l : Launch} {e : Env} {R : Room} {s : State} {m : MethodId} {args : Array Value} {below : List Frame} {meth : Method} {c : Code} {V : zm_V} {mc ms d rc rs : Nat} (hX : zm_X p R s m args meth c RX17 "kept" cX17_kept 5 zk_E V mc ms) (hr : meth.sig.returnType = (some .int)) (hR : R.frames = d ∧ R.locals = 64 * d) (hd : 2 ≤ d) {N : Nat} {a0 : Nat} {i1 : Int32} {t0 : Nat} {t1 : Int32} {t2 : Int32} {out : (Int32 × zm_S)} {S : zm_S} (h : zf_X17_kept_J202 N a0 i1 t0 t1 t2 S = some out) : zw p l e R s m args below meth c (vx_MQ below (zm_Qc zk_E V (zo_i out)) (zm_XC zk_E V zo_x) args s mc ms (fun q => V.2.2.2.1 ≤ q)) 5 zk_E V mc ms 202 [(0, .ref a0), (1, .int i1)] [.int t2, .int t1, .ref t0] S rc rs := by
  unfold zf_X17_kept_J202 at h
  obtain ⟨S42, g, h⟩ := zb_some h
  refine zw_si hX dX17_kept_202 g ?_
  refine zw_aload_n hX dX17_kept_203 rfl ?_
  obtain ⟨b43, g, h⟩ := zb_some h
  refine zw_getr hX zl_X17_31 dX17_kept_204 g ?_
  refine zw_iload_n hX dX17_kept_207 rfl ?_
  obtain ⟨v44, g, h⟩ := zb_some h
  refine zw_xi hX dX17_kept_208 g ?_
  obtain rfl := Option.some.inj h
  exact zw_iret hX hr dX17_kept_209 rfl ⟨rfl, rfl⟩
set_option maxHeartbeats 4000000 in
set_option maxRecDepth 100000 in
theorem zt_X17_kept_J181 {p : Program} {l : Launch} {e : Env} {R : Room} {s : State} {m : MethodId} {args : Array Value} {below : List Frame} {meth : Method} {c : Code} {V : zm_V} {mc ms d rc rs : Nat} (hX : zm_X p R s m args meth c RX17 "kept" cX17_kept 5 zk_E V mc ms) (hr : meth.sig.returnType = (some .int)) (hR : R.frames = d ∧ R.locals = 64 * d) (hd : 2 ≤ d) {N : Nat} {a0 : Nat} {i1 : Int32} {i2 : Int32} {i3 : Int32} {out : (Int32 × zm_S)} {S : zm_S} (h : zf_X17_kept_J181 N a0 i1 i2 i3 S = some out) : zw p l e R s m args below meth c (vx_MQ below (zm_Qc zk_E V (zo_i out)) (zm_XC zk_E V zo_x) args s mc ms (fun q => V.2.2.2.1 ≤ q)) 5 zk_E V mc ms 181 [(0, .ref a0), (1, .int i1), (2, .int i2), (3, .int i3)] [] S rc rs := by
  unfold zf_X17_kept_J181 at h
  refine zw_aload_n hX dX17_kept_181 rfl ?_
  obtain ⟨b39, g, h⟩ := zb_some h
  refine zw_getr hX zl_X17_31 dX17_kept_182 g ?_
  refine zw_iload_n hX dX17_kept_185 rfl ?_
  refine zw_iload_n hX dX17_kept_186 rfl ?_
  refine zw_if_eq (tgt := 194) hX dX17_kept_187 (by decide) (fun c187 => ?_) (fun c187 => ?_)
  · rw [if_pos c187] at h
    refine zw_aload_n hX dX17_kept_194 rfl ?_
    obtain ⟨b40, g, h⟩ := zb_some h
    refine zw_getr hX zl_X17_31 dX17_kept_195 g ?_
    refine zw_iload_n hX dX17_kept_198 rfl ?_
    obtain ⟨v41, g, h⟩ := zb_some h
    refine zw_xi hX dX17_kept_199 g ?_
    refine zw_iload_n hX dX17_kept_200 rfl ?_
    refine zw_iadd hX dX17_kept_201 ?_
    refine zw_sub (lv' := [(0, .ref a0), (1, .int i1)]) (List.forall_mem_cons.mpr ⟨rfl, (List.forall_mem_cons.mpr ⟨rfl, zs_nil⟩)⟩) ?_
    exact zt_X17_kept_J202 hX hr hR hd h
  · rw [if_neg c187] at h
    refine zw_iconst (v := (0 : Int32)) hX dX17_kept_190 (by decide) ?_
    refine zw_goto (tgt := 202) hX dX17_kept_191 (by decide) ?_
    refine zw_sub (lv' := [(0, .ref a0), (1, .int i1)]) (List.forall_mem_cons.mpr ⟨rfl, (List.forall_mem_cons.mpr ⟨rfl, zs_nil⟩)⟩) ?_
    exact zt_X17_kept_J202 hX hr hR hd h
set_option maxHeartbeats 4000000 in
set_option maxRecDepth 100000 in
theorem zt_X17_kept {l : Launch} {V : zm_V} {N : Nat} {S : zm_S} {out : (Int32 × zm_S)} {d : Nat} {a0 : Nat} {i1 : Int32} {i2 : Int32} {i3 : Int32} (hd : 2 ≤ d) (h : zf_X17_kept N a0 i1 i2 i3 S = some out) : zm_Met l zk_E V yX17_kept (.code yX17_kept cX17_kept 5 (some .int)) d [.ref a0, .int i1, .int i2, .int i3] S 0 0 (zo_i out) zo_x := by
  refine zm_of (by decide +kernel) (Nat.le_of_ble_eq_true rfl) ?_
  intro p e R s m args below meth c hRR hX hr hxt
  have hR : R.frames = d ∧ R.locals = 64 * d := by rw [hRR]; exact ⟨rfl, rfl⟩
  have hX : zm_X p R s m args meth c RX17 "kept" cX17_kept 5 zk_E V 0 0 := hX
  unfold zf_X17_kept at h
  refine zw_sub (lv' := [(0, .ref a0), (1, .int i1), (2, .int i2), (3, .int i3)]) (List.forall_mem_cons.mpr ⟨rfl, (List.forall_mem_cons.mpr ⟨rfl, (List.forall_mem_cons.mpr ⟨rfl, (List.forall_mem_cons.mpr ⟨rfl, zs_nil⟩)⟩)⟩)⟩) ?_
  refine zw_aload_n hX dX17_kept_0 rfl ?_
  obtain ⟨b1, g, h⟩ := zb_some h
  refine zw_getr hX zl_X17_7 dX17_kept_1 g ?_
  refine zw_iload_n hX dX17_kept_4 rfl ?_
  obtain ⟨v2, g, h⟩ := zb_some h
  refine zw_xi hX dX17_kept_5 g ?_
  by_cases c6_0 : (v2).toInt = 16
  · rw [if_pos c6_0] at h
    refine zw_tableIn (off := 50) (tgt := 56) hX dX17_kept_6 (by rw [c6_0]; decide) (by rw [c6_0]; decide) (by rw [c6_0]; decide) (by decide) ?_
    refine zw_sub (lv' := [(0, .ref a0), (1, .int i1)]) (List.forall_mem_cons.mpr ⟨rfl, (List.forall_mem_cons.mpr ⟨rfl, zs_nil⟩)⟩) ?_
    exact zt_X17_kept_J56 hX hr hR hd h
  rw [if_neg c6_0] at h
  by_cases c6_1 : (v2).toInt = 17
  · rw [if_pos c6_1] at h
    refine zw_tableIn (off := 57) (tgt := 63) hX dX17_kept_6 (by rw [c6_1]; decide) (by rw [c6_1]; decide) (by rw [c6_1]; decide) (by decide) ?_
    refine zw_sub (lv' := [(0, .ref a0), (1, .int i1), (2, .int i2)]) (List.forall_mem_cons.mpr ⟨rfl, (List.forall_mem_cons.mpr ⟨rfl, (List.forall_mem_cons.mpr ⟨rfl, zs_nil⟩)⟩)⟩) ?_
    exact zt_X17_kept_J63 hX hr hR hd h
  rw [if_neg c6_1] at h
  by_cases c6_2 : (v2).toInt = 18
  · rw [if_pos c6_2] at h
    refine zw_tableIn (off := 64) (tgt := 70) hX dX17_kept_6 (by rw [c6_2]; decide) (by rw [c6_2]; decide) (by rw [c6_2]; decide) (by decide) ?_
    refine zw_sub (lv' := [(0, .ref a0), (1, .int i1), (2, .int i2), (3, .int i3)]) (List.forall_mem_cons.mpr ⟨rfl, (List.forall_mem_cons.mpr ⟨rfl, (List.forall_mem_cons.mpr ⟨rfl, (List.forall_mem_cons.mpr ⟨rfl, zs_nil⟩)⟩)⟩)⟩) ?_
    exact zt_X17_kept_J70 hX hr hR hd h
  rw [if_neg c6_2] at h
  by_cases c6_3 : (v2).toInt = 19
  · rw [if_pos c6_3] at h
    refine zw_tableIn (off := 72) (tgt := 78) hX dX17_kept_6 (by rw [c6_3]; decide) (by rw [c6_3]; decide) (by rw [c6_3]; decide) (by decide) ?_
    refine zw_sub (lv' := [(0, .ref a0), (1, .int i1), (2, .int i2), (3, .int i3)]) (List.forall_mem_cons.mpr ⟨rfl, (List.forall_mem_cons.mpr ⟨rfl, (List.forall_mem_cons.mpr ⟨rfl, (List.forall_mem_cons.mpr ⟨rfl, zs_nil⟩)⟩)⟩)⟩) ?_
    exact zt_X17_kept_J78 hX hr hR hd h
  rw [if_neg c6_3] at h
  by_cases c6_4 : (v2).toInt = 20
  · rw [if_pos c6_4] at h
    refine zw_tableIn (off := 107) (tgt := 113) hX dX17_kept_6 (by rw [c6_4]; decide) (by rw [c6_4]; decide) (by rw [c6_4]; decide) (by decide) ?_
    refine zw_sub (lv' := [(0, .ref a0), (1, .int i1)]) (List.forall_mem_cons.mpr ⟨rfl, (List.forall_mem_cons.mpr ⟨rfl, zs_nil⟩)⟩) ?_
    exact zt_X17_kept_J113 hX hr hR hd h
  rw [if_neg c6_4] at h
  by_cases c6_5 : (v2).toInt = 21
  · rw [if_pos c6_5] at h
    refine zw_tableIn (off := 113) (tgt := 119) hX dX17_kept_6 (by rw [c6_5]; decide) (by rw [c6_5]; decide) (by rw [c6_5]; decide) (by decide) ?_
    refine zw_sub (lv' := [(0, .ref a0), (1, .int i1), (2, .int i2)]) (List.forall_mem_cons.mpr ⟨rfl, (List.forall_mem_cons.mpr ⟨rfl, (List.forall_mem_cons.mpr ⟨rfl, zs_nil⟩)⟩)⟩) ?_
    exact zt_X17_kept_J119 hX hr hR hd h
  rw [if_neg c6_5] at h
  by_cases c6_6 : (v2).toInt = 22
  · rw [if_pos c6_6] at h
    refine zw_tableIn (off := 120) (tgt := 126) hX dX17_kept_6 (by rw [c6_6]; decide) (by rw [c6_6]; decide) (by rw [c6_6]; decide) (by decide) ?_
    refine zw_sub (lv' := [(0, .ref a0), (1, .int i1), (2, .int i2)]) (List.forall_mem_cons.mpr ⟨rfl, (List.forall_mem_cons.mpr ⟨rfl, (List.forall_mem_cons.mpr ⟨rfl, zs_nil⟩)⟩)⟩) ?_
    exact zt_X17_kept_J126 hX hr hR hd h
  rw [if_neg c6_6] at h
  by_cases c6_7 : (v2).toInt = 23
  · rw [if_pos c6_7] at h
    refine zw_tableIn (off := 160) (tgt := 166) hX dX17_kept_6 (by rw [c6_7]; decide) (by rw [c6_7]; decide) (by rw [c6_7]; decide) (by decide) ?_
    refine zw_sub (lv' := [(0, .ref a0), (1, .int i1), (2, .int i2), (3, .int i3)]) (List.forall_mem_cons.mpr ⟨rfl, (List.forall_mem_cons.mpr ⟨rfl, (List.forall_mem_cons.mpr ⟨rfl, (List.forall_mem_cons.mpr ⟨rfl, zs_nil⟩)⟩)⟩)⟩) ?_
    exact zt_X17_kept_J166 hX hr hR hd h
  rw [if_neg c6_7] at h
  by_cases c6_8 : (v2).toInt = 24
  · rw [if_pos c6_8] at h
    refine zw_tableIn (off := 175) (tgt := 181) hX dX17_kept_6 (by rw [c6_8]; decide) (by rw [c6_8]; decide) (by rw [c6_8]; decide) (by decide) ?_
    refine zw_sub (lv' := [(0, .ref a0), (1, .int i1), (2, .int i2), (3, .int i3)]) (List.forall_mem_cons.mpr ⟨rfl, (List.forall_mem_cons.mpr ⟨rfl, (List.forall_mem_cons.mpr ⟨rfl, (List.forall_mem_cons.mpr ⟨rfl, zs_nil⟩)⟩)⟩)⟩) ?_
    exact zt_X17_kept_J181 hX hr hR hd h
  rw [if_neg c6_8] at h
  refine zw_tableOut (tgt := 210) hX dX17_kept_6 (by omega) (by decide) ?_
  refine zw_sub (lv' := [(0, .ref a0), (1, .int i1), (2, .int i2)]) (List.forall_mem_cons.mpr ⟨rfl, (List.forall_mem_cons.mpr ⟨rfl, (List.forall_mem_cons.mpr ⟨rfl, zs_nil⟩)⟩)⟩) ?_
  exact zt_X17_kept_J210 hX hr hR hd h

