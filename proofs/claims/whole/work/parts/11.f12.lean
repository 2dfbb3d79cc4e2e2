/-! ===== functions of methods, by program (wip/whole/tools/gen11.py) ===== -/
theorem dX15_factOf_0 : decode cX15_factOf 0 = .ok (.iconst (-1), 1) := by decide +kernel
theorem dX15_factOf_1 : decode cX15_factOf 1 = .ok (.istore_n 3, 1) := by decide +kernel
theorem dX15_factOf_2 : decode cX15_factOf 2 = .ok (.iconst 0, 1) := by decide +kernel
theorem dX15_factOf_3 : decode cX15_factOf 3 = .ok (.istore 4, 2) := by decide +kernel
theorem dX15_factOf_5 : decode cX15_factOf 5 = .ok (.iload 4, 2) := by decide +kernel
theorem dX15_factOf_7 : decode cX15_factOf 7 = .ok (.aload_n 0, 1) := by decide +kernel
theorem dX15_factOf_8 : decode cX15_factOf 8 = .ok (.getfield 189, 3) := by decide +kernel
theorem dX15_factOf_11 : decode cX15_factOf 11 = .ok (.if_icmp .ge 28, 3) := by decide +kernel
theorem dX15_factOf_14 : decode cX15_factOf 14 = .ok (.aload_n 0, 1) := by decide +kernel
theorem dX15_factOf_15 : decode cX15_factOf 15 = .ok (.getfield 13, 3) := by decide +kernel
theorem dX15_factOf_18 : decode cX15_factOf 18 = .ok (.iload 4, 2) := by decide +kernel
theorem dX15_factOf_20 : decode cX15_factOf 20 = .ok (.laload, 1) := by decide +kernel
theorem dX15_factOf_21 : decode cX15_factOf 21 = .ok (.lload_n 1, 1) := by decide +kernel
theorem dX15_factOf_22 : decode cX15_factOf 22 = .ok (.lcmp, 1) := by decide +kernel
theorem dX15_factOf_23 : decode cX15_factOf 23 = .ok (.ifCond .ne 8, 3) := by decide +kernel
theorem dX15_factOf_31 : decode cX15_factOf 31 = .ok (.iload_n 3, 1) := by decide +kernel
theorem dX15_factOf_32 : decode cX15_factOf 32 = .ok (.istore_n 3, 1) := by decide +kernel
theorem dX15_factOf_33 : decode cX15_factOf 33 = .ok (.iinc 4 1, 3) := by decide +kernel
theorem dX15_factOf_36 : decode cX15_factOf 36 = .ok (.goto (-31), 3) := by decide +kernel
theorem dX15_factOf_26 : decode cX15_factOf 26 = .ok (.iload 4, 2) := by decide +kernel
theorem dX15_factOf_28 : decode cX15_factOf 28 = .ok (.goto 4, 3) := by decide +kernel
theorem dX15_factOf_39 : decode cX15_factOf 39 = .ok (.iload_n 3, 1) := by decide +kernel
theorem dX15_factOf_40 : decode cX15_factOf 40 = .ok (.ireturn, 1) := by decide +kernel
theorem dX15_fact_0 : decode cX15_fact 0 = .ok (.aload_n 0, 1) := by decide +kernel
theorem dX15_fact_1 : decode cX15_fact 1 = .ok (.lload_n 1, 1) := by decide +kernel
theorem dX15_fact_2 : decode cX15_fact 2 = .ok (.invokevirtual 192, 3) := by decide +kernel
theorem dX15_fact_5 : decode cX15_fact 5 = .ok (.istore 4, 2) := by decide +kernel
theorem dX15_fact_7 : decode cX15_fact 7 = .ok (.iload 4, 2) := by decide +kernel
theorem dX15_fact_9 : decode cX15_fact 9 = .ok (.ifCond .ge 9, 3) := by decide +kernel
theorem dX15_fact_18 : decode cX15_fact 18 = .ok (.aload_n 0, 1) := by decide +kernel
theorem dX15_fact_19 : decode cX15_fact 19 = .ok (.getfield 17, 3) := by decide +kernel
theorem dX15_fact_22 : decode cX15_fact 22 = .ok (.iload 4, 2) := by decide +kernel
theorem dX15_fact_24 : decode cX15_fact 24 = .ok (.iaload, 1) := by decide +kernel
theorem dX15_fact_25 : decode cX15_fact 25 = .ok (.i2l, 1) := by decide +kernel
theorem dX15_fact_26 : decode cX15_fact 26 = .ok (.lstore 5, 2) := by decide +kernel
theorem dX15_fact_28 : decode cX15_fact 28 = .ok (.iload 4, 2) := by decide +kernel
theorem dX15_fact_30 : decode cX15_fact 30 = .ok (.ifCond .ge 19, 3) := by decide +kernel
theorem dX15_fact_49 : decode cX15_fact 49 = .ok (.aload_n 0, 1) := by decide +kernel
theorem dX15_fact_50 : decode cX15_fact 50 = .ok (.getfield 13, 3) := by decide +kernel
theorem dX15_fact_53 : decode cX15_fact 53 = .ok (.iload 4, 2) := by decide +kernel
theorem dX15_fact_55 : decode cX15_fact 55 = .ok (.lload_n 1, 1) := by decide +kernel
theorem dX15_fact_56 : decode cX15_fact 56 = .ok (.lastore, 1) := by decide +kernel
theorem dX15_fact_57 : decode cX15_fact 57 = .ok (.aload_n 0, 1) := by decide +kernel
theorem dX15_fact_58 : decode cX15_fact 58 = .ok (.getfield 17, 3) := by decide +kernel
theorem dX15_fact_61 : decode cX15_fact 61 = .ok (.iload 4, 2) := by decide +kernel
theorem dX15_fact_63 : decode cX15_fact 63 = .ok (.iload_n 3, 1) := by decide +kernel
theorem dX15_fact_64 : decode cX15_fact 64 = .ok (.iastore, 1) := by decide +kernel
theorem dX15_fact_65 : decode cX15_fact 65 = .ok (.lload 5, 2) := by decide +kernel
theorem dX15_fact_67 : decode cX15_fact 67 = .ok (.lreturn, 1) := by decide +kernel
theorem dX15_fact_33 : decode cX15_fact 33 = .ok (.aload_n 0, 1) := by decide +kernel
theorem dX15_fact_34 : decode cX15_fact 34 = .ok (.getfield 189, 3) := by decide +kernel
theorem dX15_fact_37 : decode cX15_fact 37 = .ok (.istore 4, 2) := by decide +kernel
theorem dX15_fact_39 : decode cX15_fact 39 = .ok (.aload_n 0, 1) := by decide +kernel
theorem dX15_fact_40 : decode cX15_fact 40 = .ok (.dup, 1) := by decide +kernel
theorem dX15_fact_41 : decode cX15_fact 41 = .ok (.getfield 189, 3) := by decide +kernel
theorem dX15_fact_44 : decode cX15_fact 44 = .ok (.iconst 1, 1) := by decide +kernel
theorem dX15_fact_45 : decode cX15_fact 45 = .ok (.iadd, 1) := by decide +kernel
theorem dX15_fact_46 : decode cX15_fact 46 = .ok (.putfield 189, 3) := by decide +kernel
theorem dX15_fact_12 : decode cX15_fact 12 = .ok (.ldc2_w 196, 3) := by decide +kernel
theorem dX15_fact_15 : decode cX15_fact 15 = .ok (.goto 11, 3) := by decide +kernel
theorem dX15_opens_0 : decode cX15_opens 0 = .ok (.aload_n 0, 1) := by decide +kernel
theorem dX15_opens_1 : decode cX15_opens 1 = .ok (.getfield 198, 3) := by decide +kernel
theorem dX15_opens_4 : decode cX15_opens 4 = .ok (.ifCond .ne 13, 3) := by decide +kernel
theorem dX15_opens_17 : decode cX15_opens 17 = .ok (.return_, 1) := by decide +kernel
theorem dX15_opens_7 : decode cX15_opens 7 = .ok (.aload_n 0, 1) := by decide +kernel
theorem dX15_opens_8 : decode cX15_opens 8 = .ok (.iload_n 1, 1) := by decide +kernel
theorem dX15_opens_9 : decode cX15_opens 9 = .ok (.putfield 198, 3) := by decide +kernel
theorem dX15_opens_12 : decode cX15_opens 12 = .ok (.aload_n 0, 1) := by decide +kernel
theorem dX15_opens_13 : decode cX15_opens 13 = .ok (.lload_n 2, 1) := by decide +kernel
theorem dX15_opens_14 : decode cX15_opens 14 = .ok (.putfield 201, 3) := by decide +kernel
theorem dX15_times_0 : decode cX15_times 0 = .ok (.lload_n 1, 1) := by decide +kernel
theorem dX15_times_1 : decode cX15_times 1 = .ok (.lload_n 3, 1) := by decide +kernel
theorem dX15_times_2 : decode cX15_times 2 = .ok (.lmul, 1) := by decide +kernel
theorem dX15_times_3 : decode cX15_times 3 = .ok (.lstore 5, 2) := by decide +kernel
theorem dX15_times_5 : decode cX15_times 5 = .ok (.lload_n 1, 1) := by decide +kernel
theorem dX15_times_6 : decode cX15_times 6 = .ok (.lconst 0, 1) := by decide +kernel
theorem dX15_times_7 : decode cX15_times 7 = .ok (.lcmp, 1) := by decide +kernel
theorem dX15_times_8 : decode cX15_times 8 = .ok (.ifCond .eq 33, 3) := by decide +kernel
theorem dX15_times_41 : decode cX15_times 41 = .ok (.lload 5, 2) := by decide +kernel
theorem dX15_times_43 : decode cX15_times 43 = .ok (.lreturn, 1) := by decide +kernel
theorem dX15_times_11 : decode cX15_times 11 = .ok (.lload_n 3, 1) := by decide +kernel
theorem dX15_times_12 : decode cX15_times 12 = .ok (.lconst 0, 1) := by decide +kernel
theorem dX15_times_13 : decode cX15_times 13 = .ok (.lcmp, 1) := by decide +kernel
theorem dX15_times_14 : decode cX15_times 14 = .ok (.ifCond .eq 27, 3) := by decide +kernel
theorem dX15_times_17 : decode cX15_times 17 = .ok (.lload 5, 2) := by decide +kernel
theorem dX15_times_19 : decode cX15_times 19 = .ok (.lload_n 3, 1) := by decide +kernel
theorem dX15_times_20 : decode cX15_times 20 = .ok (.ldiv, 1) := by decide +kernel
theorem dX15_times_21 : decode cX15_times 21 = .ok (.lload_n 1, 1) := by decide +kernel
theorem dX15_times_22 : decode cX15_times 22 = .ok (.lcmp, 1) := by decide +kernel
theorem dX15_times_23 : decode cX15_times 23 = .ok (.ifCond .ne 12, 3) := by decide +kernel
theorem dX15_times_35 : decode cX15_times 35 = .ok (.aload_n 0, 1) := by decide +kernel
theorem dX15_times_36 : decode cX15_times 36 = .ok (.iconst 2, 1) := by decide +kernel
theorem dX15_times_37 : decode cX15_times 37 = .ok (.lconst 0, 1) := by decide +kernel
theorem dX15_times_38 : decode cX15_times 38 = .ok (.invokevirtual 204, 3) := by decide +kernel
theorem dX15_times_26 : decode cX15_times 26 = .ok (.lload 5, 2) := by decide +kernel
theorem dX15_times_28 : decode cX15_times 28 = .ok (.lload_n 1, 1) := by decide +kernel
theorem dX15_times_29 : decode cX15_times 29 = .ok (.ldiv, 1) := by decide +kernel
theorem dX15_times_30 : decode cX15_times 30 = .ok (.lload_n 3, 1) := by decide +kernel
theorem dX15_times_31 : decode cX15_times 31 = .ok (.lcmp, 1) := by decide +kernel
theorem dX15_times_32 : decode cX15_times 32 = .ok (.ifCond .eq 9, 3) := by decide +kernel
theorem dX15_plus_0 : decode cX15_plus 0 = .ok (.iload 5, 2) := by decide +kernel
theorem dX15_plus_2 : decode cX15_plus 2 = .ok (.ifCond .eq 9, 3) := by decide +kernel
theorem dX15_plus_11 : decode cX15_plus 11 = .ok (.lload_n 1, 1) := by decide +kernel
theorem dX15_plus_12 : decode cX15_plus 12 = .ok (.lload_n 3, 1) := by decide +kernel
theorem dX15_plus_13 : decode cX15_plus 13 = .ok (.ladd, 1) := by decide +kernel
theorem dX15_plus_14 : decode cX15_plus 14 = .ok (.lstore 6, 2) := by decide +kernel
theorem dX15_plus_16 : decode cX15_plus 16 = .ok (.iload 5, 2) := by decide +kernel
theorem dX15_plus_18 : decode cX15_plus 18 = .ok (.ifCond .eq 62, 3) := by decide +kernel
theorem dX15_plus_80 : decode cX15_plus 80 = .ok (.lload_n 1, 1) := by decide +kernel
theorem dX15_plus_81 : decode cX15_plus 81 = .ok (.lconst 0, 1) := by decide +kernel
theorem dX15_plus_82 : decode cX15_plus 82 = .ok (.lcmp, 1) := by decide +kernel
theorem dX15_plus_83 : decode cX15_plus 83 = .ok (.ifCond .ge 7, 3) := by decide +kernel
theorem dX15_plus_90 : decode cX15_plus 90 = .ok (.iconst 0, 1) := by decide +kernel
theorem dX15_plus_91 : decode cX15_plus 91 = .ok (.lload_n 3, 1) := by decide +kernel
theorem dX15_plus_92 : decode cX15_plus 92 = .ok (.lconst 0, 1) := by decide +kernel
theorem dX15_plus_93 : decode cX15_plus 93 = .ok (.lcmp, 1) := by decide +kernel
theorem dX15_plus_94 : decode cX15_plus 94 = .ok (.ifCond .ge 7, 3) := by decide +kernel
theorem dX15_plus_101 : decode cX15_plus 101 = .ok (.iconst 0, 1) := by decide +kernel
theorem dX15_plus_102 : decode cX15_plus 102 = .ok (.if_icmp .ne 33, 3) := by decide +kernel
theorem dX15_plus_135 : decode cX15_plus 135 = .ok (.iconst 0, 1) := by decide +kernel
theorem dX15_plus_136 : decode cX15_plus 136 = .ok (.istore 8, 2) := by decide +kernel
theorem dX15_plus_138 : decode cX15_plus 138 = .ok (.iload 8, 2) := by decide +kernel
theorem dX15_plus_140 : decode cX15_plus 140 = .ok (.ifCond .eq 9, 3) := by decide +kernel
theorem dX15_plus_149 : decode cX15_plus 149 = .ok (.lload 6, 2) := by decide +kernel
theorem dX15_plus_151 : decode cX15_plus 151 = .ok (.lreturn, 1) := by decide +kernel
theorem dX15_plus_143 : decode cX15_plus 143 = .ok (.aload_n 0, 1) := by decide +kernel
theorem dX15_plus_144 : decode cX15_plus 144 = .ok (.iconst 2, 1) := by decide +kernel
theorem dX15_plus_145 : decode cX15_plus 145 = .ok (.lconst 0, 1) := by decide +kernel
theorem dX15_plus_146 : decode cX15_plus 146 = .ok (.invokevirtual 204, 3) := by decide +kernel
theorem dX15_plus_105 : decode cX15_plus 105 = .ok (.lload 6, 2) := by decide +kernel
theorem dX15_plus_107 : decode cX15_plus 107 = .ok (.lconst 0, 1) := by decide +kernel
theorem dX15_plus_108 : decode cX15_plus 108 = .ok (.lcmp, 1) := by decide +kernel
theorem dX15_plus_109 : decode cX15_plus 109 = .ok (.ifCond .ge 7, 3) := by decide +kernel
theorem dX15_plus_116 : decode cX15_plus 116 = .ok (.iconst 0, 1) := by decide +kernel
theorem dX15_plus_117 : decode cX15_plus 117 = .ok (.lload_n 1, 1) := by decide +kernel
theorem dX15_plus_118 : decode cX15_plus 118 = .ok (.lconst 0, 1) := by decide +kernel
theorem dX15_plus_119 : decode cX15_plus 119 = .ok (.lcmp, 1) := by decide +kernel
theorem dX15_plus_120 : decode cX15_plus 120 = .ok (.ifCond .ge 7, 3) := by decide +kernel
theorem dX15_plus_127 : decode cX15_plus 127 = .ok (.iconst 0, 1) := by decide +kernel
theorem dX15_plus_128 : decode cX15_plus 128 = .ok (.if_icmp .eq 7, 3) := by decide +kernel
theorem dX15_plus_131 : decode cX15_plus 131 = .ok (.iconst 1, 1) := by decide +kernel
theorem dX15_plus_132 : decode cX15_plus 132 = .ok (.goto 4, 3) := by decide +kernel
theorem dX15_plus_123 : decode cX15_plus 123 = .ok (.iconst 1, 1) := by decide +kernel
theorem dX15_plus_124 : decode cX15_plus 124 = .ok (.goto 4, 3) := by decide +kernel
theorem dX15_plus_112 : decode cX15_plus 112 = .ok (.iconst 1, 1) := by decide +kernel
theorem dX15_plus_113 : decode cX15_plus 113 = .ok (.goto 4, 3) := by decide +kernel
theorem dX15_plus_97 : decode cX15_plus 97 = .ok (.iconst 1, 1) := by decide +kernel
theorem dX15_plus_98 : decode cX15_plus 98 = .ok (.goto 4, 3) := by decide +kernel
theorem dX15_plus_86 : decode cX15_plus 86 = .ok (.iconst 1, 1) := by decide +kernel
theorem dX15_plus_87 : decode cX15_plus 87 = .ok (.goto 4, 3) := by decide +kernel
theorem dX15_plus_21 : decode cX15_plus 21 = .ok (.lload_n 1, 1) := by decide +kernel
theorem dX15_plus_22 : decode cX15_plus 22 = .ok (.lconst 0, 1) := by decide +kernel
theorem dX15_plus_23 : decode cX15_plus 23 = .ok (.lcmp, 1) := by decide +kernel
theorem dX15_plus_24 : decode cX15_plus 24 = .ok (.ifCond .ge 7, 3) := by decide +kernel
theorem dX15_plus_31 : decode cX15_plus 31 = .ok (.iconst 0, 1) := by decide +kernel
theorem dX15_plus_32 : decode cX15_plus 32 = .ok (.lload_n 3, 1) := by decide +kernel
theorem dX15_plus_33 : decode cX15_plus 33 = .ok (.lconst 0, 1) := by decide +kernel
theorem dX15_plus_34 : decode cX15_plus 34 = .ok (.lcmp, 1) := by decide +kernel
theorem dX15_plus_35 : decode cX15_plus 35 = .ok (.ifCond .ge 7, 3) := by decide +kernel
theorem dX15_plus_42 : decode cX15_plus 42 = .ok (.iconst 0, 1) := by decide +kernel
theorem dX15_plus_43 : decode cX15_plus 43 = .ok (.if_icmp .eq 33, 3) := by decide +kernel
theorem dX15_plus_76 : decode cX15_plus 76 = .ok (.iconst 0, 1) := by decide +kernel
theorem dX15_plus_77 : decode cX15_plus 77 = .ok (.goto 59, 3) := by decide +kernel
theorem dX15_plus_46 : decode cX15_plus 46 = .ok (.lload 6, 2) := by decide +kernel
theorem dX15_plus_48 : decode cX15_plus 48 = .ok (.lconst 0, 1) := by decide +kernel
theorem dX15_plus_49 : decode cX15_plus 49 = .ok (.lcmp, 1) := by decide +kernel
theorem dX15_plus_50 : decode cX15_plus 50 = .ok (.ifCond .ge 7, 3) := by decide +kernel
theorem dX15_plus_57 : decode cX15_plus 57 = .ok (.iconst 0, 1) := by decide +kernel
theorem dX15_plus_58 : decode cX15_plus 58 = .ok (.lload_n 1, 1) := by decide +kernel
theorem dX15_plus_59 : decode cX15_plus 59 = .ok (.lconst 0, 1) := by decide +kernel
theorem dX15_plus_60 : decode cX15_plus 60 = .ok (.lcmp, 1) := by decide +kernel
theorem dX15_plus_61 : decode cX15_plus 61 = .ok (.ifCond .ge 7, 3) := by decide +kernel
theorem dX15_plus_68 : decode cX15_plus 68 = .ok (.iconst 0, 1) := by decide +kernel
theorem dX15_plus_69 : decode cX15_plus 69 = .ok (.if_icmp .eq 7, 3) := by decide +kernel
theorem dX15_plus_72 : decode cX15_plus 72 = .ok (.iconst 1, 1) := by decide +kernel
theorem dX15_plus_73 : decode cX15_plus 73 = .ok (.goto 63, 3) := by decide +kernel
theorem dX15_plus_64 : decode cX15_plus 64 = .ok (.iconst 1, 1) := by decide +kernel
theorem dX15_plus_65 : decode cX15_plus 65 = .ok (.goto 4, 3) := by decide +kernel
theorem dX15_plus_53 : decode cX15_plus 53 = .ok (.iconst 1, 1) := by decide +kernel
theorem dX15_plus_54 : decode cX15_plus 54 = .ok (.goto 4, 3) := by decide +kernel
theorem dX15_plus_38 : decode cX15_plus 38 = .ok (.iconst 1, 1) := by decide +kernel
theorem dX15_plus_39 : decode cX15_plus 39 = .ok (.goto 4, 3) := by decide +kernel
theorem dX15_plus_27 : decode cX15_plus 27 = .ok (.iconst 1, 1) := by decide +kernel
theorem dX15_plus_28 : decode cX15_plus 28 = .ok (.goto 4, 3) := by decide +kernel
theorem dX15_plus_5 : decode cX15_plus 5 = .ok (.lload_n 1, 1) := by decide +kernel
theorem dX15_plus_6 : decode cX15_plus 6 = .ok (.lload_n 3, 1) := by decide +kernel
theorem dX15_plus_7 : decode cX15_plus 7 = .ok (.lsub, 1) := by decide +kernel
theorem dX15_plus_8 : decode cX15_plus 8 = .ok (.goto 6, 3) := by decide +kernel
theorem dX15_push_0 : decode cX15_push 0 = .ok (.lload_n 1, 1) := by decide +kernel
theorem dX15_push_1 : decode cX15_push 1 = .ok (.lstore 5, 2) := by decide +kernel
theorem dX15_push_3 : decode cX15_push 3 = .ok (.lload_n 3, 1) := by decide +kernel
theorem dX15_push_4 : decode cX15_push 4 = .ok (.lstore 7, 2) := by decide +kernel
theorem dX15_push_6 : decode cX15_push 6 = .ok (.lload 7, 2) := by decide +kernel
theorem dX15_push_8 : decode cX15_push 8 = .ok (.lconst 0, 1) := by decide +kernel
theorem dX15_push_9 : decode cX15_push 9 = .ok (.lcmp, 1) := by decide +kernel
theorem dX15_push_10 : decode cX15_push 10 = .ok (.ifCond .eq 21, 3) := by decide +kernel
theorem dX15_push_13 : decode cX15_push 13 = .ok (.lload 5, 2) := by decide +kernel
theorem dX15_push_15 : decode cX15_push 15 = .ok (.lload 7, 2) := by decide +kernel
theorem dX15_push_17 : decode cX15_push 17 = .ok (.lrem, 1) := by decide +kernel
theorem dX15_push_18 : decode cX15_push 18 = .ok (.lstore 9, 2) := by decide +kernel
theorem dX15_push_20 : decode cX15_push 20 = .ok (.lload 7, 2) := by decide +kernel
theorem dX15_push_22 : decode cX15_push 22 = .ok (.lstore 5, 2) := by decide +kernel
theorem dX15_push_24 : decode cX15_push 24 = .ok (.lload 9, 2) := by decide +kernel
theorem dX15_push_26 : decode cX15_push 26 = .ok (.lstore 7, 2) := by decide +kernel
theorem dX15_push_28 : decode cX15_push 28 = .ok (.goto (-22), 3) := by decide +kernel
theorem dX15_push_31 : decode cX15_push 31 = .ok (.lload 5, 2) := by decide +kernel
theorem dX15_push_33 : decode cX15_push 33 = .ok (.lconst 0, 1) := by decide +kernel
theorem dX15_push_34 : decode cX15_push 34 = .ok (.lcmp, 1) := by decide +kernel
theorem dX15_push_35 : decode cX15_push 35 = .ok (.ifCond .ge 9, 3) := by decide +kernel
theorem dX15_push_44 : decode cX15_push 44 = .ok (.lload 5, 2) := by decide +kernel
theorem dX15_push_46 : decode cX15_push 46 = .ok (.lstore 9, 2) := by decide +kernel
theorem dX15_push_48 : decode cX15_push 48 = .ok (.lload 9, 2) := by decide +kernel
theorem dX15_push_50 : decode cX15_push 50 = .ok (.lconst 0, 1) := by decide +kernel
theorem dX15_push_51 : decode cX15_push 51 = .ok (.lcmp, 1) := by decide +kernel
theorem dX15_push_52 : decode cX15_push 52 = .ok (.ifCond .eq 119, 3) := by decide +kernel
theorem dX15_push_171 : decode cX15_push 171 = .ok (.aload_n 0, 1) := by decide +kernel
theorem dX15_push_172 : decode cX15_push 172 = .ok (.dup, 1) := by decide +kernel
theorem dX15_push_173 : decode cX15_push 173 = .ok (.getfield 207, 3) := by decide +kernel
theorem dX15_push_176 : decode cX15_push 176 = .ok (.iconst 1, 1) := by decide +kernel
theorem dX15_push_177 : decode cX15_push 177 = .ok (.iadd, 1) := by decide +kernel
theorem dX15_push_178 : decode cX15_push 178 = .ok (.putfield 207, 3) := by decide +kernel
theorem dX15_push_181 : decode cX15_push 181 = .ok (.return_, 1) := by decide +kernel
theorem dX15_push_55 : decode cX15_push 55 = .ok (.aload_n 0, 1) := by decide +kernel
theorem dX15_push_56 : decode cX15_push 56 = .ok (.getfield 78, 3) := by decide +kernel
theorem dX15_push_59 : decode cX15_push 59 = .ok (.aload_n 0, 1) := by decide +kernel
theorem dX15_push_60 : decode cX15_push 60 = .ok (.getfield 207, 3) := by decide +kernel
theorem dX15_push_63 : decode cX15_push 63 = .ok (.lload_n 1, 1) := by decide +kernel
theorem dX15_push_64 : decode cX15_push 64 = .ok (.lload 9, 2) := by decide +kernel
theorem dX15_push_66 : decode cX15_push 66 = .ok (.ldiv, 1) := by decide +kernel
theorem dX15_push_67 : decode cX15_push 67 = .ok (.lastore, 1) := by decide +kernel
theorem dX15_push_68 : decode cX15_push 68 = .ok (.aload_n 0, 1) := by decide +kernel
theorem dX15_push_69 : decode cX15_push 69 = .ok (.getfield 81, 3) := by decide +kernel
theorem dX15_push_72 : decode cX15_push 72 = .ok (.aload_n 0, 1) := by decide +kernel
theorem dX15_push_73 : decode cX15_push 73 = .ok (.getfield 207, 3) := by decide +kernel
theorem dX15_push_76 : decode cX15_push 76 = .ok (.lload_n 3, 1) := by decide +kernel
theorem dX15_push_77 : decode cX15_push 77 = .ok (.lload 9, 2) := by decide +kernel
theorem dX15_push_79 : decode cX15_push 79 = .ok (.ldiv, 1) := by decide +kernel
theorem dX15_push_80 : decode cX15_push 80 = .ok (.lastore, 1) := by decide +kernel
theorem dX15_push_81 : decode cX15_push 81 = .ok (.aload_n 0, 1) := by decide +kernel
theorem dX15_push_82 : decode cX15_push 82 = .ok (.getfield 81, 3) := by decide +kernel
theorem dX15_push_85 : decode cX15_push 85 = .ok (.aload_n 0, 1) := by decide +kernel
theorem dX15_push_86 : decode cX15_push 86 = .ok (.getfield 207, 3) := by decide +kernel
theorem dX15_push_89 : decode cX15_push 89 = .ok (.laload, 1) := by decide +kernel
theorem dX15_push_90 : decode cX15_push 90 = .ok (.lconst 0, 1) := by decide +kernel
theorem dX15_push_91 : decode cX15_push 91 = .ok (.lcmp, 1) := by decide +kernel
theorem dX15_push_92 : decode cX15_push 92 = .ok (.ifCond .ge 79, 3) := by decide +kernel
theorem dX15_push_95 : decode cX15_push 95 = .ok (.aload_n 0, 1) := by decide +kernel
theorem dX15_push_96 : decode cX15_push 96 = .ok (.getfield 78, 3) := by decide +kernel
theorem dX15_push_99 : decode cX15_push 99 = .ok (.aload_n 0, 1) := by decide +kernel
theorem dX15_push_100 : decode cX15_push 100 = .ok (.getfield 207, 3) := by decide +kernel
theorem dX15_push_103 : decode cX15_push 103 = .ok (.laload, 1) := by decide +kernel
theorem dX15_push_104 : decode cX15_push 104 = .ok (.ldc2_w 210, 3) := by decide +kernel
theorem dX15_push_107 : decode cX15_push 107 = .ok (.lcmp, 1) := by decide +kernel
theorem dX15_push_108 : decode cX15_push 108 = .ok (.ifCond .eq 19, 3) := by decide +kernel
theorem dX15_push_127 : decode cX15_push 127 = .ok (.aload_n 0, 1) := by decide +kernel
theorem dX15_push_128 : decode cX15_push 128 = .ok (.iconst 2, 1) := by decide +kernel
theorem dX15_push_129 : decode cX15_push 129 = .ok (.lconst 0, 1) := by decide +kernel
theorem dX15_push_130 : decode cX15_push 130 = .ok (.invokevirtual 204, 3) := by decide +kernel
theorem dX15_push_133 : decode cX15_push 133 = .ok (.aload_n 0, 1) := by decide +kernel
theorem dX15_push_134 : decode cX15_push 134 = .ok (.getfield 78, 3) := by decide +kernel
theorem dX15_push_137 : decode cX15_push 137 = .ok (.aload_n 0, 1) := by decide +kernel
theorem dX15_push_138 : decode cX15_push 138 = .ok (.getfield 207, 3) := by decide +kernel
theorem dX15_push_141 : decode cX15_push 141 = .ok (.aload_n 0, 1) := by decide +kernel
theorem dX15_push_142 : decode cX15_push 142 = .ok (.getfield 78, 3) := by decide +kernel
theorem dX15_push_145 : decode cX15_push 145 = .ok (.aload_n 0, 1) := by decide +kernel
theorem dX15_push_146 : decode cX15_push 146 = .ok (.getfield 207, 3) := by decide +kernel
theorem dX15_push_149 : decode cX15_push 149 = .ok (.laload, 1) := by decide +kernel
theorem dX15_push_150 : decode cX15_push 150 = .ok (.lneg, 1) := by decide +kernel
theorem dX15_push_151 : decode cX15_push 151 = .ok (.lastore, 1) := by decide +kernel
theorem dX15_push_152 : decode cX15_push 152 = .ok (.aload_n 0, 1) := by decide +kernel
theorem dX15_push_153 : decode cX15_push 153 = .ok (.getfield 81, 3) := by decide +kernel
theorem dX15_push_156 : decode cX15_push 156 = .ok (.aload_n 0, 1) := by decide +kernel
theorem dX15_push_157 : decode cX15_push 157 = .ok (.getfield 207, 3) := by decide +kernel
theorem dX15_push_160 : decode cX15_push 160 = .ok (.aload_n 0, 1) := by decide +kernel
theorem dX15_push_161 : decode cX15_push 161 = .ok (.getfield 81, 3) := by decide +kernel
theorem dX15_push_164 : decode cX15_push 164 = .ok (.aload_n 0, 1) := by decide +kernel
theorem dX15_push_165 : decode cX15_push 165 = .ok (.getfield 207, 3) := by decide +kernel
theorem dX15_push_168 : decode cX15_push 168 = .ok (.laload, 1) := by decide +kernel
theorem dX15_push_169 : decode cX15_push 169 = .ok (.lneg, 1) := by decide +kernel
theorem dX15_push_170 : decode cX15_push 170 = .ok (.lastore, 1) := by decide +kernel
theorem dX15_push_111 : decode cX15_push 111 = .ok (.aload_n 0, 1) := by decide +kernel
theorem dX15_push_112 : decode cX15_push 112 = .ok (.getfield 81, 3) := by decide +kernel
theorem dX15_push_115 : decode cX15_push 115 = .ok (.aload_n 0, 1) := by decide +kernel
theorem dX15_push_116 : decode cX15_push 116 = .ok (.getfield 207, 3) := by decide +kernel
theorem dX15_push_119 : decode cX15_push 119 = .ok (.laload, 1) := by decide +kernel
theorem dX15_push_120 : decode cX15_push 120 = .ok (.ldc2_w 210, 3) := by decide +kernel
theorem dX15_push_123 : decode cX15_push 123 = .ok (.lcmp, 1) := by decide +kernel
theorem dX15_push_124 : decode cX15_push 124 = .ok (.ifCond .ne 9, 3) := by decide +kernel
theorem dX15_push_38 : decode cX15_push 38 = .ok (.lload 5, 2) := by decide +kernel
theorem dX15_push_40 : decode cX15_push 40 = .ok (.lneg, 1) := by decide +kernel
theorem dX15_push_41 : decode cX15_push 41 = .ok (.goto 5, 3) := by decide +kernel
theorem dX15_operate_0 : decode cX15_operate 0 = .ok (.aload_n 0, 1) := by decide +kernel
theorem dX15_operate_1 : decode cX15_operate 1 = .ok (.dup, 1) := by decide +kernel
theorem dX15_operate_2 : decode cX15_operate 2 = .ok (.getfield 207, 3) := by decide +kernel
theorem dX15_operate_5 : decode cX15_operate 5 = .ok (.iconst 2, 1) := by decide +kernel
theorem dX15_operate_6 : decode cX15_operate 6 = .ok (.isub, 1) := by decide +kernel
theorem dX15_operate_7 : decode cX15_operate 7 = .ok (.putfield 207, 3) := by decide +kernel
theorem dX15_operate_10 : decode cX15_operate 10 = .ok (.aload_n 0, 1) := by decide +kernel
theorem dX15_operate_11 : decode cX15_operate 11 = .ok (.getfield 78, 3) := by decide +kernel
theorem dX15_operate_14 : decode cX15_operate 14 = .ok (.aload_n 0, 1) := by decide +kernel
theorem dX15_operate_15 : decode cX15_operate 15 = .ok (.getfield 207, 3) := by decide +kernel
theorem dX15_operate_18 : decode cX15_operate 18 = .ok (.laload, 1) := by decide +kernel
theorem dX15_operate_19 : decode cX15_operate 19 = .ok (.lstore_n 2, 1) := by decide +kernel
theorem dX15_operate_20 : decode cX15_operate 20 = .ok (.aload_n 0, 1) := by decide +kernel
theorem dX15_operate_21 : decode cX15_operate 21 = .ok (.getfield 81, 3) := by decide +kernel
theorem dX15_operate_24 : decode cX15_operate 24 = .ok (.aload_n 0, 1) := by decide +kernel
theorem dX15_operate_25 : decode cX15_operate 25 = .ok (.getfield 207, 3) := by decide +kernel
theorem dX15_operate_28 : decode cX15_operate 28 = .ok (.laload, 1) := by decide +kernel
theorem dX15_operate_29 : decode cX15_operate 29 = .ok (.lstore 4, 2) := by decide +kernel
theorem dX15_operate_31 : decode cX15_operate 31 = .ok (.aload_n 0, 1) := by decide +kernel
theorem dX15_operate_32 : decode cX15_operate 32 = .ok (.getfield 78, 3) := by decide +kernel
theorem dX15_operate_35 : decode cX15_operate 35 = .ok (.aload_n 0, 1) := by decide +kernel
theorem dX15_operate_36 : decode cX15_operate 36 = .ok (.getfield 207, 3) := by decide +kernel
theorem dX15_operate_39 : decode cX15_operate 39 = .ok (.iconst 1, 1) := by decide +kernel
theorem dX15_operate_40 : decode cX15_operate 40 = .ok (.iadd, 1) := by decide +kernel
theorem dX15_operate_41 : decode cX15_operate 41 = .ok (.laload, 1) := by decide +kernel
theorem dX15_operate_42 : decode cX15_operate 42 = .ok (.lstore 6, 2) := by decide +kernel
theorem dX15_operate_44 : decode cX15_operate 44 = .ok (.aload_n 0, 1) := by decide +kernel
theorem dX15_operate_45 : decode cX15_operate 45 = .ok (.getfield 81, 3) := by decide +kernel
theorem dX15_operate_48 : decode cX15_operate 48 = .ok (.aload_n 0, 1) := by decide +kernel
theorem dX15_operate_49 : decode cX15_operate 49 = .ok (.getfield 207, 3) := by decide +kernel
theorem dX15_operate_52 : decode cX15_operate 52 = .ok (.iconst 1, 1) := by decide +kernel
theorem dX15_operate_53 : decode cX15_operate 53 = .ok (.iadd, 1) := by decide +kernel
theorem dX15_operate_54 : decode cX15_operate 54 = .ok (.laload, 1) := by decide +kernel
theorem dX15_operate_55 : decode cX15_operate 55 = .ok (.lstore 8, 2) := by decide +kernel
theorem dX15_operate_57 : decode cX15_operate 57 = .ok (.iload_n 1, 1) := by decide +kernel
theorem dX15_operate_58 : decode cX15_operate 58 = .ok (.iconst 5, 1) := by decide +kernel
theorem dX15_operate_59 : decode cX15_operate 59 = .ok (.if_icmp .ne 25, 3) := by decide +kernel
theorem dX15_operate_84 : decode cX15_operate 84 = .ok (.iload_n 1, 1) := by decide +kernel
theorem dX15_operate_85 : decode cX15_operate 85 = .ok (.iconst 3, 1) := by decide +kernel
theorem dX15_operate_86 : decode cX15_operate 86 = .ok (.if_icmp .le 45, 3) := by decide +kernel
theorem dX15_operate_131 : decode cX15_operate 131 = .ok (.aload_n 0, 1) := by decide +kernel
theorem dX15_operate_132 : decode cX15_operate 132 = .ok (.aload_n 0, 1) := by decide +kernel
theorem dX15_operate_133 : decode cX15_operate 133 = .ok (.aload_n 0, 1) := by decide +kernel
theorem dX15_operate_134 : decode cX15_operate 134 = .ok (.lload_n 2, 1) := by decide +kernel
theorem dX15_operate_135 : decode cX15_operate 135 = .ok (.lload 8, 2) := by decide +kernel
theorem dX15_operate_137 : decode cX15_operate 137 = .ok (.invokevirtual 216, 3) := by decide +kernel
theorem dX15_operate_140 : decode cX15_operate 140 = .ok (.aload_n 0, 1) := by decide +kernel
theorem dX15_operate_141 : decode cX15_operate 141 = .ok (.lload 6, 2) := by decide +kernel
theorem dX15_operate_143 : decode cX15_operate 143 = .ok (.lload 4, 2) := by decide +kernel
theorem dX15_operate_145 : decode cX15_operate 145 = .ok (.invokevirtual 216, 3) := by decide +kernel
theorem dX15_operate_148 : decode cX15_operate 148 = .ok (.iload_n 1, 1) := by decide +kernel
theorem dX15_operate_149 : decode cX15_operate 149 = .ok (.iconst 3, 1) := by decide +kernel
theorem dX15_operate_150 : decode cX15_operate 150 = .ok (.if_icmp .ne 7, 3) := by decide +kernel
theorem dX15_operate_157 : decode cX15_operate 157 = .ok (.iconst 0, 1) := by decide +kernel
theorem dX15_operate_158 : decode cX15_operate 158 = .ok (.invokevirtual 220, 3) := by decide +kernel
theorem dX15_operate_161 : decode cX15_operate 161 = .ok (.aload_n 0, 1) := by decide +kernel
theorem dX15_operate_162 : decode cX15_operate 162 = .ok (.lload 4, 2) := by decide +kernel
theorem dX15_operate_164 : decode cX15_operate 164 = .ok (.lload 8, 2) := by decide +kernel
theorem dX15_operate_166 : decode cX15_operate 166 = .ok (.invokevirtual 216, 3) := by decide +kernel
theorem dX15_operate_169 : decode cX15_operate 169 = .ok (.invokevirtual 212, 3) := by decide +kernel
theorem dX15_operate_172 : decode cX15_operate 172 = .ok (.return_, 1) := by decide +kernel
theorem dX15_operate_153 : decode cX15_operate 153 = .ok (.iconst 1, 1) := by decide +kernel
theorem dX15_operate_154 : decode cX15_operate 154 = .ok (.goto 4, 3) := by decide +kernel
theorem dX15_operate_89 : decode cX15_operate 89 = .ok (.aload_n 0, 1) := by decide +kernel
theorem dX15_operate_90 : decode cX15_operate 90 = .ok (.aload_n 0, 1) := by decide +kernel
theorem dX15_operate_91 : decode cX15_operate 91 = .ok (.lload_n 2, 1) := by decide +kernel
theorem dX15_operate_92 : decode cX15_operate 92 = .ok (.iload_n 1, 1) := by decide +kernel
theorem dX15_operate_93 : decode cX15_operate 93 = .ok (.iconst 4, 1) := by decide +kernel
theorem dX15_operate_94 : decode cX15_operate 94 = .ok (.if_icmp .ne 8, 3) := by decide +kernel
theorem dX15_operate_102 : decode cX15_operate 102 = .ok (.lload 8, 2) := by decide +kernel
theorem dX15_operate_104 : decode cX15_operate 104 = .ok (.invokevirtual 216, 3) := by decide +kernel
theorem dX15_operate_107 : decode cX15_operate 107 = .ok (.aload_n 0, 1) := by decide +kernel
theorem dX15_operate_108 : decode cX15_operate 108 = .ok (.lload 4, 2) := by decide +kernel
theorem dX15_operate_110 : decode cX15_operate 110 = .ok (.iload_n 1, 1) := by decide +kernel
theorem dX15_operate_111 : decode cX15_operate 111 = .ok (.iconst 4, 1) := by decide +kernel
theorem dX15_operate_112 : decode cX15_operate 112 = .ok (.if_icmp .ne 8, 3) := by decide +kernel
theorem dX15_operate_120 : decode cX15_operate 120 = .ok (.lload 6, 2) := by decide +kernel
theorem dX15_operate_122 : decode cX15_operate 122 = .ok (.invokevirtual 216, 3) := by decide +kernel
theorem dX15_operate_125 : decode cX15_operate 125 = .ok (.invokevirtual 212, 3) := by decide +kernel
theorem dX15_operate_128 : decode cX15_operate 128 = .ok (.goto 44, 3) := by decide +kernel
theorem dX15_operate_115 : decode cX15_operate 115 = .ok (.lload 8, 2) := by decide +kernel
theorem dX15_operate_117 : decode cX15_operate 117 = .ok (.goto 5, 3) := by decide +kernel
theorem dX15_operate_97 : decode cX15_operate 97 = .ok (.lload 6, 2) := by decide +kernel
theorem dX15_operate_99 : decode cX15_operate 99 = .ok (.goto 5, 3) := by decide +kernel
theorem dX15_operate_62 : decode cX15_operate 62 = .ok (.lload 6, 2) := by decide +kernel
theorem dX15_operate_64 : decode cX15_operate 64 = .ok (.lconst 0, 1) := by decide +kernel
theorem dX15_operate_65 : decode cX15_operate 65 = .ok (.lcmp, 1) := by decide +kernel
theorem dX15_operate_66 : decode cX15_operate 66 = .ok (.ifCond .ne 18, 3) := by decide +kernel
theorem dX15_operate_69 : decode cX15_operate 69 = .ok (.aload_n 0, 1) := by decide +kernel
theorem dX15_operate_70 : decode cX15_operate 70 = .ok (.iconst 3, 1) := by decide +kernel
theorem dX15_operate_71 : decode cX15_operate 71 = .ok (.lconst 0, 1) := by decide +kernel
theorem dX15_operate_72 : decode cX15_operate 72 = .ok (.invokevirtual 204, 3) := by decide +kernel
theorem dX15_operate_75 : decode cX15_operate 75 = .ok (.aload_n 0, 1) := by decide +kernel
theorem dX15_operate_76 : decode cX15_operate 76 = .ok (.lconst 0, 1) := by decide +kernel
theorem dX15_operate_77 : decode cX15_operate 77 = .ok (.lconst 1, 1) := by decide +kernel
theorem dX15_operate_78 : decode cX15_operate 78 = .ok (.invokevirtual 212, 3) := by decide +kernel
theorem dX15_operate_81 : decode cX15_operate 81 = .ok (.goto 91, 3) := by decide +kernel
theorem dX15_reckon_0 : decode cX15_reckon 0 = .ok (.aload_n 0, 1) := by decide +kernel
theorem dX15_reckon_1 : decode cX15_reckon 1 = .ok (.iconst 0, 1) := by decide +kernel
theorem dX15_reckon_2 : decode cX15_reckon 2 = .ok (.putfield 207, 3) := by decide +kernel
theorem dX15_reckon_5 : decode cX15_reckon 5 = .ok (.iload_n 1, 1) := by decide +kernel
theorem dX15_reckon_6 : decode cX15_reckon 6 = .ok (.istore_n 3, 1) := by decide +kernel
theorem dX15_reckon_7 : decode cX15_reckon 7 = .ok (.iload_n 3, 1) := by decide +kernel
theorem dX15_reckon_8 : decode cX15_reckon 8 = .ok (.iload_n 2, 1) := by decide +kernel
theorem dX15_reckon_9 : decode cX15_reckon 9 = .ok (.if_icmp .ge 106, 3) := by decide +kernel
theorem dX15_reckon_12 : decode cX15_reckon 12 = .ok (.aload_n 0, 1) := by decide +kernel
theorem dX15_reckon_13 : decode cX15_reckon 13 = .ok (.getfield 198, 3) := by decide +kernel
theorem dX15_reckon_16 : decode cX15_reckon 16 = .ok (.ifCond .ne 99, 3) := by decide +kernel
theorem dX15_reckon_19 : decode cX15_reckon 19 = .ok (.aload_n 0, 1) := by decide +kernel
theorem dX15_reckon_20 : decode cX15_reckon 20 = .ok (.getfield 44, 3) := by decide +kernel
theorem dX15_reckon_23 : decode cX15_reckon 23 = .ok (.iload_n 3, 1) := by decide +kernel
theorem dX15_reckon_24 : decode cX15_reckon 24 = .ok (.iaload, 1) := by decide +kernel
theorem dX15_reckon_25 : decode cX15_reckon 25 = .ok (.ifCond .ne 17, 3) := by decide +kernel
theorem dX15_reckon_42 : decode cX15_reckon 42 = .ok (.aload_n 0, 1) := by decide +kernel
theorem dX15_reckon_43 : decode cX15_reckon 43 = .ok (.getfield 44, 3) := by decide +kernel
theorem dX15_reckon_46 : decode cX15_reckon 46 = .ok (.iload_n 3, 1) := by decide +kernel
theorem dX15_reckon_47 : decode cX15_reckon 47 = .ok (.iaload, 1) := by decide +kernel
theorem dX15_reckon_48 : decode cX15_reckon 48 = .ok (.iconst 1, 1) := by decide +kernel
theorem dX15_reckon_49 : decode cX15_reckon 49 = .ok (.if_icmp .ne 50, 3) := by decide +kernel
theorem dX15_reckon_99 : decode cX15_reckon 99 = .ok (.aload_n 0, 1) := by decide +kernel
theorem dX15_reckon_100 : decode cX15_reckon 100 = .ok (.aload_n 0, 1) := by decide +kernel
theorem dX15_reckon_101 : decode cX15_reckon 101 = .ok (.getfield 44, 3) := by decide +kernel
theorem dX15_reckon_104 : decode cX15_reckon 104 = .ok (.iload_n 3, 1) := by decide +kernel
theorem dX15_reckon_105 : decode cX15_reckon 105 = .ok (.iaload, 1) := by decide +kernel
theorem dX15_reckon_106 : decode cX15_reckon 106 = .ok (.invokevirtual 224, 3) := by decide +kernel
theorem dX15_reckon_109 : decode cX15_reckon 109 = .ok (.iinc 3 1, 3) := by decide +kernel
theorem dX15_reckon_112 : decode cX15_reckon 112 = .ok (.goto (-105), 3) := by decide +kernel
theorem dX15_reckon_52 : decode cX15_reckon 52 = .ok (.aload_n 0, 1) := by decide +kernel
theorem dX15_reckon_53 : decode cX15_reckon 53 = .ok (.aload_n 0, 1) := by decide +kernel
theorem dX15_reckon_54 : decode cX15_reckon 54 = .ok (.getfield 47, 3) := by decide +kernel
theorem dX15_reckon_57 : decode cX15_reckon 57 = .ok (.iload_n 3, 1) := by decide +kernel
theorem dX15_reckon_58 : decode cX15_reckon 58 = .ok (.laload, 1) := by decide +kernel
theorem dX15_reckon_59 : decode cX15_reckon 59 = .ok (.invokevirtual 192, 3) := by decide +kernel
theorem dX15_reckon_62 : decode cX15_reckon 62 = .ok (.istore 4, 2) := by decide +kernel
theorem dX15_reckon_64 : decode cX15_reckon 64 = .ok (.iload 4, 2) := by decide +kernel
theorem dX15_reckon_66 : decode cX15_reckon 66 = .ok (.ifCond .ge 17, 3) := by decide +kernel
theorem dX15_reckon_83 : decode cX15_reckon 83 = .ok (.aload_n 0, 1) := by decide +kernel
theorem dX15_reckon_84 : decode cX15_reckon 84 = .ok (.aload_n 0, 1) := by decide +kernel
theorem dX15_reckon_85 : decode cX15_reckon 85 = .ok (.getfield 17, 3) := by decide +kernel
theorem dX15_reckon_88 : decode cX15_reckon 88 = .ok (.iload 4, 2) := by decide +kernel
theorem dX15_reckon_90 : decode cX15_reckon 90 = .ok (.iaload, 1) := by decide +kernel
theorem dX15_reckon_91 : decode cX15_reckon 91 = .ok (.i2l, 1) := by decide +kernel
theorem dX15_reckon_92 : decode cX15_reckon 92 = .ok (.lconst 1, 1) := by decide +kernel
theorem dX15_reckon_93 : decode cX15_reckon 93 = .ok (.invokevirtual 212, 3) := by decide +kernel
theorem dX15_reckon_96 : decode cX15_reckon 96 = .ok (.goto 13, 3) := by decide +kernel
theorem dX15_reckon_69 : decode cX15_reckon 69 = .ok (.aload_n 0, 1) := by decide +kernel
theorem dX15_reckon_70 : decode cX15_reckon 70 = .ok (.iconst 1, 1) := by decide +kernel
theorem dX15_reckon_71 : decode cX15_reckon 71 = .ok (.aload_n 0, 1) := by decide +kernel
theorem dX15_reckon_72 : decode cX15_reckon 72 = .ok (.getfield 47, 3) := by decide +kernel
theorem dX15_reckon_75 : decode cX15_reckon 75 = .ok (.iload_n 3, 1) := by decide +kernel
theorem dX15_reckon_76 : decode cX15_reckon 76 = .ok (.laload, 1) := by decide +kernel
theorem dX15_reckon_77 : decode cX15_reckon 77 = .ok (.invokevirtual 204, 3) := by decide +kernel
theorem dX15_reckon_80 : decode cX15_reckon 80 = .ok (.goto 16, 3) := by decide +kernel
theorem dX15_reckon_28 : decode cX15_reckon 28 = .ok (.aload_n 0, 1) := by decide +kernel
theorem dX15_reckon_29 : decode cX15_reckon 29 = .ok (.aload_n 0, 1) := by decide +kernel
theorem dX15_reckon_30 : decode cX15_reckon 30 = .ok (.getfield 47, 3) := by decide +kernel
theorem dX15_reckon_33 : decode cX15_reckon 33 = .ok (.iload_n 3, 1) := by decide +kernel
theorem dX15_reckon_34 : decode cX15_reckon 34 = .ok (.laload, 1) := by decide +kernel
theorem dX15_reckon_35 : decode cX15_reckon 35 = .ok (.lconst 1, 1) := by decide +kernel
theorem dX15_reckon_36 : decode cX15_reckon 36 = .ok (.invokevirtual 212, 3) := by decide +kernel
theorem dX15_reckon_39 : decode cX15_reckon 39 = .ok (.goto 70, 3) := by decide +kernel
theorem dX15_reckon_115 : decode cX15_reckon 115 = .ok (.return_, 1) := by decide +kernel
theorem dX15_holds_0 : decode cX15_holds 0 = .ok (.aload_n 0, 1) := by decide +kernel
theorem dX15_holds_1 : decode cX15_holds 1 = .ok (.aload_n 0, 1) := by decide +kernel
theorem dX15_holds_2 : decode cX15_holds 2 = .ok (.getfield 32, 3) := by decide +kernel
theorem dX15_holds_5 : decode cX15_holds 5 = .ok (.iload_n 1, 1) := by decide +kernel
theorem dX15_holds_6 : decode cX15_holds 6 = .ok (.iaload, 1) := by decide +kernel
theorem dX15_holds_7 : decode cX15_holds 7 = .ok (.aload_n 0, 1) := by decide +kernel
theorem dX15_holds_8 : decode cX15_holds 8 = .ok (.getfield 35, 3) := by decide +kernel
theorem dX15_holds_11 : decode cX15_holds 11 = .ok (.iload_n 1, 1) := by decide +kernel
theorem dX15_holds_12 : decode cX15_holds 12 = .ok (.iaload, 1) := by decide +kernel
theorem dX15_holds_13 : decode cX15_holds 13 = .ok (.invokevirtual 227, 3) := by decide +kernel
theorem dX15_holds_16 : decode cX15_holds 16 = .ok (.aload_n 0, 1) := by decide +kernel
theorem dX15_holds_17 : decode cX15_holds 17 = .ok (.getfield 198, 3) := by decide +kernel
theorem dX15_holds_20 : decode cX15_holds 20 = .ok (.ifCond .le 5, 3) := by decide +kernel
theorem dX15_holds_25 : decode cX15_holds 25 = .ok (.aload_n 0, 1) := by decide +kernel
theorem dX15_holds_26 : decode cX15_holds 26 = .ok (.aload_n 0, 1) := by decide +kernel
theorem dX15_holds_27 : decode cX15_holds 27 = .ok (.getfield 78, 3) := by decide +kernel
theorem dX15_holds_30 : decode cX15_holds 30 = .ok (.iconst 0, 1) := by decide +kernel
theorem dX15_holds_31 : decode cX15_holds 31 = .ok (.laload, 1) := by decide +kernel
theorem dX15_holds_32 : decode cX15_holds 32 = .ok (.putfield 231, 3) := by decide +kernel
theorem dX15_holds_35 : decode cX15_holds 35 = .ok (.aload_n 0, 1) := by decide +kernel
theorem dX15_holds_36 : decode cX15_holds 36 = .ok (.aload_n 0, 1) := by decide +kernel
theorem dX15_holds_37 : decode cX15_holds 37 = .ok (.getfield 81, 3) := by decide +kernel
theorem dX15_holds_40 : decode cX15_holds 40 = .ok (.iconst 0, 1) := by decide +kernel
theorem dX15_holds_41 : decode cX15_holds 41 = .ok (.laload, 1) := by decide +kernel
theorem dX15_holds_42 : decode cX15_holds 42 = .ok (.putfield 234, 3) := by decide +kernel
theorem dX15_holds_45 : decode cX15_holds 45 = .ok (.iload_n 2, 1) := by decide +kernel
theorem dX15_holds_46 : decode cX15_holds 46 = .ok (.ifCond .lt 23, 3) := by decide +kernel
theorem dX15_holds_69 : decode cX15_holds 69 = .ok (.aload_n 0, 1) := by decide +kernel
theorem dX15_holds_70 : decode cX15_holds 70 = .ok (.aload_n 0, 1) := by decide +kernel
theorem dX15_holds_71 : decode cX15_holds 71 = .ok (.getfield 35, 3) := by decide +kernel
theorem dX15_holds_74 : decode cX15_holds 74 = .ok (.iload_n 1, 1) := by decide +kernel
theorem dX15_holds_75 : decode cX15_holds 75 = .ok (.iaload, 1) := by decide +kernel
theorem dX15_holds_76 : decode cX15_holds 76 = .ok (.aload_n 0, 1) := by decide +kernel
theorem dX15_holds_77 : decode cX15_holds 77 = .ok (.getfield 38, 3) := by decide +kernel
theorem dX15_holds_80 : decode cX15_holds 80 = .ok (.iload_n 1, 1) := by decide +kernel
theorem dX15_holds_81 : decode cX15_holds 81 = .ok (.iaload, 1) := by decide +kernel
theorem dX15_holds_82 : decode cX15_holds 82 = .ok (.invokevirtual 227, 3) := by decide +kernel
theorem dX15_holds_85 : decode cX15_holds 85 = .ok (.aload_n 0, 1) := by decide +kernel
theorem dX15_holds_86 : decode cX15_holds 86 = .ok (.getfield 198, 3) := by decide +kernel
theorem dX15_holds_89 : decode cX15_holds 89 = .ok (.ifCond .le 5, 3) := by decide +kernel
theorem dX15_holds_94 : decode cX15_holds 94 = .ok (.iload_n 2, 1) := by decide +kernel
theorem dX15_holds_95 : decode cX15_holds 95 = .ok (.ifCond .lt 27, 3) := by decide +kernel
theorem dX15_holds_122 : decode cX15_holds 122 = .ok (.aload_n 0, 1) := by decide +kernel
theorem dX15_holds_123 : decode cX15_holds 123 = .ok (.aload_n 0, 1) := by decide +kernel
theorem dX15_holds_124 : decode cX15_holds 124 = .ok (.getfield 231, 3) := by decide +kernel
theorem dX15_holds_127 : decode cX15_holds 127 = .ok (.aload_n 0, 1) := by decide +kernel
theorem dX15_holds_128 : decode cX15_holds 128 = .ok (.getfield 81, 3) := by decide +kernel
theorem dX15_holds_131 : decode cX15_holds 131 = .ok (.iconst 0, 1) := by decide +kernel
theorem dX15_holds_132 : decode cX15_holds 132 = .ok (.laload, 1) := by decide +kernel
theorem dX15_holds_133 : decode cX15_holds 133 = .ok (.invokevirtual 216, 3) := by decide +kernel
theorem dX15_holds_136 : decode cX15_holds 136 = .ok (.lstore_n 3, 1) := by decide +kernel
theorem dX15_holds_137 : decode cX15_holds 137 = .ok (.aload_n 0, 1) := by decide +kernel
theorem dX15_holds_138 : decode cX15_holds 138 = .ok (.aload_n 0, 1) := by decide +kernel
theorem dX15_holds_139 : decode cX15_holds 139 = .ok (.getfield 78, 3) := by decide +kernel
theorem dX15_holds_142 : decode cX15_holds 142 = .ok (.iconst 0, 1) := by decide +kernel
theorem dX15_holds_143 : decode cX15_holds 143 = .ok (.laload, 1) := by decide +kernel
theorem dX15_holds_144 : decode cX15_holds 144 = .ok (.aload_n 0, 1) := by decide +kernel
theorem dX15_holds_145 : decode cX15_holds 145 = .ok (.getfield 234, 3) := by decide +kernel
theorem dX15_holds_148 : decode cX15_holds 148 = .ok (.invokevirtual 216, 3) := by decide +kernel
theorem dX15_holds_151 : decode cX15_holds 151 = .ok (.lstore 5, 2) := by decide +kernel
theorem dX15_holds_153 : decode cX15_holds 153 = .ok (.aload_n 0, 1) := by decide +kernel
theorem dX15_holds_154 : decode cX15_holds 154 = .ok (.getfield 198, 3) := by decide +kernel
theorem dX15_holds_157 : decode cX15_holds 157 = .ok (.ifCond .le 5, 3) := by decide +kernel
theorem dX15_holds_162 : decode cX15_holds 162 = .ok (.aload_n 0, 1) := by decide +kernel
theorem dX15_holds_163 : decode cX15_holds 163 = .ok (.getfield 41, 3) := by decide +kernel
theorem dX15_holds_166 : decode cX15_holds 166 = .ok (.iload_n 1, 1) := by decide +kernel
theorem dX15_holds_167 : decode cX15_holds 167 = .ok (.iaload, 1) := by decide +kernel
theorem dX15_holds_168 : decode cX15_holds 168 = .ok (.istore 7, 2) := by decide +kernel
theorem dX15_holds_170 : decode cX15_holds 170 = .ok (.iload 7, 2) := by decide +kernel
theorem dX15_holds_172 : decode cX15_holds 172 = .ok (.ifCond .ne 18, 3) := by decide +kernel
theorem dX15_holds_190 : decode cX15_holds 190 = .ok (.iload 7, 2) := by decide +kernel
theorem dX15_holds_192 : decode cX15_holds 192 = .ok (.iconst 1, 1) := by decide +kernel
theorem dX15_holds_193 : decode cX15_holds 193 = .ok (.if_icmp .ne 18, 3) := by decide +kernel
theorem dX15_holds_211 : decode cX15_holds 211 = .ok (.iload 7, 2) := by decide +kernel
theorem dX15_holds_213 : decode cX15_holds 213 = .ok (.iconst 2, 1) := by decide +kernel
theorem dX15_holds_214 : decode cX15_holds 214 = .ok (.if_icmp .ne 18, 3) := by decide +kernel
theorem dX15_holds_232 : decode cX15_holds 232 = .ok (.iload 7, 2) := by decide +kernel
theorem dX15_holds_234 : decode cX15_holds 234 = .ok (.iconst 3, 1) := by decide +kernel
theorem dX15_holds_235 : decode cX15_holds 235 = .ok (.if_icmp .ne 18, 3) := by decide +kernel
theorem dX15_holds_253 : decode cX15_holds 253 = .ok (.lload_n 3, 1) := by decide +kernel
theorem dX15_holds_254 : decode cX15_holds 254 = .ok (.lload 5, 2) := by decide +kernel
theorem dX15_holds_256 : decode cX15_holds 256 = .ok (.lcmp, 1) := by decide +kernel
theorem dX15_holds_257 : decode cX15_holds 257 = .ok (.ifCond .le 7, 3) := by decide +kernel
theorem dX15_holds_264 : decode cX15_holds 264 = .ok (.iconst 0, 1) := by decide +kernel
theorem dX15_holds_265 : decode cX15_holds 265 = .ok (.ireturn, 1) := by decide +kernel
theorem dX15_holds_260 : decode cX15_holds 260 = .ok (.iconst 1, 1) := by decide +kernel
theorem dX15_holds_261 : decode cX15_holds 261 = .ok (.goto 4, 3) := by decide +kernel
theorem dX15_holds_238 : decode cX15_holds 238 = .ok (.lload_n 3, 1) := by decide +kernel
theorem dX15_holds_239 : decode cX15_holds 239 = .ok (.lload 5, 2) := by decide +kernel
theorem dX15_holds_241 : decode cX15_holds 241 = .ok (.lcmp, 1) := by decide +kernel
theorem dX15_holds_242 : decode cX15_holds 242 = .ok (.ifCond .lt 7, 3) := by decide +kernel
theorem dX15_holds_249 : decode cX15_holds 249 = .ok (.iconst 0, 1) := by decide +kernel
theorem dX15_holds_250 : decode cX15_holds 250 = .ok (.goto 15, 3) := by decide +kernel
theorem dX15_holds_245 : decode cX15_holds 245 = .ok (.iconst 1, 1) := by decide +kernel
theorem dX15_holds_246 : decode cX15_holds 246 = .ok (.goto 19, 3) := by decide +kernel
theorem dX15_holds_217 : decode cX15_holds 217 = .ok (.lload_n 3, 1) := by decide +kernel
theorem dX15_holds_218 : decode cX15_holds 218 = .ok (.lload 5, 2) := by decide +kernel
theorem dX15_holds_220 : decode cX15_holds 220 = .ok (.lcmp, 1) := by decide +kernel
theorem dX15_holds_221 : decode cX15_holds 221 = .ok (.ifCond .ne 7, 3) := by decide +kernel
theorem dX15_holds_228 : decode cX15_holds 228 = .ok (.iconst 0, 1) := by decide +kernel
theorem dX15_holds_229 : decode cX15_holds 229 = .ok (.goto 36, 3) := by decide +kernel
theorem dX15_holds_224 : decode cX15_holds 224 = .ok (.iconst 1, 1) := by decide +kernel
theorem dX15_holds_225 : decode cX15_holds 225 = .ok (.goto 40, 3) := by decide +kernel
theorem dX15_holds_196 : decode cX15_holds 196 = .ok (.lload_n 3, 1) := by decide +kernel
theorem dX15_holds_197 : decode cX15_holds 197 = .ok (.lload 5, 2) := by decide +kernel
theorem dX15_holds_199 : decode cX15_holds 199 = .ok (.lcmp, 1) := by decide +kernel
theorem dX15_holds_200 : decode cX15_holds 200 = .ok (.ifCond .gt 7, 3) := by decide +kernel
theorem dX15_holds_207 : decode cX15_holds 207 = .ok (.iconst 0, 1) := by decide +kernel
theorem dX15_holds_208 : decode cX15_holds 208 = .ok (.goto 57, 3) := by decide +kernel
theorem dX15_holds_203 : decode cX15_holds 203 = .ok (.iconst 1, 1) := by decide +kernel
theorem dX15_holds_204 : decode cX15_holds 204 = .ok (.goto 61, 3) := by decide +kernel
theorem dX15_holds_175 : decode cX15_holds 175 = .ok (.lload_n 3, 1) := by decide +kernel
theorem dX15_holds_176 : decode cX15_holds 176 = .ok (.lload 5, 2) := by decide +kernel
theorem dX15_holds_178 : decode cX15_holds 178 = .ok (.lcmp, 1) := by decide +kernel
theorem dX15_holds_179 : decode cX15_holds 179 = .ok (.ifCond .ge 7, 3) := by decide +kernel
theorem dX15_holds_186 : decode cX15_holds 186 = .ok (.iconst 0, 1) := by decide +kernel
theorem dX15_holds_187 : decode cX15_holds 187 = .ok (.goto 78, 3) := by decide +kernel
theorem dX15_holds_182 : decode cX15_holds 182 = .ok (.iconst 1, 1) := by decide +kernel
theorem dX15_holds_183 : decode cX15_holds 183 = .ok (.goto 82, 3) := by decide +kernel
theorem dX15_holds_160 : decode cX15_holds 160 = .ok (.iconst 0, 1) := by decide +kernel
theorem dX15_holds_161 : decode cX15_holds 161 = .ok (.ireturn, 1) := by decide +kernel
theorem dX15_holds_98 : decode cX15_holds 98 = .ok (.aload_n 0, 1) := by decide +kernel
theorem dX15_holds_99 : decode cX15_holds 99 = .ok (.getfield 63, 3) := by decide +kernel
theorem dX15_holds_102 : decode cX15_holds 102 = .ok (.iload_n 2, 1) := by decide +kernel
theorem dX15_holds_103 : decode cX15_holds 103 = .ok (.aload_n 0, 1) := by decide +kernel
theorem dX15_holds_104 : decode cX15_holds 104 = .ok (.getfield 78, 3) := by decide +kernel
theorem dX15_holds_107 : decode cX15_holds 107 = .ok (.iconst 0, 1) := by decide +kernel
theorem dX15_holds_108 : decode cX15_holds 108 = .ok (.laload, 1) := by decide +kernel
theorem dX15_holds_109 : decode cX15_holds 109 = .ok (.lastore, 1) := by decide +kernel
theorem dX15_holds_110 : decode cX15_holds 110 = .ok (.aload_n 0, 1) := by decide +kernel
theorem dX15_holds_111 : decode cX15_holds 111 = .ok (.getfield 66, 3) := by decide +kernel
theorem dX15_holds_114 : decode cX15_holds 114 = .ok (.iload_n 2, 1) := by decide +kernel
theorem dX15_holds_115 : decode cX15_holds 115 = .ok (.aload_n 0, 1) := by decide +kernel
theorem dX15_holds_116 : decode cX15_holds 116 = .ok (.getfield 81, 3) := by decide +kernel
theorem dX15_holds_119 : decode cX15_holds 119 = .ok (.iconst 0, 1) := by decide +kernel
theorem dX15_holds_120 : decode cX15_holds 120 = .ok (.laload, 1) := by decide +kernel
theorem dX15_holds_121 : decode cX15_holds 121 = .ok (.lastore, 1) := by decide +kernel
theorem dX15_holds_92 : decode cX15_holds 92 = .ok (.iconst 0, 1) := by decide +kernel
theorem dX15_holds_93 : decode cX15_holds 93 = .ok (.ireturn, 1) := by decide +kernel
theorem dX15_holds_49 : decode cX15_holds 49 = .ok (.aload_n 0, 1) := by decide +kernel
theorem dX15_holds_50 : decode cX15_holds 50 = .ok (.getfield 57, 3) := by decide +kernel
theorem dX15_holds_53 : decode cX15_holds 53 = .ok (.iload_n 2, 1) := by decide +kernel
theorem dX15_holds_54 : decode cX15_holds 54 = .ok (.aload_n 0, 1) := by decide +kernel
theorem dX15_holds_55 : decode cX15_holds 55 = .ok (.getfield 231, 3) := by decide +kernel
theorem dX15_holds_58 : decode cX15_holds 58 = .ok (.lastore, 1) := by decide +kernel
theorem dX15_holds_59 : decode cX15_holds 59 = .ok (.aload_n 0, 1) := by decide +kernel
theorem dX15_holds_60 : decode cX15_holds 60 = .ok (.getfield 60, 3) := by decide +kernel
theorem dX15_holds_63 : decode cX15_holds 63 = .ok (.iload_n 2, 1) := by decide +kernel
theorem dX15_holds_64 : decode cX15_holds 64 = .ok (.aload_n 0, 1) := by decide +kernel
theorem dX15_holds_65 : decode cX15_holds 65 = .ok (.getfield 234, 3) := by decide +kernel
theorem dX15_holds_68 : decode cX15_holds 68 = .ok (.lastore, 1) := by decide +kernel
theorem dX15_holds_23 : decode cX15_holds 23 = .ok (.iconst 0, 1) := by decide +kernel
theorem dX15_holds_24 : decode cX15_holds 24 = .ok (.ireturn, 1) := by decide +kernel
theorem dX15_ask_0 : decode cX15_ask 0 = .ok (.aload_n 0, 1) := by decide +kernel
theorem dX15_ask_1 : decode cX15_ask 1 = .ok (.iconst 0, 1) := by decide +kernel
theorem dX15_ask_2 : decode cX15_ask 2 = .ok (.putfield 198, 3) := by decide +kernel
theorem dX15_ask_5 : decode cX15_ask 5 = .ok (.aload_n 0, 1) := by decide +kernel
theorem dX15_ask_6 : decode cX15_ask 6 = .ok (.lconst 0, 1) := by decide +kernel
theorem dX15_ask_7 : decode cX15_ask 7 = .ok (.putfield 201, 3) := by decide +kernel
theorem dX15_ask_10 : decode cX15_ask 10 = .ok (.iload_n 2, 1) := by decide +kernel
theorem dX15_ask_11 : decode cX15_ask 11 = .ok (.aload_n 0, 1) := by decide +kernel
theorem dX15_ask_12 : decode cX15_ask 12 = .ok (.getfield 29, 3) := by decide +kernel
theorem dX15_ask_15 : decode cX15_ask 15 = .ok (.iload_n 1, 1) := by decide +kernel
theorem dX15_ask_16 : decode cX15_ask 16 = .ok (.iaload, 1) := by decide +kernel
theorem dX15_ask_17 : decode cX15_ask 17 = .ok (.if_icmp .ge 5, 3) := by decide +kernel
theorem dX15_ask_22 : decode cX15_ask 22 = .ok (.aload_n 0, 1) := by decide +kernel
theorem dX15_ask_23 : decode cX15_ask 23 = .ok (.getfield 23, 3) := by decide +kernel
theorem dX15_ask_26 : decode cX15_ask 26 = .ok (.iload_n 1, 1) := by decide +kernel
theorem dX15_ask_27 : decode cX15_ask 27 = .ok (.iaload, 1) := by decide +kernel
theorem dX15_ask_28 : decode cX15_ask 28 = .ok (.istore 4, 2) := by decide +kernel
theorem dX15_ask_30 : decode cX15_ask 30 = .ok (.aload_n 0, 1) := by decide +kernel
theorem dX15_ask_31 : decode cX15_ask 31 = .ok (.iload 4, 2) := by decide +kernel
theorem dX15_ask_33 : decode cX15_ask 33 = .ok (.iload_n 3, 1) := by decide +kernel
theorem dX15_ask_34 : decode cX15_ask 34 = .ok (.ifCond .eq 7, 3) := by decide +kernel
theorem dX15_ask_41 : decode cX15_ask 41 = .ok (.iconst (-1), 1) := by decide +kernel
theorem dX15_ask_42 : decode cX15_ask 42 = .ok (.invokevirtual 237, 3) := by decide +kernel
theorem dX15_ask_45 : decode cX15_ask 45 = .ok (.istore 5, 2) := by decide +kernel
theorem dX15_ask_47 : decode cX15_ask 47 = .ok (.aload_n 0, 1) := by decide +kernel
theorem dX15_ask_48 : decode cX15_ask 48 = .ok (.getfield 198, 3) := by decide +kernel
theorem dX15_ask_51 : decode cX15_ask 51 = .ok (.ifCond .le 5, 3) := by decide +kernel
theorem dX15_ask_56 : decode cX15_ask 56 = .ok (.iload 5, 2) := by decide +kernel
theorem dX15_ask_58 : decode cX15_ask 58 = .ok (.ifCond .eq 5, 3) := by decide +kernel
theorem dX15_ask_63 : decode cX15_ask 63 = .ok (.aload_n 0, 1) := by decide +kernel
theorem dX15_ask_64 : decode cX15_ask 64 = .ok (.getfield 26, 3) := by decide +kernel
theorem dX15_ask_67 : decode cX15_ask 67 = .ok (.iload_n 1, 1) := by decide +kernel
theorem dX15_ask_68 : decode cX15_ask 68 = .ok (.iaload, 1) := by decide +kernel
theorem dX15_ask_69 : decode cX15_ask 69 = .ok (.ifCond .le 7, 3) := by decide +kernel
theorem dX15_ask_76 : decode cX15_ask 76 = .ok (.iconst 0, 1) := by decide +kernel
theorem dX15_ask_77 : decode cX15_ask 77 = .ok (.istore 6, 2) := by decide +kernel
theorem dX15_ask_79 : decode cX15_ask 79 = .ok (.iconst 1, 1) := by decide +kernel
theorem dX15_ask_80 : decode cX15_ask 80 = .ok (.istore 7, 2) := by decide +kernel
theorem dX15_ask_82 : decode cX15_ask 82 = .ok (.iload 7, 2) := by decide +kernel
theorem dX15_ask_84 : decode cX15_ask 84 = .ok (.aload_n 0, 1) := by decide +kernel
theorem dX15_ask_85 : decode cX15_ask 85 = .ok (.getfield 26, 3) := by decide +kernel
theorem dX15_ask_88 : decode cX15_ask 88 = .ok (.iload_n 1, 1) := by decide +kernel
theorem dX15_ask_89 : decode cX15_ask 89 = .ok (.iaload, 1) := by decide +kernel
theorem dX15_ask_90 : decode cX15_ask 90 = .ok (.if_icmp .gt 26, 3) := by decide +kernel
theorem dX15_ask_93 : decode cX15_ask 93 = .ok (.iload 6, 2) := by decide +kernel
theorem dX15_ask_95 : decode cX15_ask 95 = .ok (.ifCond .eq 21, 3) := by decide +kernel
theorem dX15_ask_98 : decode cX15_ask 98 = .ok (.aload_n 0, 1) := by decide +kernel
theorem dX15_ask_99 : decode cX15_ask 99 = .ok (.iload 4, 2) := by decide +kernel
theorem dX15_ask_101 : decode cX15_ask 101 = .ok (.iload 7, 2) := by decide +kernel
theorem dX15_ask_103 : decode cX15_ask 103 = .ok (.iadd, 1) := by decide +kernel
theorem dX15_ask_104 : decode cX15_ask 104 = .ok (.iconst (-1), 1) := by decide +kernel
theorem dX15_ask_105 : decode cX15_ask 105 = .ok (.invokevirtual 237, 3) := by decide +kernel
theorem dX15_ask_108 : decode cX15_ask 108 = .ok (.istore 6, 2) := by decide +kernel
theorem dX15_ask_110 : decode cX15_ask 110 = .ok (.iinc 7 1, 3) := by decide +kernel
theorem dX15_ask_113 : decode cX15_ask 113 = .ok (.goto (-31), 3) := by decide +kernel
theorem dX15_ask_116 : decode cX15_ask 116 = .ok (.aload_n 0, 1) := by decide +kernel
theorem dX15_ask_117 : decode cX15_ask 117 = .ok (.getfield 198, 3) := by decide +kernel
theorem dX15_ask_120 : decode cX15_ask 120 = .ok (.ifCond .le 7, 3) := by decide +kernel
theorem dX15_ask_127 : decode cX15_ask 127 = .ok (.iload 6, 2) := by decide +kernel
theorem dX15_ask_129 : decode cX15_ask 129 = .ok (.ifCond .eq 7, 3) := by decide +kernel
theorem dX15_ask_136 : decode cX15_ask 136 = .ok (.iconst 1, 1) := by decide +kernel
theorem dX15_ask_137 : decode cX15_ask 137 = .ok (.ireturn, 1) := by decide +kernel
theorem dX15_ask_132 : decode cX15_ask 132 = .ok (.iconst 2, 1) := by decide +kernel
theorem dX15_ask_133 : decode cX15_ask 133 = .ok (.goto 4, 3) := by decide +kernel
theorem dX15_ask_123 : decode cX15_ask 123 = .ok (.iconst 3, 1) := by decide +kernel
theorem dX15_ask_124 : decode cX15_ask 124 = .ok (.goto 13, 3) := by decide +kernel
theorem dX15_ask_72 : decode cX15_ask 72 = .ok (.iconst 1, 1) := by decide +kernel
theorem dX15_ask_73 : decode cX15_ask 73 = .ok (.goto 4, 3) := by decide +kernel
theorem dX15_ask_61 : decode cX15_ask 61 = .ok (.iconst 0, 1) := by decide +kernel
theorem dX15_ask_62 : decode cX15_ask 62 = .ok (.ireturn, 1) := by decide +kernel
theorem dX15_ask_54 : decode cX15_ask 54 = .ok (.iconst 3, 1) := by decide +kernel
theorem dX15_ask_55 : decode cX15_ask 55 = .ok (.ireturn, 1) := by decide +kernel
theorem dX15_ask_37 : decode cX15_ask 37 = .ok (.iload_n 1, 1) := by decide +kernel
theorem dX15_ask_38 : decode cX15_ask 38 = .ok (.goto 4, 3) := by decide +kernel
theorem dX15_ask_20 : decode cX15_ask 20 = .ok (.iconst 4, 1) := by decide +kernel
theorem dX15_ask_21 : decode cX15_ask 21 = .ok (.ireturn, 1) := by decide +kernel
theorem dX15_run_0 : decode cX15_run 0 = .ok (.aload_n 0, 1) := by decide +kernel
theorem dX15_run_1 : decode cX15_run 1 = .ok (.iload_n 1, 1) := by decide +kernel
theorem dX15_run_2 : decode cX15_run 2 = .ok (.putfield 50, 3) := by decide +kernel
theorem dX15_run_5 : decode cX15_run 5 = .ok (.iconst 0, 1) := by decide +kernel
theorem dX15_run_6 : decode cX15_run 6 = .ok (.istore_n 2, 1) := by decide +kernel
theorem dX15_run_7 : decode cX15_run 7 = .ok (.iconst 0, 1) := by decide +kernel
theorem dX15_run_8 : decode cX15_run 8 = .ok (.istore_n 3, 1) := by decide +kernel
theorem dX15_run_9 : decode cX15_run 9 = .ok (.iload_n 3, 1) := by decide +kernel
theorem dX15_run_10 : decode cX15_run 10 = .ok (.aload_n 0, 1) := by decide +kernel
theorem dX15_run_11 : decode cX15_run 11 = .ok (.getfield 174, 3) := by decide +kernel
theorem dX15_run_14 : decode cX15_run 14 = .ok (.if_icmp .ge 88, 3) := by decide +kernel
theorem dX15_run_17 : decode cX15_run 17 = .ok (.aload_n 0, 1) := by decide +kernel
theorem dX15_run_18 : decode cX15_run 18 = .ok (.getfield 57, 3) := by decide +kernel
theorem dX15_run_21 : decode cX15_run 21 = .ok (.iload_n 3, 1) := by decide +kernel
theorem dX15_run_22 : decode cX15_run 22 = .ok (.lconst 0, 1) := by decide +kernel
theorem dX15_run_23 : decode cX15_run 23 = .ok (.lastore, 1) := by decide +kernel
theorem dX15_run_24 : decode cX15_run 24 = .ok (.aload_n 0, 1) := by decide +kernel
theorem dX15_run_25 : decode cX15_run 25 = .ok (.getfield 60, 3) := by decide +kernel
theorem dX15_run_28 : decode cX15_run 28 = .ok (.iload_n 3, 1) := by decide +kernel
theorem dX15_run_29 : decode cX15_run 29 = .ok (.lconst 0, 1) := by decide +kernel
theorem dX15_run_30 : decode cX15_run 30 = .ok (.lastore, 1) := by decide +kernel
theorem dX15_run_31 : decode cX15_run 31 = .ok (.aload_n 0, 1) := by decide +kernel
theorem dX15_run_32 : decode cX15_run 32 = .ok (.getfield 63, 3) := by decide +kernel
theorem dX15_run_35 : decode cX15_run 35 = .ok (.iload_n 3, 1) := by decide +kernel
theorem dX15_run_36 : decode cX15_run 36 = .ok (.lconst 0, 1) := by decide +kernel
theorem dX15_run_37 : decode cX15_run 37 = .ok (.lastore, 1) := by decide +kernel
theorem dX15_run_38 : decode cX15_run 38 = .ok (.aload_n 0, 1) := by decide +kernel
theorem dX15_run_39 : decode cX15_run 39 = .ok (.getfield 66, 3) := by decide +kernel
theorem dX15_run_42 : decode cX15_run 42 = .ok (.iload_n 3, 1) := by decide +kernel
theorem dX15_run_43 : decode cX15_run 43 = .ok (.lconst 0, 1) := by decide +kernel
theorem dX15_run_44 : decode cX15_run 44 = .ok (.lastore, 1) := by decide +kernel
theorem dX15_run_45 : decode cX15_run 45 = .ok (.aload_n 0, 1) := by decide +kernel
theorem dX15_run_46 : decode cX15_run 46 = .ok (.getfield 54, 3) := by decide +kernel
theorem dX15_run_49 : decode cX15_run 49 = .ok (.iload_n 3, 1) := by decide +kernel
theorem dX15_run_50 : decode cX15_run 50 = .ok (.aload_n 0, 1) := by decide +kernel
theorem dX15_run_51 : decode cX15_run 51 = .ok (.iload_n 3, 1) := by decide +kernel
theorem dX15_run_52 : decode cX15_run 52 = .ok (.iload_n 1, 1) := by decide +kernel
theorem dX15_run_53 : decode cX15_run 53 = .ok (.iconst 1, 1) := by decide +kernel
theorem dX15_run_54 : decode cX15_run 54 = .ok (.invokevirtual 241, 3) := by decide +kernel
theorem dX15_run_57 : decode cX15_run 57 = .ok (.iastore, 1) := by decide +kernel
theorem dX15_run_58 : decode cX15_run 58 = .ok (.aload_n 0, 1) := by decide +kernel
theorem dX15_run_59 : decode cX15_run 59 = .ok (.getfield 69, 3) := by decide +kernel
theorem dX15_run_62 : decode cX15_run 62 = .ok (.iload_n 3, 1) := by decide +kernel
theorem dX15_run_63 : decode cX15_run 63 = .ok (.aload_n 0, 1) := by decide +kernel
theorem dX15_run_64 : decode cX15_run 64 = .ok (.getfield 198, 3) := by decide +kernel
theorem dX15_run_67 : decode cX15_run 67 = .ok (.iastore, 1) := by decide +kernel
theorem dX15_run_68 : decode cX15_run 68 = .ok (.aload_n 0, 1) := by decide +kernel
theorem dX15_run_69 : decode cX15_run 69 = .ok (.getfield 72, 3) := by decide +kernel
theorem dX15_run_72 : decode cX15_run 72 = .ok (.iload_n 3, 1) := by decide +kernel
theorem dX15_run_73 : decode cX15_run 73 = .ok (.aload_n 0, 1) := by decide +kernel
theorem dX15_run_74 : decode cX15_run 74 = .ok (.getfield 201, 3) := by decide +kernel
theorem dX15_run_77 : decode cX15_run 77 = .ok (.lastore, 1) := by decide +kernel
theorem dX15_run_78 : decode cX15_run 78 = .ok (.iload_n 2, 1) := by decide +kernel
theorem dX15_run_79 : decode cX15_run 79 = .ok (.aload_n 0, 1) := by decide +kernel
theorem dX15_run_80 : decode cX15_run 80 = .ok (.getfield 54, 3) := by decide +kernel
theorem dX15_run_83 : decode cX15_run 83 = .ok (.iload_n 3, 1) := by decide +kernel
theorem dX15_run_84 : decode cX15_run 84 = .ok (.iaload, 1) := by decide +kernel
theorem dX15_run_85 : decode cX15_run 85 = .ok (.iconst 1, 1) := by decide +kernel
theorem dX15_run_86 : decode cX15_run 86 = .ok (.if_icmp .ne 7, 3) := by decide +kernel
theorem dX15_run_93 : decode cX15_run 93 = .ok (.iconst 0, 1) := by decide +kernel
theorem dX15_run_94 : decode cX15_run 94 = .ok (.iadd, 1) := by decide +kernel
theorem dX15_run_95 : decode cX15_run 95 = .ok (.istore_n 2, 1) := by decide +kernel
theorem dX15_run_96 : decode cX15_run 96 = .ok (.iinc 3 1, 3) := by decide +kernel
theorem dX15_run_99 : decode cX15_run 99 = .ok (.goto (-90), 3) := by decide +kernel
theorem dX15_run_89 : decode cX15_run 89 = .ok (.iconst 1, 1) := by decide +kernel
theorem dX15_run_90 : decode cX15_run 90 = .ok (.goto 4, 3) := by decide +kernel
theorem dX15_run_102 : decode cX15_run 102 = .ok (.iload_n 2, 1) := by decide +kernel
theorem dX15_run_103 : decode cX15_run 103 = .ok (.ireturn, 1) := by decide +kernel
theorem dX15_told_0 : decode cX15_told 0 = .ok (.iload_n 2, 1) := by decide +kernel
theorem dX15_told_1 : decode cX15_told 1 = .ok (.tableswitch 83 0 5 #[39, 47, 54, 61, 68, 75], 39) := by decide +kernel
theorem dX15_told_84 : decode cX15_told 84 = .ok (.aload_n 0, 1) := by decide +kernel
theorem dX15_told_85 : decode cX15_told 85 = .ok (.getfield 72, 3) := by decide +kernel
theorem dX15_told_88 : decode cX15_told 88 = .ok (.iload_n 1, 1) := by decide +kernel
theorem dX15_told_89 : decode cX15_told 89 = .ok (.laload, 1) := by decide +kernel
theorem dX15_told_90 : decode cX15_told 90 = .ok (.lreturn, 1) := by decide +kernel
theorem dX15_told_40 : decode cX15_told 40 = .ok (.aload_n 0, 1) := by decide +kernel
theorem dX15_told_41 : decode cX15_told 41 = .ok (.getfield 54, 3) := by decide +kernel
theorem dX15_told_44 : decode cX15_told 44 = .ok (.iload_n 1, 1) := by decide +kernel
theorem dX15_told_45 : decode cX15_told 45 = .ok (.iaload, 1) := by decide +kernel
theorem dX15_told_46 : decode cX15_told 46 = .ok (.i2l, 1) := by decide +kernel
theorem dX15_told_47 : decode cX15_told 47 = .ok (.lreturn, 1) := by decide +kernel
theorem dX15_told_48 : decode cX15_told 48 = .ok (.aload_n 0, 1) := by decide +kernel
theorem dX15_told_49 : decode cX15_told 49 = .ok (.getfield 57, 3) := by decide +kernel
theorem dX15_told_52 : decode cX15_told 52 = .ok (.iload_n 1, 1) := by decide +kernel
theorem dX15_told_53 : decode cX15_told 53 = .ok (.laload, 1) := by decide +kernel
theorem dX15_told_54 : decode cX15_told 54 = .ok (.lreturn, 1) := by decide +kernel
theorem dX15_told_55 : decode cX15_told 55 = .ok (.aload_n 0, 1) := by decide +kernel
theorem dX15_told_56 : decode cX15_told 56 = .ok (.getfield 60, 3) := by decide +kernel
theorem dX15_told_59 : decode cX15_told 59 = .ok (.iload_n 1, 1) := by decide +kernel
theorem dX15_told_60 : decode cX15_told 60 = .ok (.laload, 1) := by decide +kernel
theorem dX15_told_61 : decode cX15_told 61 = .ok (.lreturn, 1) := by decide +kernel
theorem dX15_told_62 : decode cX15_told 62 = .ok (.aload_n 0, 1) := by decide +kernel
theorem dX15_told_63 : decode cX15_told 63 = .ok (.getfield 63, 3) := by decide +kernel
theorem dX15_told_66 : decode cX15_told 66 = .ok (.iload_n 1, 1) := by decide +kernel
theorem dX15_told_67 : decode cX15_told 67 = .ok (.laload, 1) := by decide +kernel
theorem dX15_told_68 : decode cX15_told 68 = .ok (.lreturn, 1) := by decide +kernel
theorem dX15_told_69 : decode cX15_told 69 = .ok (.aload_n 0, 1) := by decide +kernel
theorem dX15_told_70 : decode cX15_told 70 = .ok (.getfield 66, 3) := by decide +kernel
theorem dX15_told_73 : decode cX15_told 73 = .ok (.iload_n 1, 1) := by decide +kernel
theorem dX15_told_74 : decode cX15_told 74 = .ok (.laload, 1) := by decide +kernel
theorem dX15_told_75 : decode cX15_told 75 = .ok (.lreturn, 1) := by decide +kernel
theorem dX15_told_76 : decode cX15_told 76 = .ok (.aload_n 0, 1) := by decide +kernel
theorem dX15_told_77 : decode cX15_told 77 = .ok (.getfield 69, 3) := by decide +kernel
theorem dX15_told_80 : decode cX15_told 80 = .ok (.iload_n 1, 1) := by decide +kernel
theorem dX15_told_81 : decode cX15_told 81 = .ok (.iaload, 1) := by decide +kernel
theorem dX15_told_82 : decode cX15_told 82 = .ok (.i2l, 1) := by decide +kernel
theorem dX15_told_83 : decode cX15_told 83 = .ok (.lreturn, 1) := by decide +kernel
theorem dX16_highX_0 : decode cX16_highX 0 = .ok (.aload_n 0, 1) := by decide +kernel
theorem dX16_highX_1 : decode cX16_highX 1 = .ok (.getfield 7, 3) := by decide +kernel
theorem dX16_highX_4 : decode cX16_highX 4 = .ok (.iload_n 1, 1) := by decide +kernel
theorem dX16_highX_5 : decode cX16_highX 5 = .ok (.iaload, 1) := by decide +kernel
theorem dX16_highX_6 : decode cX16_highX 6 = .ok (.aload_n 0, 1) := by decide +kernel
theorem dX16_highX_7 : decode cX16_highX 7 = .ok (.getfield 16, 3) := by decide +kernel
theorem dX16_highX_10 : decode cX16_highX 10 = .ok (.iload_n 1, 1) := by decide +kernel
theorem dX16_highX_11 : decode cX16_highX 11 = .ok (.baload, 1) := by decide +kernel
theorem dX16_highX_12 : decode cX16_highX 12 = .ok (.ifCond .eq 12, 3) := by decide +kernel
theorem dX16_highX_24 : decode cX16_highX 24 = .ok (.iconst 0, 1) := by decide +kernel
theorem dX16_highX_25 : decode cX16_highX 25 = .ok (.iadd, 1) := by decide +kernel
theorem dX16_highX_26 : decode cX16_highX 26 = .ok (.ireturn, 1) := by decide +kernel
theorem dX16_highX_15 : decode cX16_highX 15 = .ok (.aload_n 0, 1) := by decide +kernel
theorem dX16_highX_16 : decode cX16_highX 16 = .ok (.getfield 20, 3) := by decide +kernel
theorem dX16_highX_19 : decode cX16_highX 19 = .ok (.iload_n 1, 1) := by decide +kernel
theorem dX16_highX_20 : decode cX16_highX 20 = .ok (.iaload, 1) := by decide +kernel
theorem dX16_highX_21 : decode cX16_highX 21 = .ok (.goto 4, 3) := by decide +kernel
theorem dX16_highY_0 : decode cX16_highY 0 = .ok (.aload_n 0, 1) := by decide +kernel
theorem dX16_highY_1 : decode cX16_highY 1 = .ok (.getfield 13, 3) := by decide +kernel
theorem dX16_highY_4 : decode cX16_highY 4 = .ok (.iload_n 1, 1) := by decide +kernel
theorem dX16_highY_5 : decode cX16_highY 5 = .ok (.iaload, 1) := by decide +kernel
theorem dX16_highY_6 : decode cX16_highY 6 = .ok (.aload_n 0, 1) := by decide +kernel
theorem dX16_highY_7 : decode cX16_highY 7 = .ok (.getfield 16, 3) := by decide +kernel
theorem dX16_highY_10 : decode cX16_highY 10 = .ok (.iload_n 1, 1) := by decide +kernel
theorem dX16_highY_11 : decode cX16_highY 11 = .ok (.baload, 1) := by decide +kernel
theorem dX16_highY_12 : decode cX16_highY 12 = .ok (.ifCond .eq 7, 3) := by decide +kernel
theorem dX16_highY_19 : decode cX16_highY 19 = .ok (.aload_n 0, 1) := by decide +kernel
theorem dX16_highY_20 : decode cX16_highY 20 = .ok (.getfield 20, 3) := by decide +kernel
theorem dX16_highY_23 : decode cX16_highY 23 = .ok (.iload_n 1, 1) := by decide +kernel
theorem dX16_highY_24 : decode cX16_highY 24 = .ok (.iaload, 1) := by decide +kernel
theorem dX16_highY_25 : decode cX16_highY 25 = .ok (.iadd, 1) := by decide +kernel
theorem dX16_highY_26 : decode cX16_highY 26 = .ok (.ireturn, 1) := by decide +kernel
theorem dX16_highY_15 : decode cX16_highY 15 = .ok (.iconst 0, 1) := by decide +kernel
theorem dX16_highY_16 : decode cX16_highY 16 = .ok (.goto 9, 3) := by decide +kernel
theorem dX16_isOn_0 : decode cX16_isOn 0 = .ok (.iload_n 2, 1) := by decide +kernel
theorem dX16_isOn_1 : decode cX16_isOn 1 = .ok (.aload_n 0, 1) := by decide +kernel
theorem dX16_isOn_2 : decode cX16_isOn 2 = .ok (.getfield 7, 3) := by decide +kernel
theorem dX16_isOn_5 : decode cX16_isOn 5 = .ok (.iload_n 1, 1) := by decide +kernel
theorem dX16_isOn_6 : decode cX16_isOn 6 = .ok (.iaload, 1) := by decide +kernel
theorem dX16_isOn_7 : decode cX16_isOn 7 = .ok (.if_icmp .lt 35, 3) := by decide +kernel
theorem dX16_isOn_42 : decode cX16_isOn 42 = .ok (.iconst 0, 1) := by decide +kernel
theorem dX16_isOn_43 : decode cX16_isOn 43 = .ok (.ireturn, 1) := by decide +kernel
theorem dX16_isOn_10 : decode cX16_isOn 10 = .ok (.iload_n 2, 1) := by decide +kernel
theorem dX16_isOn_11 : decode cX16_isOn 11 = .ok (.aload_n 0, 1) := by decide +kernel
theorem dX16_isOn_12 : decode cX16_isOn 12 = .ok (.iload_n 1, 1) := by decide +kernel
theorem dX16_isOn_13 : decode cX16_isOn 13 = .ok (.invokevirtual 89, 3) := by decide +kernel
theorem dX16_isOn_16 : decode cX16_isOn 16 = .ok (.if_icmp .gt 26, 3) := by decide +kernel
theorem dX16_isOn_19 : decode cX16_isOn 19 = .ok (.iload_n 3, 1) := by decide +kernel
theorem dX16_isOn_20 : decode cX16_isOn 20 = .ok (.aload_n 0, 1) := by decide +kernel
theorem dX16_isOn_21 : decode cX16_isOn 21 = .ok (.getfield 13, 3) := by decide +kernel
theorem dX16_isOn_24 : decode cX16_isOn 24 = .ok (.iload_n 1, 1) := by decide +kernel
theorem dX16_isOn_25 : decode cX16_isOn 25 = .ok (.iaload, 1) := by decide +kernel
theorem dX16_isOn_26 : decode cX16_isOn 26 = .ok (.if_icmp .lt 16, 3) := by decide +kernel
theorem dX16_isOn_29 : decode cX16_isOn 29 = .ok (.iload_n 3, 1) := by decide +kernel
theorem dX16_isOn_30 : decode cX16_isOn 30 = .ok (.aload_n 0, 1) := by decide +kernel
theorem dX16_isOn_31 : decode cX16_isOn 31 = .ok (.iload_n 1, 1) := by decide +kernel
theorem dX16_isOn_32 : decode cX16_isOn 32 = .ok (.invokevirtual 93, 3) := by decide +kernel
theorem dX16_isOn_35 : decode cX16_isOn 35 = .ok (.if_icmp .gt 7, 3) := by decide +kernel
theorem dX16_isOn_38 : decode cX16_isOn 38 = .ok (.iconst 1, 1) := by decide +kernel
theorem dX16_isOn_39 : decode cX16_isOn 39 = .ok (.goto 4, 3) := by decide +kernel
theorem dX16_along_0 : decode cX16_along 0 = .ok (.aload_n 0, 1) := by decide +kernel
theorem dX16_along_1 : decode cX16_along 1 = .ok (.getfield 16, 3) := by decide +kernel
theorem dX16_along_4 : decode cX16_along 4 = .ok (.iload_n 1, 1) := by decide +kernel
theorem dX16_along_5 : decode cX16_along 5 = .ok (.baload, 1) := by decide +kernel
theorem dX16_along_6 : decode cX16_along 6 = .ok (.aload_n 0, 1) := by decide +kernel
theorem dX16_along_7 : decode cX16_along 7 = .ok (.getfield 16, 3) := by decide +kernel
theorem dX16_along_10 : decode cX16_along 10 = .ok (.iload_n 2, 1) := by decide +kernel
theorem dX16_along_11 : decode cX16_along 11 = .ok (.baload, 1) := by decide +kernel
theorem dX16_along_12 : decode cX16_along 12 = .ok (.if_icmp .ne 45, 3) := by decide +kernel
theorem dX16_along_57 : decode cX16_along 57 = .ok (.iconst (-1), 1) := by decide +kernel
theorem dX16_along_58 : decode cX16_along 58 = .ok (.ireturn, 1) := by decide +kernel
theorem dX16_along_15 : decode cX16_along 15 = .ok (.aload_n 0, 1) := by decide +kernel
theorem dX16_along_16 : decode cX16_along 16 = .ok (.getfield 16, 3) := by decide +kernel
theorem dX16_along_19 : decode cX16_along 19 = .ok (.iload_n 1, 1) := by decide +kernel
theorem dX16_along_20 : decode cX16_along 20 = .ok (.baload, 1) := by decide +kernel
theorem dX16_along_21 : decode cX16_along 21 = .ok (.ifCond .eq 21, 3) := by decide +kernel
theorem dX16_along_42 : decode cX16_along 42 = .ok (.aload_n 0, 1) := by decide +kernel
theorem dX16_along_43 : decode cX16_along 43 = .ok (.getfield 7, 3) := by decide +kernel
theorem dX16_along_46 : decode cX16_along 46 = .ok (.iload_n 1, 1) := by decide +kernel
theorem dX16_along_47 : decode cX16_along 47 = .ok (.iaload, 1) := by decide +kernel
theorem dX16_along_48 : decode cX16_along 48 = .ok (.aload_n 0, 1) := by decide +kernel
theorem dX16_along_49 : decode cX16_along 49 = .ok (.getfield 7, 3) := by decide +kernel
theorem dX16_along_52 : decode cX16_along 52 = .ok (.iload_n 2, 1) := by decide +kernel
theorem dX16_along_53 : decode cX16_along 53 = .ok (.iaload, 1) := by decide +kernel
theorem dX16_along_54 : decode cX16_along 54 = .ok (.if_icmp .eq 5, 3) := by decide +kernel
theorem dX16_along_59 : decode cX16_along 59 = .ok (.aload_n 0, 1) := by decide +kernel
theorem dX16_along_60 : decode cX16_along 60 = .ok (.getfield 16, 3) := by decide +kernel
theorem dX16_along_63 : decode cX16_along 63 = .ok (.iload_n 1, 1) := by decide +kernel
theorem dX16_along_64 : decode cX16_along 64 = .ok (.baload, 1) := by decide +kernel
theorem dX16_along_65 : decode cX16_along 65 = .ok (.ifCond .eq 36, 3) := by decide +kernel
theorem dX16_along_101 : decode cX16_along 101 = .ok (.aload_n 0, 1) := by decide +kernel
theorem dX16_along_102 : decode cX16_along 102 = .ok (.getfield 13, 3) := by decide +kernel
theorem dX16_along_105 : decode cX16_along 105 = .ok (.iload_n 1, 1) := by decide +kernel
theorem dX16_along_106 : decode cX16_along 106 = .ok (.iaload, 1) := by decide +kernel
theorem dX16_along_107 : decode cX16_along 107 = .ok (.aload_n 0, 1) := by decide +kernel
theorem dX16_along_108 : decode cX16_along 108 = .ok (.getfield 13, 3) := by decide +kernel
theorem dX16_along_111 : decode cX16_along 111 = .ok (.iload_n 2, 1) := by decide +kernel
theorem dX16_along_112 : decode cX16_along 112 = .ok (.iaload, 1) := by decide +kernel
theorem dX16_along_113 : decode cX16_along 113 = .ok (.if_icmp .le 12, 3) := by decide +kernel
theorem dX16_along_125 : decode cX16_along 125 = .ok (.aload_n 0, 1) := by decide +kernel
theorem dX16_along_126 : decode cX16_along 126 = .ok (.getfield 13, 3) := by decide +kernel
theorem dX16_along_129 : decode cX16_along 129 = .ok (.iload_n 2, 1) := by decide +kernel
theorem dX16_along_130 : decode cX16_along 130 = .ok (.iaload, 1) := by decide +kernel
theorem dX16_along_131 : decode cX16_along 131 = .ok (.istore_n 3, 1) := by decide +kernel
theorem dX16_along_132 : decode cX16_along 132 = .ok (.aload_n 0, 1) := by decide +kernel
theorem dX16_along_133 : decode cX16_along 133 = .ok (.getfield 16, 3) := by decide +kernel
theorem dX16_along_136 : decode cX16_along 136 = .ok (.iload_n 1, 1) := by decide +kernel
theorem dX16_along_137 : decode cX16_along 137 = .ok (.baload, 1) := by decide +kernel
theorem dX16_along_138 : decode cX16_along 138 = .ok (.ifCond .eq 32, 3) := by decide +kernel
theorem dX16_along_170 : decode cX16_along 170 = .ok (.aload_n 0, 1) := by decide +kernel
theorem dX16_along_171 : decode cX16_along 171 = .ok (.iload_n 1, 1) := by decide +kernel
theorem dX16_along_172 : decode cX16_along 172 = .ok (.invokevirtual 93, 3) := by decide +kernel
theorem dX16_along_175 : decode cX16_along 175 = .ok (.aload_n 0, 1) := by decide +kernel
theorem dX16_along_176 : decode cX16_along 176 = .ok (.iload_n 2, 1) := by decide +kernel
theorem dX16_along_177 : decode cX16_along 177 = .ok (.invokevirtual 93, 3) := by decide +kernel
theorem dX16_along_180 : decode cX16_along 180 = .ok (.if_icmp .ge 11, 3) := by decide +kernel
theorem dX16_along_191 : decode cX16_along 191 = .ok (.aload_n 0, 1) := by decide +kernel
theorem dX16_along_192 : decode cX16_along 192 = .ok (.iload_n 2, 1) := by decide +kernel
theorem dX16_along_193 : decode cX16_along 193 = .ok (.invokevirtual 93, 3) := by decide +kernel
theorem dX16_along_196 : decode cX16_along 196 = .ok (.istore 4, 2) := by decide +kernel
theorem dX16_along_198 : decode cX16_along 198 = .ok (.iload 4, 2) := by decide +kernel
theorem dX16_along_200 : decode cX16_along 200 = .ok (.iload_n 3, 1) := by decide +kernel
theorem dX16_along_201 : decode cX16_along 201 = .ok (.isub, 1) := by decide +kernel
theorem dX16_along_202 : decode cX16_along 202 = .ok (.ireturn, 1) := by decide +kernel
theorem dX16_along_183 : decode cX16_along 183 = .ok (.aload_n 0, 1) := by decide +kernel
theorem dX16_along_184 : decode cX16_along 184 = .ok (.iload_n 1, 1) := by decide +kernel
theorem dX16_along_185 : decode cX16_along 185 = .ok (.invokevirtual 93, 3) := by decide +kernel
theorem dX16_along_188 : decode cX16_along 188 = .ok (.goto 8, 3) := by decide +kernel
theorem dX16_along_141 : decode cX16_along 141 = .ok (.aload_n 0, 1) := by decide +kernel
theorem dX16_along_142 : decode cX16_along 142 = .ok (.iload_n 1, 1) := by decide +kernel
theorem dX16_along_143 : decode cX16_along 143 = .ok (.invokevirtual 89, 3) := by decide +kernel
theorem dX16_along_146 : decode cX16_along 146 = .ok (.aload_n 0, 1) := by decide +kernel
theorem dX16_along_147 : decode cX16_along 147 = .ok (.iload_n 2, 1) := by decide +kernel
theorem dX16_along_148 : decode cX16_along 148 = .ok (.invokevirtual 89, 3) := by decide +kernel
theorem dX16_along_151 : decode cX16_along 151 = .ok (.if_icmp .ge 11, 3) := by decide +kernel
theorem dX16_along_162 : decode cX16_along 162 = .ok (.aload_n 0, 1) := by decide +kernel
theorem dX16_along_163 : decode cX16_along 163 = .ok (.iload_n 2, 1) := by decide +kernel
theorem dX16_along_164 : decode cX16_along 164 = .ok (.invokevirtual 89, 3) := by decide +kernel
theorem dX16_along_167 : decode cX16_along 167 = .ok (.goto 29, 3) := by decide +kernel
theorem dX16_along_154 : decode cX16_along 154 = .ok (.aload_n 0, 1) := by decide +kernel
theorem dX16_along_155 : decode cX16_along 155 = .ok (.iload_n 1, 1) := by decide +kernel
theorem dX16_along_156 : decode cX16_along 156 = .ok (.invokevirtual 89, 3) := by decide +kernel
theorem dX16_along_159 : decode cX16_along 159 = .ok (.goto 37, 3) := by decide +kernel
theorem dX16_along_116 : decode cX16_along 116 = .ok (.aload_n 0, 1) := by decide +kernel
theorem dX16_along_117 : decode cX16_along 117 = .ok (.getfield 13, 3) := by decide +kernel
theorem dX16_along_120 : decode cX16_along 120 = .ok (.iload_n 1, 1) := by decide +kernel
theorem dX16_along_121 : decode cX16_along 121 = .ok (.iaload, 1) := by decide +kernel
theorem dX16_along_122 : decode cX16_along 122 = .ok (.goto 9, 3) := by decide +kernel
theorem dX16_along_68 : decode cX16_along 68 = .ok (.aload_n 0, 1) := by decide +kernel
theorem dX16_along_69 : decode cX16_along 69 = .ok (.getfield 7, 3) := by decide +kernel
theorem dX16_along_72 : decode cX16_along 72 = .ok (.iload_n 1, 1) := by decide +kernel
theorem dX16_along_73 : decode cX16_along 73 = .ok (.iaload, 1) := by decide +kernel
theorem dX16_along_74 : decode cX16_along 74 = .ok (.aload_n 0, 1) := by decide +kernel
theorem dX16_along_75 : decode cX16_along 75 = .ok (.getfield 7, 3) := by decide +kernel
theorem dX16_along_78 : decode cX16_along 78 = .ok (.iload_n 2, 1) := by decide +kernel
theorem dX16_along_79 : decode cX16_along 79 = .ok (.iaload, 1) := by decide +kernel
theorem dX16_along_80 : decode cX16_along 80 = .ok (.if_icmp .le 12, 3) := by decide +kernel
theorem dX16_along_92 : decode cX16_along 92 = .ok (.aload_n 0, 1) := by decide +kernel
theorem dX16_along_93 : decode cX16_along 93 = .ok (.getfield 7, 3) := by decide +kernel
theorem dX16_along_96 : decode cX16_along 96 = .ok (.iload_n 2, 1) := by decide +kernel
theorem dX16_along_97 : decode cX16_along 97 = .ok (.iaload, 1) := by decide +kernel
theorem dX16_along_98 : decode cX16_along 98 = .ok (.goto 33, 3) := by decide +kernel
theorem dX16_along_83 : decode cX16_along 83 = .ok (.aload_n 0, 1) := by decide +kernel
theorem dX16_along_84 : decode cX16_along 84 = .ok (.getfield 7, 3) := by decide +kernel
theorem dX16_along_87 : decode cX16_along 87 = .ok (.iload_n 1, 1) := by decide +kernel
theorem dX16_along_88 : decode cX16_along 88 = .ok (.iaload, 1) := by decide +kernel
theorem dX16_along_89 : decode cX16_along 89 = .ok (.goto 42, 3) := by decide +kernel
theorem dX16_along_24 : decode cX16_along 24 = .ok (.aload_n 0, 1) := by decide +kernel
theorem dX16_along_25 : decode cX16_along 25 = .ok (.getfield 13, 3) := by decide +kernel
theorem dX16_along_28 : decode cX16_along 28 = .ok (.iload_n 1, 1) := by decide +kernel
theorem dX16_along_29 : decode cX16_along 29 = .ok (.iaload, 1) := by decide +kernel
theorem dX16_along_30 : decode cX16_along 30 = .ok (.aload_n 0, 1) := by decide +kernel
theorem dX16_along_31 : decode cX16_along 31 = .ok (.getfield 13, 3) := by decide +kernel
theorem dX16_along_34 : decode cX16_along 34 = .ok (.iload_n 2, 1) := by decide +kernel
theorem dX16_along_35 : decode cX16_along 35 = .ok (.iaload, 1) := by decide +kernel
theorem dX16_along_36 : decode cX16_along 36 = .ok (.if_icmp .eq 23, 3) := by decide +kernel
theorem dX16_along_39 : decode cX16_along 39 = .ok (.goto 18, 3) := by decide +kernel
theorem dX16_isAlone_0 : decode cX16_isAlone 0 = .ok (.iconst 1, 1) := by decide +kernel
theorem dX16_isAlone_1 : decode cX16_isAlone 1 = .ok (.istore_n 2, 1) := by decide +kernel
theorem dX16_isAlone_2 : decode cX16_isAlone 2 = .ok (.iconst 0, 1) := by decide +kernel
theorem dX16_isAlone_3 : decode cX16_isAlone 3 = .ok (.istore_n 3, 1) := by decide +kernel
theorem dX16_isAlone_4 : decode cX16_isAlone 4 = .ok (.iload_n 3, 1) := by decide +kernel
theorem dX16_isAlone_5 : decode cX16_isAlone 5 = .ok (.aload_n 0, 1) := by decide +kernel
theorem dX16_isAlone_6 : decode cX16_isAlone 6 = .ok (.getfield 96, 3) := by decide +kernel
theorem dX16_isAlone_9 : decode cX16_isAlone 9 = .ok (.if_icmp .ge 34, 3) := by decide +kernel
theorem dX16_isAlone_12 : decode cX16_isAlone 12 = .ok (.iload_n 2, 1) := by decide +kernel
theorem dX16_isAlone_13 : decode cX16_isAlone 13 = .ok (.ifCond .eq 22, 3) := by decide +kernel
theorem dX16_isAlone_35 : decode cX16_isAlone 35 = .ok (.iconst 0, 1) := by decide +kernel
theorem dX16_isAlone_36 : decode cX16_isAlone 36 = .ok (.istore_n 2, 1) := by decide +kernel
theorem dX16_isAlone_37 : decode cX16_isAlone 37 = .ok (.iinc 3 1, 3) := by decide +kernel
theorem dX16_isAlone_40 : decode cX16_isAlone 40 = .ok (.goto (-36), 3) := by decide +kernel
theorem dX16_isAlone_16 : decode cX16_isAlone 16 = .ok (.iload_n 3, 1) := by decide +kernel
theorem dX16_isAlone_17 : decode cX16_isAlone 17 = .ok (.iload_n 1, 1) := by decide +kernel
theorem dX16_isAlone_18 : decode cX16_isAlone 18 = .ok (.if_icmp .eq 13, 3) := by decide +kernel
theorem dX16_isAlone_31 : decode cX16_isAlone 31 = .ok (.iconst 1, 1) := by decide +kernel
theorem dX16_isAlone_32 : decode cX16_isAlone 32 = .ok (.goto 4, 3) := by decide +kernel
theorem dX16_isAlone_21 : decode cX16_isAlone 21 = .ok (.aload_n 0, 1) := by decide +kernel
theorem dX16_isAlone_22 : decode cX16_isAlone 22 = .ok (.iload_n 3, 1) := by decide +kernel
theorem dX16_isAlone_23 : decode cX16_isAlone 23 = .ok (.iload_n 1, 1) := by decide +kernel
theorem dX16_isAlone_24 : decode cX16_isAlone 24 = .ok (.invokevirtual 100, 3) := by decide +kernel
theorem dX16_isAlone_27 : decode cX16_isAlone 27 = .ok (.iconst 1, 1) := by decide +kernel
theorem dX16_isAlone_28 : decode cX16_isAlone 28 = .ok (.if_icmp .ge 7, 3) := by decide +kernel
theorem dX16_isAlone_43 : decode cX16_isAlone 43 = .ok (.iload_n 2, 1) := by decide +kernel
theorem dX16_isAlone_44 : decode cX16_isAlone 44 = .ok (.ireturn, 1) := by decide +kernel
theorem dX16_isIn_0 : decode cX16_isIn 0 = .ok (.iload_n 0, 1) := by decide +kernel
theorem dX16_isIn_1 : decode cX16_isIn 1 = .ok (.ifCond .lt 13, 3) := by decide +kernel
theorem dX16_isIn_14 : decode cX16_isIn 14 = .ok (.iconst 0, 1) := by decide +kernel
theorem dX16_isIn_15 : decode cX16_isIn 15 = .ok (.ireturn, 1) := by decide +kernel
theorem dX16_isIn_4 : decode cX16_isIn 4 = .ok (.iload_n 0, 1) := by decide +kernel
theorem dX16_isIn_5 : decode cX16_isIn 5 = .ok (.bipush 24, 2) := by decide +kernel
theorem dX16_isIn_7 : decode cX16_isIn 7 = .ok (.if_icmp .gt 7, 3) := by decide +kernel
theorem dX16_isIn_10 : decode cX16_isIn 10 = .ok (.iconst 1, 1) := by decide +kernel
theorem dX16_isIn_11 : decode cX16_isIn 11 = .ok (.goto 4, 3) := by decide +kernel
theorem dX16_lengthOf_0 : decode cX16_lengthOf 0 = .ok (.aload_n 0, 1) := by decide +kernel
theorem dX16_lengthOf_1 : decode cX16_lengthOf 1 = .ok (.getfield 20, 3) := by decide +kernel
theorem dX16_lengthOf_4 : decode cX16_lengthOf 4 = .ok (.iload_n 1, 1) := by decide +kernel
theorem dX16_lengthOf_5 : decode cX16_lengthOf 5 = .ok (.iaload, 1) := by decide +kernel
theorem dX16_lengthOf_6 : decode cX16_lengthOf 6 = .ok (.ireturn, 1) := by decide +kernel
theorem dX16_line_0 : decode cX16_line 0 = .ok (.aload_n 0, 1) := by decide +kernel
theorem dX16_line_1 : decode cX16_line 1 = .ok (.getfield 7, 3) := by decide +kernel
theorem dX16_line_4 : decode cX16_line 4 = .ok (.aload_n 0, 1) := by decide +kernel
theorem dX16_line_5 : decode cX16_line 5 = .ok (.getfield 96, 3) := by decide +kernel
theorem dX16_line_8 : decode cX16_line 8 = .ok (.iload_n 1, 1) := by decide +kernel
theorem dX16_line_9 : decode cX16_line 9 = .ok (.iload_n 3, 1) := by decide +kernel
theorem dX16_line_10 : decode cX16_line 10 = .ok (.if_icmp .ge 7, 3) := by decide +kernel
theorem dX16_line_17 : decode cX16_line 17 = .ok (.iload_n 3, 1) := by decide +kernel
theorem dX16_line_18 : decode cX16_line 18 = .ok (.iastore, 1) := by decide +kernel
theorem dX16_line_19 : decode cX16_line 19 = .ok (.aload_n 0, 1) := by decide +kernel
theorem dX16_line_20 : decode cX16_line 20 = .ok (.getfield 13, 3) := by decide +kernel
theorem dX16_line_23 : decode cX16_line 23 = .ok (.aload_n 0, 1) := by decide +kernel
theorem dX16_line_24 : decode cX16_line 24 = .ok (.getfield 96, 3) := by decide +kernel
theorem dX16_line_27 : decode cX16_line 27 = .ok (.iload_n 2, 1) := by decide +kernel
theorem dX16_line_28 : decode cX16_line 28 = .ok (.iload 4, 2) := by decide +kernel
theorem dX16_line_30 : decode cX16_line 30 = .ok (.if_icmp .ge 7, 3) := by decide +kernel
theorem dX16_line_37 : decode cX16_line 37 = .ok (.iload 4, 2) := by decide +kernel
theorem dX16_line_39 : decode cX16_line 39 = .ok (.iastore, 1) := by decide +kernel
theorem dX16_line_40 : decode cX16_line 40 = .ok (.aload_n 0, 1) := by decide +kernel
theorem dX16_line_41 : decode cX16_line 41 = .ok (.getfield 16, 3) := by decide +kernel
theorem dX16_line_44 : decode cX16_line 44 = .ok (.aload_n 0, 1) := by decide +kernel
theorem dX16_line_45 : decode cX16_line 45 = .ok (.getfield 96, 3) := by decide +kernel
theorem dX16_line_48 : decode cX16_line 48 = .ok (.iload_n 2, 1) := by decide +kernel
theorem dX16_line_49 : decode cX16_line 49 = .ok (.iload 4, 2) := by decide +kernel
theorem dX16_line_51 : decode cX16_line 51 = .ok (.if_icmp .ne 7, 3) := by decide +kernel
theorem dX16_line_58 : decode cX16_line 58 = .ok (.iconst 0, 1) := by decide +kernel
theorem dX16_line_59 : decode cX16_line 59 = .ok (.bastore, 1) := by decide +kernel
theorem dX16_line_60 : decode cX16_line 60 = .ok (.aload_n 0, 1) := by decide +kernel
theorem dX16_line_61 : decode cX16_line 61 = .ok (.getfield 20, 3) := by decide +kernel
theorem dX16_line_64 : decode cX16_line 64 = .ok (.aload_n 0, 1) := by decide +kernel
theorem dX16_line_65 : decode cX16_line 65 = .ok (.getfield 96, 3) := by decide +kernel
theorem dX16_line_68 : decode cX16_line 68 = .ok (.iload_n 1, 1) := by decide +kernel
theorem dX16_line_69 : decode cX16_line 69 = .ok (.iload_n 3, 1) := by decide +kernel
theorem dX16_line_70 : decode cX16_line 70 = .ok (.iadd, 1) := by decide +kernel
theorem dX16_line_71 : decode cX16_line 71 = .ok (.iconst 2, 1) := by decide +kernel
theorem dX16_line_72 : decode cX16_line 72 = .ok (.aload_n 0, 1) := by decide +kernel
theorem dX16_line_73 : decode cX16_line 73 = .ok (.getfield 7, 3) := by decide +kernel
theorem dX16_line_76 : decode cX16_line 76 = .ok (.aload_n 0, 1) := by decide +kernel
theorem dX16_line_77 : decode cX16_line 77 = .ok (.getfield 96, 3) := by decide +kernel
theorem dX16_line_80 : decode cX16_line 80 = .ok (.iaload, 1) := by decide +kernel
theorem dX16_line_81 : decode cX16_line 81 = .ok (.imul, 1) := by decide +kernel
theorem dX16_line_82 : decode cX16_line 82 = .ok (.isub, 1) := by decide +kernel
theorem dX16_line_83 : decode cX16_line 83 = .ok (.iload_n 2, 1) := by decide +kernel
theorem dX16_line_84 : decode cX16_line 84 = .ok (.iadd, 1) := by decide +kernel
theorem dX16_line_85 : decode cX16_line 85 = .ok (.iload 4, 2) := by decide +kernel
theorem dX16_line_87 : decode cX16_line 87 = .ok (.iadd, 1) := by decide +kernel
theorem dX16_line_88 : decode cX16_line 88 = .ok (.iconst 2, 1) := by decide +kernel
theorem dX16_line_89 : decode cX16_line 89 = .ok (.aload_n 0, 1) := by decide +kernel
theorem dX16_line_90 : decode cX16_line 90 = .ok (.getfield 13, 3) := by decide +kernel
theorem dX16_line_93 : decode cX16_line 93 = .ok (.aload_n 0, 1) := by decide +kernel
theorem dX16_line_94 : decode cX16_line 94 = .ok (.getfield 96, 3) := by decide +kernel
theorem dX16_line_97 : decode cX16_line 97 = .ok (.iaload, 1) := by decide +kernel
theorem dX16_line_98 : decode cX16_line 98 = .ok (.imul, 1) := by decide +kernel
theorem dX16_line_99 : decode cX16_line 99 = .ok (.isub, 1) := by decide +kernel
theorem dX16_line_100 : decode cX16_line 100 = .ok (.iastore, 1) := by decide +kernel
theorem dX16_line_101 : decode cX16_line 101 = .ok (.aload_n 0, 1) := by decide +kernel
theorem dX16_line_102 : decode cX16_line 102 = .ok (.getfield 23, 3) := by decide +kernel
theorem dX16_line_105 : decode cX16_line 105 = .ok (.aload_n 0, 1) := by decide +kernel
theorem dX16_line_106 : decode cX16_line 106 = .ok (.getfield 96, 3) := by decide +kernel
theorem dX16_line_109 : decode cX16_line 109 = .ok (.iconst 0, 1) := by decide +kernel
theorem dX16_line_110 : decode cX16_line 110 = .ok (.iastore, 1) := by decide +kernel
theorem dX16_line_111 : decode cX16_line 111 = .ok (.aload_n 0, 1) := by decide +kernel
theorem dX16_line_112 : decode cX16_line 112 = .ok (.aload_n 0, 1) := by decide +kernel
theorem dX16_line_113 : decode cX16_line 113 = .ok (.getfield 96, 3) := by decide +kernel
theorem dX16_line_116 : decode cX16_line 116 = .ok (.invokevirtual 104, 3) := by decide +kernel
theorem dX16_line_119 : decode cX16_line 119 = .ok (.ifCond .ne 5, 3) := by decide +kernel
theorem dX16_line_124 : decode cX16_line 124 = .ok (.aload_n 0, 1) := by decide +kernel
theorem dX16_line_125 : decode cX16_line 125 = .ok (.dup, 1) := by decide +kernel
theorem dX16_line_126 : decode cX16_line 126 = .ok (.getfield 96, 3) := by decide +kernel
theorem dX16_line_129 : decode cX16_line 129 = .ok (.iconst 1, 1) := by decide +kernel
theorem dX16_line_130 : decode cX16_line 130 = .ok (.iadd, 1) := by decide +kernel
theorem dX16_line_131 : decode cX16_line 131 = .ok (.putfield 96, 3) := by decide +kernel
theorem dX16_line_134 : decode cX16_line 134 = .ok (.aload_n 0, 1) := by decide +kernel
theorem dX16_line_135 : decode cX16_line 135 = .ok (.iconst 0, 1) := by decide +kernel
theorem dX16_line_136 : decode cX16_line 136 = .ok (.putfield 108, 3) := by decide +kernel
theorem dX16_line_139 : decode cX16_line 139 = .ok (.aload_n 0, 1) := by decide +kernel
theorem dX16_line_140 : decode cX16_line 140 = .ok (.getfield 96, 3) := by decide +kernel
theorem dX16_line_143 : decode cX16_line 143 = .ok (.iconst 1, 1) := by decide +kernel
theorem dX16_line_144 : decode cX16_line 144 = .ok (.isub, 1) := by decide +kernel
theorem dX16_line_145 : decode cX16_line 145 = .ok (.ireturn, 1) := by decide +kernel
theorem dX16_line_122 : decode cX16_line 122 = .ok (.iconst (-1), 1) := by decide +kernel
theorem dX16_line_123 : decode cX16_line 123 = .ok (.ireturn, 1) := by decide +kernel
theorem dX16_line_54 : decode cX16_line 54 = .ok (.iconst 1, 1) := by decide +kernel
theorem dX16_line_55 : decode cX16_line 55 = .ok (.goto 4, 3) := by decide +kernel
theorem dX16_line_33 : decode cX16_line 33 = .ok (.iload_n 2, 1) := by decide +kernel
theorem dX16_line_34 : decode cX16_line 34 = .ok (.goto 5, 3) := by decide +kernel
theorem dX16_line_13 : decode cX16_line 13 = .ok (.iload_n 1, 1) := by decide +kernel
theorem dX16_line_14 : decode cX16_line 14 = .ok (.goto 4, 3) := by decide +kernel
theorem dX16_mayGo_0 : decode cX16_mayGo 0 = .ok (.iload_n 2, 1) := by decide +kernel
theorem dX16_mayGo_1 : decode cX16_mayGo 1 = .ok (.bipush (-24), 2) := by decide +kernel
theorem dX16_mayGo_3 : decode cX16_mayGo 3 = .ok (.if_icmp .lt 79, 3) := by decide +kernel
theorem dX16_mayGo_82 : decode cX16_mayGo 82 = .ok (.iconst 0, 1) := by decide +kernel
theorem dX16_mayGo_83 : decode cX16_mayGo 83 = .ok (.ireturn, 1) := by decide +kernel
theorem dX16_mayGo_6 : decode cX16_mayGo 6 = .ok (.iload_n 2, 1) := by decide +kernel
theorem dX16_mayGo_7 : decode cX16_mayGo 7 = .ok (.bipush 24, 2) := by decide +kernel
theorem dX16_mayGo_9 : decode cX16_mayGo 9 = .ok (.if_icmp .gt 73, 3) := by decide +kernel
theorem dX16_mayGo_12 : decode cX16_mayGo 12 = .ok (.iload_n 3, 1) := by decide +kernel
theorem dX16_mayGo_13 : decode cX16_mayGo 13 = .ok (.bipush (-24), 2) := by decide +kernel
theorem dX16_mayGo_15 : decode cX16_mayGo 15 = .ok (.if_icmp .lt 67, 3) := by decide +kernel
theorem dX16_mayGo_18 : decode cX16_mayGo 18 = .ok (.iload_n 3, 1) := by decide +kernel
theorem dX16_mayGo_19 : decode cX16_mayGo 19 = .ok (.bipush 24, 2) := by decide +kernel
theorem dX16_mayGo_21 : decode cX16_mayGo 21 = .ok (.if_icmp .gt 61, 3) := by decide +kernel
theorem dX16_mayGo_24 : decode cX16_mayGo 24 = .ok (.aload_n 0, 1) := by decide +kernel
theorem dX16_mayGo_25 : decode cX16_mayGo 25 = .ok (.getfield 7, 3) := by decide +kernel
theorem dX16_mayGo_28 : decode cX16_mayGo 28 = .ok (.iload_n 1, 1) := by decide +kernel
theorem dX16_mayGo_29 : decode cX16_mayGo 29 = .ok (.iaload, 1) := by decide +kernel
theorem dX16_mayGo_30 : decode cX16_mayGo 30 = .ok (.iload_n 2, 1) := by decide +kernel
theorem dX16_mayGo_31 : decode cX16_mayGo 31 = .ok (.iadd, 1) := by decide +kernel
theorem dX16_mayGo_32 : decode cX16_mayGo 32 = .ok (.invokestatic 112, 3) := by decide +kernel
theorem dX16_mayGo_35 : decode cX16_mayGo 35 = .ok (.ifCond .eq 47, 3) := by decide +kernel
theorem dX16_mayGo_38 : decode cX16_mayGo 38 = .ok (.aload_n 0, 1) := by decide +kernel
theorem dX16_mayGo_39 : decode cX16_mayGo 39 = .ok (.getfield 13, 3) := by decide +kernel
theorem dX16_mayGo_42 : decode cX16_mayGo 42 = .ok (.iload_n 1, 1) := by decide +kernel
theorem dX16_mayGo_43 : decode cX16_mayGo 43 = .ok (.iaload, 1) := by decide +kernel
theorem dX16_mayGo_44 : decode cX16_mayGo 44 = .ok (.iload_n 3, 1) := by decide +kernel
theorem dX16_mayGo_45 : decode cX16_mayGo 45 = .ok (.iadd, 1) := by decide +kernel
theorem dX16_mayGo_46 : decode cX16_mayGo 46 = .ok (.invokestatic 112, 3) := by decide +kernel
theorem dX16_mayGo_49 : decode cX16_mayGo 49 = .ok (.ifCond .eq 33, 3) := by decide +kernel
theorem dX16_mayGo_52 : decode cX16_mayGo 52 = .ok (.aload_n 0, 1) := by decide +kernel
theorem dX16_mayGo_53 : decode cX16_mayGo 53 = .ok (.iload_n 1, 1) := by decide +kernel
theorem dX16_mayGo_54 : decode cX16_mayGo 54 = .ok (.invokevirtual 89, 3) := by decide +kernel
theorem dX16_mayGo_57 : decode cX16_mayGo 57 = .ok (.iload_n 2, 1) := by decide +kernel
theorem dX16_mayGo_58 : decode cX16_mayGo 58 = .ok (.iadd, 1) := by decide +kernel
theorem dX16_mayGo_59 : decode cX16_mayGo 59 = .ok (.invokestatic 112, 3) := by decide +kernel
theorem dX16_mayGo_62 : decode cX16_mayGo 62 = .ok (.ifCond .eq 20, 3) := by decide +kernel
theorem dX16_mayGo_65 : decode cX16_mayGo 65 = .ok (.aload_n 0, 1) := by decide +kernel
theorem dX16_mayGo_66 : decode cX16_mayGo 66 = .ok (.iload_n 1, 1) := by decide +kernel
theorem dX16_mayGo_67 : decode cX16_mayGo 67 = .ok (.invokevirtual 93, 3) := by decide +kernel
theorem dX16_mayGo_70 : decode cX16_mayGo 70 = .ok (.iload_n 3, 1) := by decide +kernel
theorem dX16_mayGo_71 : decode cX16_mayGo 71 = .ok (.iadd, 1) := by decide +kernel
theorem dX16_mayGo_72 : decode cX16_mayGo 72 = .ok (.invokestatic 112, 3) := by decide +kernel
theorem dX16_mayGo_75 : decode cX16_mayGo 75 = .ok (.ifCond .eq 7, 3) := by decide +kernel
theorem dX16_mayGo_78 : decode cX16_mayGo 78 = .ok (.iconst 1, 1) := by decide +kernel
theorem dX16_mayGo_79 : decode cX16_mayGo 79 = .ok (.goto 4, 3) := by decide +kernel
theorem dX16_move_0 : decode cX16_move 0 = .ok (.aload_n 0, 1) := by decide +kernel
theorem dX16_move_1 : decode cX16_move 1 = .ok (.getfield 7, 3) := by decide +kernel
theorem dX16_move_4 : decode cX16_move 4 = .ok (.iload_n 1, 1) := by decide +kernel
theorem dX16_move_5 : decode cX16_move 5 = .ok (.dup2, 1) := by decide +kernel
theorem dX16_move_6 : decode cX16_move 6 = .ok (.iaload, 1) := by decide +kernel
theorem dX16_move_7 : decode cX16_move 7 = .ok (.iload_n 2, 1) := by decide +kernel
theorem dX16_move_8 : decode cX16_move 8 = .ok (.iadd, 1) := by decide +kernel
theorem dX16_move_9 : decode cX16_move 9 = .ok (.iastore, 1) := by decide +kernel
theorem dX16_move_10 : decode cX16_move 10 = .ok (.aload_n 0, 1) := by decide +kernel
theorem dX16_move_11 : decode cX16_move 11 = .ok (.getfield 13, 3) := by decide +kernel
theorem dX16_move_14 : decode cX16_move 14 = .ok (.iload_n 1, 1) := by decide +kernel
theorem dX16_move_15 : decode cX16_move 15 = .ok (.dup2, 1) := by decide +kernel
theorem dX16_move_16 : decode cX16_move 16 = .ok (.iaload, 1) := by decide +kernel
theorem dX16_move_17 : decode cX16_move 17 = .ok (.iload_n 3, 1) := by decide +kernel
theorem dX16_move_18 : decode cX16_move 18 = .ok (.iadd, 1) := by decide +kernel
theorem dX16_move_19 : decode cX16_move 19 = .ok (.iastore, 1) := by decide +kernel
theorem dX16_move_20 : decode cX16_move 20 = .ok (.aload_n 0, 1) := by decide +kernel
theorem dX16_move_21 : decode cX16_move 21 = .ok (.iload_n 1, 1) := by decide +kernel
theorem dX16_move_22 : decode cX16_move 22 = .ok (.invokevirtual 104, 3) := by decide +kernel
theorem dX16_move_25 : decode cX16_move 25 = .ok (.istore 4, 2) := by decide +kernel
theorem dX16_move_27 : decode cX16_move 27 = .ok (.aload_n 0, 1) := by decide +kernel
theorem dX16_move_28 : decode cX16_move 28 = .ok (.getfield 7, 3) := by decide +kernel
theorem dX16_move_31 : decode cX16_move 31 = .ok (.iload_n 1, 1) := by decide +kernel
theorem dX16_move_32 : decode cX16_move 32 = .ok (.dup2, 1) := by decide +kernel
theorem dX16_move_33 : decode cX16_move 33 = .ok (.iaload, 1) := by decide +kernel
theorem dX16_move_34 : decode cX16_move 34 = .ok (.iload 4, 2) := by decide +kernel
theorem dX16_move_36 : decode cX16_move 36 = .ok (.ifCond .eq 7, 3) := by decide +kernel
theorem dX16_move_43 : decode cX16_move 43 = .ok (.iload_n 2, 1) := by decide +kernel
theorem dX16_move_44 : decode cX16_move 44 = .ok (.isub, 1) := by decide +kernel
theorem dX16_move_45 : decode cX16_move 45 = .ok (.iastore, 1) := by decide +kernel
theorem dX16_move_46 : decode cX16_move 46 = .ok (.aload_n 0, 1) := by decide +kernel
theorem dX16_move_47 : decode cX16_move 47 = .ok (.getfield 13, 3) := by decide +kernel
theorem dX16_move_50 : decode cX16_move 50 = .ok (.iload_n 1, 1) := by decide +kernel
theorem dX16_move_51 : decode cX16_move 51 = .ok (.dup2, 1) := by decide +kernel
theorem dX16_move_52 : decode cX16_move 52 = .ok (.iaload, 1) := by decide +kernel
theorem dX16_move_53 : decode cX16_move 53 = .ok (.iload 4, 2) := by decide +kernel
theorem dX16_move_55 : decode cX16_move 55 = .ok (.ifCond .eq 7, 3) := by decide +kernel
theorem dX16_move_62 : decode cX16_move 62 = .ok (.iload_n 3, 1) := by decide +kernel
theorem dX16_move_63 : decode cX16_move 63 = .ok (.isub, 1) := by decide +kernel
theorem dX16_move_64 : decode cX16_move 64 = .ok (.iastore, 1) := by decide +kernel
theorem dX16_move_65 : decode cX16_move 65 = .ok (.aload_n 0, 1) := by decide +kernel
theorem dX16_move_66 : decode cX16_move 66 = .ok (.aload_n 0, 1) := by decide +kernel
theorem dX16_move_67 : decode cX16_move 67 = .ok (.getfield 108, 3) := by decide +kernel
theorem dX16_move_70 : decode cX16_move 70 = .ok (.ifCond .eq 12, 3) := by decide +kernel
theorem dX16_move_82 : decode cX16_move 82 = .ok (.iconst 0, 1) := by decide +kernel
theorem dX16_move_83 : decode cX16_move 83 = .ok (.putfield 108, 3) := by decide +kernel
theorem dX16_move_86 : decode cX16_move 86 = .ok (.iload 4, 2) := by decide +kernel
theorem dX16_move_88 : decode cX16_move 88 = .ok (.ireturn, 1) := by decide +kernel
theorem dX16_move_73 : decode cX16_move 73 = .ok (.iload 4, 2) := by decide +kernel
theorem dX16_move_75 : decode cX16_move 75 = .ok (.ifCond .ne 7, 3) := by decide +kernel
theorem dX16_move_78 : decode cX16_move 78 = .ok (.iconst 1, 1) := by decide +kernel
theorem dX16_move_79 : decode cX16_move 79 = .ok (.goto 4, 3) := by decide +kernel
theorem dX16_move_58 : decode cX16_move 58 = .ok (.iconst 0, 1) := by decide +kernel
theorem dX16_move_59 : decode cX16_move 59 = .ok (.goto 4, 3) := by decide +kernel
theorem dX16_move_39 : decode cX16_move 39 = .ok (.iconst 0, 1) := by decide +kernel
theorem dX16_move_40 : decode cX16_move 40 = .ok (.goto 4, 3) := by decide +kernel
theorem dX16_door_0 : decode cX16_door 0 = .ok (.aload_n 0, 1) := by decide +kernel
theorem dX16_door_1 : decode cX16_door 1 = .ok (.getfield 26, 3) := by decide +kernel
theorem dX16_door_4 : decode cX16_door 4 = .ok (.bipush 6, 2) := by decide +kernel
theorem dX16_door_6 : decode cX16_door 6 = .ok (.iload_n 1, 1) := by decide +kernel
theorem dX16_door_7 : decode cX16_door 7 = .ok (.imul, 1) := by decide +kernel
theorem dX16_door_8 : decode cX16_door 8 = .ok (.aload_n 0, 1) := by decide +kernel
theorem dX16_door_9 : decode cX16_door 9 = .ok (.getfield 23, 3) := by decide +kernel
theorem dX16_door_12 : decode cX16_door 12 = .ok (.iload_n 1, 1) := by decide +kernel
theorem dX16_door_13 : decode cX16_door 13 = .ok (.iaload, 1) := by decide +kernel
theorem dX16_door_14 : decode cX16_door 14 = .ok (.iadd, 1) := by decide +kernel
theorem dX16_door_15 : decode cX16_door 15 = .ok (.iload_n 2, 1) := by decide +kernel
theorem dX16_door_16 : decode cX16_door 16 = .ok (.iastore, 1) := by decide +kernel
theorem dX16_door_17 : decode cX16_door 17 = .ok (.aload_n 0, 1) := by decide +kernel
theorem dX16_door_18 : decode cX16_door 18 = .ok (.getfield 29, 3) := by decide +kernel
theorem dX16_door_21 : decode cX16_door 21 = .ok (.bipush 6, 2) := by decide +kernel
theorem dX16_door_23 : decode cX16_door 23 = .ok (.iload_n 1, 1) := by decide +kernel
theorem dX16_door_24 : decode cX16_door 24 = .ok (.imul, 1) := by decide +kernel
theorem dX16_door_25 : decode cX16_door 25 = .ok (.aload_n 0, 1) := by decide +kernel
theorem dX16_door_26 : decode cX16_door 26 = .ok (.getfield 23, 3) := by decide +kernel
theorem dX16_door_29 : decode cX16_door 29 = .ok (.iload_n 1, 1) := by decide +kernel
theorem dX16_door_30 : decode cX16_door 30 = .ok (.iaload, 1) := by decide +kernel
theorem dX16_door_31 : decode cX16_door 31 = .ok (.iadd, 1) := by decide +kernel
theorem dX16_door_32 : decode cX16_door 32 = .ok (.iload_n 3, 1) := by decide +kernel
theorem dX16_door_33 : decode cX16_door 33 = .ok (.iastore, 1) := by decide +kernel
theorem dX16_door_34 : decode cX16_door 34 = .ok (.aload_n 0, 1) := by decide +kernel
theorem dX16_door_35 : decode cX16_door 35 = .ok (.getfield 32, 3) := by decide +kernel
theorem dX16_door_38 : decode cX16_door 38 = .ok (.bipush 6, 2) := by decide +kernel
theorem dX16_door_40 : decode cX16_door 40 = .ok (.iload_n 1, 1) := by decide +kernel
theorem dX16_door_41 : decode cX16_door 41 = .ok (.imul, 1) := by decide +kernel
theorem dX16_door_42 : decode cX16_door 42 = .ok (.aload_n 0, 1) := by decide +kernel
theorem dX16_door_43 : decode cX16_door 43 = .ok (.getfield 23, 3) := by decide +kernel
theorem dX16_door_46 : decode cX16_door 46 = .ok (.iload_n 1, 1) := by decide +kernel
theorem dX16_door_47 : decode cX16_door 47 = .ok (.iaload, 1) := by decide +kernel
theorem dX16_door_48 : decode cX16_door 48 = .ok (.iadd, 1) := by decide +kernel
theorem dX16_door_49 : decode cX16_door 49 = .ok (.iload 4, 2) := by decide +kernel
theorem dX16_door_51 : decode cX16_door 51 = .ok (.iastore, 1) := by decide +kernel
theorem dX16_door_52 : decode cX16_door 52 = .ok (.aload_n 0, 1) := by decide +kernel
theorem dX16_door_53 : decode cX16_door 53 = .ok (.getfield 23, 3) := by decide +kernel
theorem dX16_door_56 : decode cX16_door 56 = .ok (.iload_n 1, 1) := by decide +kernel
theorem dX16_door_57 : decode cX16_door 57 = .ok (.dup2, 1) := by decide +kernel
theorem dX16_door_58 : decode cX16_door 58 = .ok (.iaload, 1) := by decide +kernel
theorem dX16_door_59 : decode cX16_door 59 = .ok (.iconst 1, 1) := by decide +kernel
theorem dX16_door_60 : decode cX16_door 60 = .ok (.iadd, 1) := by decide +kernel
theorem dX16_door_61 : decode cX16_door 61 = .ok (.iastore, 1) := by decide +kernel
theorem dX16_door_62 : decode cX16_door 62 = .ok (.aload_n 0, 1) := by decide +kernel
theorem dX16_door_63 : decode cX16_door 63 = .ok (.getfield 23, 3) := by decide +kernel
theorem dX16_door_66 : decode cX16_door 66 = .ok (.iload_n 1, 1) := by decide +kernel
theorem dX16_door_67 : decode cX16_door 67 = .ok (.iaload, 1) := by decide +kernel
theorem dX16_door_68 : decode cX16_door 68 = .ok (.ireturn, 1) := by decide +kernel
theorem zl_X15_189 : zm_F zk_E RX15 189 15 2 := ⟨RX15, TX15, 44, rfl, zk_i15, by decide, zk_b13 213 (by decide +kernel) rfl⟩
theorem zl_X15_13 : zm_F zk_E RX15 13 15 3 := ⟨RX15, TX15, 44, rfl, zk_i15, by decide, zk_b13 215 (by decide +kernel) rfl⟩
theorem zl_X15_192 : zm_L zk_E RX15 192 yX15_factOf (.code yX15_factOf cX15_factOf 5 (some .int)) 1 ∧ Cond.instanceMethod yX15_factOf ∈ zk_E.2.2.1 ∧ Cond.selects yX15_factOf.cls yX15_factOf yX15_factOf ∈ zk_E.2.2.1 := ⟨⟨zk_b18 84 (by decide +kernel) rfl, zk_b1 15 (by decide +kernel) rfl, zk_b18 89 (by decide +kernel) rfl, by decide +kernel, by decide +kernel, by decide +kernel⟩, zk_b18 82 (by decide +kernel) rfl, zk_b18 83 (by decide +kernel) rfl⟩
theorem zl_X15_17 : zm_F zk_E RX15 17 15 4 := ⟨RX15, TX15, 44, rfl, zk_i15, by decide, zk_b13 216 (by decide +kernel) rfl⟩
theorem zt_15_2 : zm_T zk_E RX15 15 2 .int false := ⟨RX15, TX15, 44, tyX15, rfl, tyX15_ok, nmX15, rfl, rfl, rfl⟩
theorem zl_X15_196 : Cond.constantLong RX15 196 (1000000000000 : Int64) ∈ zk_E.2.2.1 := zk_b18 90 (by decide +kernel) rfl
theorem zl_X15_198 : zm_F zk_E RX15 198 15 40 := ⟨RX15, TX15, 44, rfl, zk_i15, by decide, zk_b14 15 (by decide +kernel) rfl⟩
theorem zt_15_40 : zm_T zk_E RX15 15 40 .int false := ⟨RX15, TX15, 44, tyX15, rfl, tyX15_ok, nmX15, rfl, rfl, rfl⟩
theorem zl_X15_201 : zm_F zk_E RX15 201 15 41 := ⟨RX15, TX15, 44, rfl, zk_i15, by decide, zk_b14 16 (by decide +kernel) rfl⟩
theorem zt_15_41 : zm_T zk_E RX15 15 41 .long false := ⟨RX15, TX15, 44, tyX15, rfl, tyX15_ok, nmX15, rfl, rfl, rfl⟩
theorem zl_X15_204 : zm_L zk_E RX15 204 yX15_opens (.code yX15_opens cX15_opens 4 none) 2 ∧ Cond.instanceMethod yX15_opens ∈ zk_E.2.2.1 ∧ Cond.selects yX15_opens.cls yX15_opens yX15_opens ∈ zk_E.2.2.1 := ⟨⟨zk_b18 127 (by decide +kernel) rfl, zk_b1 15 (by decide +kernel) rfl, zk_b18 124 (by decide +kernel) rfl, by decide +kernel, by decide +kernel, by decide +kernel⟩, zk_b18 126 (by decide +kernel) rfl, zk_s14 (q := (yX15_opens, 44)) 4 (by decide +kernel)⟩
theorem zl_X15_207 : zm_F zk_E RX15 207 15 39 := ⟨RX15, TX15, 44, rfl, zk_i15, by decide, zk_b14 14 (by decide +kernel) rfl⟩
theorem zt_15_39 : zm_T zk_E RX15 15 39 .int false := ⟨RX15, TX15, 44, tyX15, rfl, tyX15_ok, nmX15, rfl, rfl, rfl⟩
theorem zl_X15_78 : zm_F zk_E RX15 78 15 37 := ⟨RX15, TX15, 44, rfl, zk_i15, by decide, zk_b14 12 (by decide +kernel) rfl⟩
theorem zl_X15_81 : zm_F zk_E RX15 81 15 38 := ⟨RX15, TX15, 44, rfl, zk_i15, by decide, zk_b14 13 (by decide +kernel) rfl⟩
theorem zl_X15_210 : Cond.constantLong RX15 210 (-9223372036854775808 : Int64) ∈ zk_E.2.2.1 := zk_b18 123 (by decide +kernel) rfl
theorem zl_X15_216 : zm_L zk_E RX15 216 yX15_times (.code yX15_times cX15_times 7 (some .long)) 2 ∧ Cond.instanceMethod yX15_times ∈ zk_E.2.2.1 ∧ Cond.selects yX15_times.cls yX15_times yX15_times ∈ zk_E.2.2.1 := ⟨⟨zk_b18 135 (by decide +kernel) rfl, zk_b1 15 (by decide +kernel) rfl, zk_b18 132 (by decide +kernel) rfl, by decide +kernel, by decide +kernel, by decide +kernel⟩, zk_b18 134 (by decide +kernel) rfl, zk_s14 (q := (yX15_times, 44)) 6 (by decide +kernel)⟩
theorem zl_X15_220 : zm_L zk_E RX15 220 yX15_plus (.code yX15_plus cX15_plus 9 (some .long)) 3 ∧ Cond.instanceMethod yX15_plus ∈ zk_E.2.2.1 ∧ Cond.selects yX15_plus.cls yX15_plus yX15_plus ∈ zk_E.2.2.1 := ⟨⟨zk_b18 139 (by decide +kernel) rfl, zk_b1 15 (by decide +kernel) rfl, zk_b18 136 (by decide +kernel) rfl, by decide +kernel, by decide +kernel, by decide +kernel⟩, zk_b18 138 (by decide +kernel) rfl, zk_s14 (q := (yX15_plus, 44)) 7 (by decide +kernel)⟩
theorem zl_X15_212 : zm_L zk_E RX15 212 yX15_push (.code yX15_push cX15_push 11 none) 2 ∧ Cond.instanceMethod yX15_push ∈ zk_E.2.2.1 ∧ Cond.selects yX15_push.cls yX15_push yX15_push ∈ zk_E.2.2.1 := ⟨⟨zk_b18 122 (by decide +kernel) rfl, zk_b1 15 (by decide +kernel) rfl, zk_b18 119 (by decide +kernel) rfl, by decide +kernel, by decide +kernel, by decide +kernel⟩, zk_b18 121 (by decide +kernel) rfl, zk_s14 (q := (yX15_push, 44)) 3 (by decide +kernel)⟩
theorem zl_X15_224 : zm_L zk_E RX15 224 yX15_operate (.code yX15_operate cX15_operate 10 none) 1 ∧ Cond.instanceMethod yX15_operate ∈ zk_E.2.2.1 ∧ Cond.selects yX15_operate.cls yX15_operate yX15_operate ∈ zk_E.2.2.1 := ⟨⟨zk_b18 131 (by decide +kernel) rfl, zk_b1 15 (by decide +kernel) rfl, zk_b18 128 (by decide +kernel) rfl, by decide +kernel, by decide +kernel, by decide +kernel⟩, zk_b18 130 (by decide +kernel) rfl, zk_s14 (q := (yX15_operate, 44)) 5 (by decide +kernel)⟩
theorem zl_X15_227 : zm_L zk_E RX15 227 yX15_reckon (.code yX15_reckon cX15_reckon 5 none) 2 ∧ Cond.instanceMethod yX15_reckon ∈ zk_E.2.2.1 ∧ Cond.selects yX15_reckon.cls yX15_reckon yX15_reckon ∈ zk_E.2.2.1 := ⟨⟨zk_b18 118 (by decide +kernel) rfl, zk_b1 15 (by decide +kernel) rfl, zk_b18 115 (by decide +kernel) rfl, by decide +kernel, by decide +kernel, by decide +kernel⟩, zk_b18 117 (by decide +kernel) rfl, zk_s14 (q := (yX15_reckon, 44)) 2 (by decide +kernel)⟩
theorem zl_X15_231 : zm_F zk_E RX15 231 15 42 := ⟨RX15, TX15, 44, rfl, zk_i15, by decide, zk_b14 17 (by decide +kernel) rfl⟩
theorem zt_15_42 : zm_T zk_E RX15 15 42 .long false := ⟨RX15, TX15, 44, tyX15, rfl, tyX15_ok, nmX15, rfl, rfl, rfl⟩
theorem zl_X15_234 : zm_F zk_E RX15 234 15 43 := ⟨RX15, TX15, 44, rfl, zk_i15, by decide, zk_b14 18 (by decide +kernel) rfl⟩
theorem zt_15_43 : zm_T zk_E RX15 15 43 .long false := ⟨RX15, TX15, 44, tyX15, rfl, tyX15_ok, nmX15, rfl, rfl, rfl⟩
theorem zl_X15_63 : zm_F zk_E RX15 63 15 22 := ⟨RX15, TX15, 44, rfl, zk_i15, by decide, zk_b13 237 (by decide +kernel) rfl⟩
theorem zl_X15_66 : zm_F zk_E RX15 66 15 23 := ⟨RX15, TX15, 44, rfl, zk_i15, by decide, zk_b13 238 (by decide +kernel) rfl⟩
theorem zl_X15_57 : zm_F zk_E RX15 57 15 20 := ⟨RX15, TX15, 44, rfl, zk_i15, by decide, zk_b13 235 (by decide +kernel) rfl⟩
theorem zl_X15_60 : zm_F zk_E RX15 60 15 21 := ⟨RX15, TX15, 44, rfl, zk_i15, by decide, zk_b13 236 (by decide +kernel) rfl⟩
theorem zl_X15_237 : zm_L zk_E RX15 237 yX15_holds (.code yX15_holds cX15_holds 8 (some .boolean)) 2 ∧ Cond.instanceMethod yX15_holds ∈ zk_E.2.2.1 ∧ Cond.selects yX15_holds.cls yX15_holds yX15_holds ∈ zk_E.2.2.1 := ⟨⟨zk_b18 114 (by decide +kernel) rfl, zk_b1 15 (by decide +kernel) rfl, zk_b18 111 (by decide +kernel) rfl, by decide +kernel, by decide +kernel, by decide +kernel⟩, zk_b18 113 (by decide +kernel) rfl, zk_s14 (q := (yX15_holds, 44)) 1 (by decide +kernel)⟩
theorem zl_X15_54 : zm_F zk_E RX15 54 15 19 := ⟨RX15, TX15, 44, rfl, zk_i15, by decide, zk_b13 233 (by decide +kernel) rfl⟩
theorem zl_X15_241 : zm_L zk_E RX15 241 yX15_ask (.code yX15_ask cX15_ask 8 (some .int)) 3 ∧ Cond.instanceMethod yX15_ask ∈ zk_E.2.2.1 ∧ Cond.selects yX15_ask.cls yX15_ask yX15_ask ∈ zk_E.2.2.1 := ⟨⟨zk_b18 110 (by decide +kernel) rfl, zk_b1 15 (by decide +kernel) rfl, zk_b18 107 (by decide +kernel) rfl, by decide +kernel, by decide +kernel, by decide +kernel⟩, zk_b18 109 (by decide +kernel) rfl, zk_s14 (q := (yX15_ask, 44)) 0 (by decide +kernel)⟩
theorem zl_X15_69 : zm_F zk_E RX15 69 15 24 := ⟨RX15, TX15, 44, rfl, zk_i15, by decide, zk_b13 239 (by decide +kernel) rfl⟩
theorem zl_X15_72 : zm_F zk_E RX15 72 15 25 := ⟨RX15, TX15, 44, rfl, zk_i15, by decide, zk_b14 0 (by decide +kernel) rfl⟩
theorem zl_X16_7 : zm_F zk_E RX16 7 16 1 := ⟨RX16, TX16, 40, rfl, zk_i16, by decide, zk_b13 76 (by decide +kernel) rfl⟩
theorem zl_X16_16 : zm_F zk_E RX16 16 16 3 := ⟨RX16, TX16, 40, rfl, zk_i16, by decide, zk_b13 78 (by decide +kernel) rfl⟩
theorem zl_X16_20 : zm_F zk_E RX16 20 16 4 := ⟨RX16, TX16, 40, rfl, zk_i16, by decide, zk_b13 79 (by decide +kernel) rfl⟩
theorem zl_X16_13 : zm_F zk_E RX16 13 16 2 := ⟨RX16, TX16, 40, rfl, zk_i16, by decide, zk_b13 77 (by decide +kernel) rfl⟩
theorem zl_X16_89 : zm_L zk_E RX16 89 yX16_highX (.code yX16_highX cX16_highX 2 (some .int)) 1 ∧ Cond.instanceMethod yX16_highX ∈ zk_E.2.2.1 ∧ Cond.selects yX16_highX.cls yX16_highX yX16_highX ∈ zk_E.2.2.1 := ⟨⟨zk_b16 238 (by decide +kernel) rfl, zk_b1 14 (by decide +kernel) rfl, zk_b16 235 (by decide +kernel) rfl, by decide +kernel, by decide +kernel, by decide +kernel⟩, zk_b16 237 (by decide +kernel) rfl, zk_s11 (q := (yX16_highX, 40)) 10 (by decide +kernel)⟩
theorem zl_X16_93 : zm_L zk_E RX16 93 yX16_highY (.code yX16_highY cX16_highY 2 (some .int)) 1 ∧ Cond.instanceMethod yX16_highY ∈ zk_E.2.2.1 ∧ Cond.selects yX16_highY.cls yX16_highY yX16_highY ∈ zk_E.2.2.1 := ⟨⟨zk_b17 2 (by decide +kernel) rfl, zk_b1 14 (by decide +kernel) rfl, zk_b16 239 (by decide +kernel) rfl, by decide +kernel, by decide +kernel, by decide +kernel⟩, zk_b17 1 (by decide +kernel) rfl, zk_s11 (q := (yX16_highY, 40)) 11 (by decide +kernel)⟩
theorem zl_X16_96 : zm_F zk_E RX16 96 16 0 := ⟨RX16, TX16, 40, rfl, zk_i16, by decide, zk_b13 74 (by decide +kernel) rfl⟩
theorem zl_X16_100 : zm_L zk_E RX16 100 yX16_along (.code yX16_along cX16_along 5 (some .int)) 2 ∧ Cond.instanceMethod yX16_along ∈ zk_E.2.2.1 ∧ Cond.selects yX16_along.cls yX16_along yX16_along ∈ zk_E.2.2.1 := ⟨⟨zk_b16 234 (by decide +kernel) rfl, zk_b1 14 (by decide +kernel) rfl, zk_b16 231 (by decide +kernel) rfl, by decide +kernel, by decide +kernel, by decide +kernel⟩, zk_b16 233 (by decide +kernel) rfl, zk_s11 (q := (yX16_along, 40)) 9 (by decide +kernel)⟩
theorem zl_X16_23 : zm_F zk_E RX16 23 16 5 := ⟨RX16, TX16, 40, rfl, zk_i16, by decide, zk_b13 80 (by decide +kernel) rfl⟩
theorem zl_X16_104 : zm_L zk_E RX16 104 yX16_isAlone (.code yX16_isAlone cX16_isAlone 4 (some .boolean)) 1 ∧ Cond.instanceMethod yX16_isAlone ∈ zk_E.2.2.1 ∧ Cond.selects yX16_isAlone.cls yX16_isAlone yX16_isAlone ∈ zk_E.2.2.1 := ⟨⟨zk_b16 230 (by decide +kernel) rfl, zk_b1 14 (by decide +kernel) rfl, zk_b16 227 (by decide +kernel) rfl, by decide +kernel, by decide +kernel, by decide +kernel⟩, zk_b16 229 (by decide +kernel) rfl, zk_s11 (q := (yX16_isAlone, 40)) 8 (by decide +kernel)⟩
theorem zt_16_0 : zm_T zk_E RX16 16 0 .int false := ⟨RX16, TX16, 40, tyX16, rfl, tyX16_ok, nmX16, rfl, rfl, rfl⟩
theorem zl_X16_108 : zm_F zk_E RX16 108 16 10 := ⟨RX16, TX16, 40, rfl, zk_i16, by decide, zk_b13 87 (by decide +kernel) rfl⟩
theorem zt_16_10 : zm_T zk_E RX16 16 10 .boolean false := ⟨RX16, TX16, 40, tyX16, rfl, tyX16_ok, nmX16, rfl, rfl, rfl⟩
theorem zl_X16_112 : zm_L zk_E RX16 112 yX16_isIn (.code yX16_isIn cX16_isIn 1 (some .boolean)) 1 ∧ Cond.static yX16_isIn ∈ zk_E.2.2.1 := ⟨⟨zk_b16 218 (by decide +kernel) rfl, zk_b1 14 (by decide +kernel) rfl, zk_b17 14 (by decide +kernel) rfl, by decide +kernel, by decide +kernel, by decide +kernel⟩, zk_b16 217 (by decide +kernel) rfl⟩
theorem zl_X16_26 : zm_F zk_E RX16 26 16 6 := ⟨RX16, TX16, 40, rfl, zk_i16, by decide, zk_b13 82 (by decide +kernel) rfl⟩
theorem zl_X16_29 : zm_F zk_E RX16 29 16 7 := ⟨RX16, TX16, 40, rfl, zk_i16, by decide, zk_b13 83 (by decide +kernel) rfl⟩
theorem zl_X16_32 : zm_F zk_E RX16 32 16 8 := ⟨RX16, TX16, 40, rfl, zk_i16, by decide, zk_b13 84 (by decide +kernel) rfl⟩
def zf_X15_factOf_L5 (N : Nat) : Nat → Nat → Int64 → Int32 → Int32 → zm_S → Option ((Int32 × zm_S) ⊕ ((Int32) × zm_S))
  | 0, _, _, _, _, _ => none
  | n + 1, a0, j1, i3, i4, S => (zg_i S a0 15 2).bind (fun v1 => if v1 ≤ i4 then some (.inr (i3, S)) else (zg_r S a0 15 3).bind (fun b2 => (za_l S b2 i4).bind (fun w3 => if (lg_cmp w3 j1) = 0 then zf_X15_factOf_L5 N n a0 j1 i4 (i4 + (1 : Int32)) S else zf_X15_factOf_L5 N n a0 j1 i3 (i4 + (1 : Int32)) S)))
set_option maxHeartbeats 4000000 in
set_option maxRecDepth 100000 in
theorem zt_X15_factOf_L5 {p : Program} {l : Launch} {e : Env} {R : Room} {s : State} {m : MethodId} {args : Array Value} {below : List Frame} {meth : Method} {c : Code} {V : zm_V} {mc ms d rc rs : Nat} (hX : zm_X p R s m args meth c RX15 "factOf" cX15_factOf 5 zk_E V mc ms) (hr : meth.sig.returnType = (some .int)) (hR : R.frames = d ∧ R.locals = 64 * d) (hd : 1 ≤ d) {N : Nat} {res : (Int32 × zm_S) ⊕ ((Int32) × zm_S)} {out : (Int32 × zm_S)} (a0 : Nat) (j1 : Int64) (hf : ∀ o, res = .inl o → o = out) (hk : ∀ (x3 : Int32) (S' : zm_S), res = .inr (x3, S') → zw p l e R s m args below meth c (vx_MQ below (zm_Qc zk_E V (zo_i out)) (zm_XC zk_E V zo_x) args s mc ms (fun q => V.2.2.2.1 ≤ q)) 5 zk_E V mc ms 39 [(3, .int x3)] [] S' rc rs) : ∀ (n : Nat) (i3 : Int32) (i4 : Int32) (S : zm_S), zf_X15_factOf_L5 N n a0 j1 i3 i4 S = some res → zw p l e R s m args below meth c (vx_MQ below (zm_Qc zk_E V (zo_i out)) (zm_XC zk_E V zo_x) args s mc ms (fun q => V.2.2.2.1 ≤ q)) 5 zk_E V mc ms 5 [(0, .ref a0), (1, .long j1), (3, .int i3), (4, .int i4)] [] S rc rs := by
  intro n
  induction n with
  | zero => intro i3 i4 S h; cases h
  | succ n ih =>
    intro i3 i4 S h
    rw [zf_X15_factOf_L5] at h
    refine zw_iload hX dX15_factOf_5 rfl ?_
    refine zw_aload_n hX dX15_factOf_7 rfl ?_
    obtain ⟨v1, g, h⟩ := zb_some h
    refine zw_geti hX zl_X15_189 dX15_factOf_8 g ?_
    refine zw_icmp_ge (tgt := 39) hX dX15_factOf_11 (by decide) (fun c11 => ?_) (fun c11 => ?_)
    · rw [if_pos c11] at h
      refine zw_sub (lv' := [(3, .int i3)]) (List.forall_mem_cons.mpr ⟨rfl, zs_nil⟩) ?_
      exact hk _ _ (Option.some.inj h).symm
    · rw [if_neg c11] at h
      refine zw_aload_n hX dX15_factOf_14 rfl ?_
      obtain ⟨b2, g, h⟩ := zb_some h
      refine zw_getr hX zl_X15_13 dX15_factOf_15 g ?_
      refine zw_iload hX dX15_factOf_18 rfl ?_
      obtain ⟨w3, g, h⟩ := zb_some h
      refine zw_xl hX dX15_factOf_20 g ?_
      refine zw_lload_n hX dX15_factOf_21 rfl ?_
      refine zw_lcmp hX dX15_factOf_22 ?_
      refine zw_if_ne (tgt := 31) hX dX15_factOf_23 (by decide) (fun c23 => ?_) (fun c23 => ?_)
      · rw [if_neg c23] at h
        refine zw_iload_n hX dX15_factOf_31 rfl ?_
        refine zw_istore_n hX dX15_factOf_32 (by decide) ?_
        refine zw_iinc (v := (i4 + (1 : Int32))) hX dX15_factOf_33 rfl rfl (by decide) ?_
        refine zw_goto (tgt := 5) hX dX15_factOf_36 (by decide) ?_
        refine zw_sub (lv' := [(0, .ref a0), (1, .long j1), (3, .int i3), (4, .int (i4 + (1 : Int32)))]) (List.forall_mem_cons.mpr ⟨rfl, (List.forall_mem_cons.mpr ⟨rfl, (List.forall_mem_cons.mpr ⟨rfl, (List.forall_mem_cons.mpr ⟨rfl, zs_nil⟩)⟩)⟩)⟩) ?_
        exact ih _ _ _ h
      · rw [if_pos c23] at h
        refine zw_iload hX dX15_factOf_26 rfl ?_
        refine zw_goto (tgt := 32) hX dX15_factOf_28 (by decide) ?_
        refine zw_istore_n hX dX15_factOf_32 (by decide) ?_
        refine zw_iinc (v := (i4 + (1 : Int32))) hX dX15_factOf_33 rfl rfl (by decide) ?_
        refine zw_goto (tgt := 5) hX dX15_factOf_36 (by decide) ?_
        refine zw_sub (lv' := [(0, .ref a0), (1, .long j1), (3, .int i4), (4, .int (i4 + (1 : Int32)))]) (List.forall_mem_cons.mpr ⟨rfl, (List.forall_mem_cons.mpr ⟨rfl, (List.forall_mem_cons.mpr ⟨rfl, (List.forall_mem_cons.mpr ⟨rfl, zs_nil⟩)⟩)⟩)⟩) ?_
        exact ih _ _ _ h
def zf_X15_factOf (N : Nat) (a0 : Nat) (j1 : Int64) (S : zm_S) : Option (Int32 × zm_S) := (zf_X15_factOf_L5 N N a0 j1 (-1 : Int32) (0 : Int32) S).bind (fun r => match r with | .inl o => some o | .inr (v5, S4) => some (v5, S4))
set_option maxHeartbeats 4000000 in
set_option maxRecDepth 100000 in
theorem zt_X15_factOf {l : Launch} {V : zm_V} {N : Nat} {S : zm_S} {out : (Int32 × zm_S)} {d : Nat} {a0 : Nat} {j1 : Int64} (hd : 1 ≤ d) (h : zf_X15_factOf N a0 j1 S = some out) : zm_Met l zk_E V yX15_factOf (.code yX15_factOf cX15_factOf 5 (some .int)) d [.ref a0, .long j1] S 0 0 (zo_i out) zo_x := by
  refine zm_of (by decide +kernel) (Nat.le_of_ble_eq_true rfl) ?_
  intro p e R s m args below meth c hRR hX hr hxt
  have hR : R.frames = d ∧ R.locals = 64 * d := by rw [hRR]; exact ⟨rfl, rfl⟩
  have hX : zm_X p R s m args meth c RX15 "factOf" cX15_factOf 5 zk_E V 0 0 := hX
  unfold zf_X15_factOf at h
  refine zw_sub (lv' := [(0, .ref a0), (1, .long j1)]) (List.forall_mem_cons.mpr ⟨rfl, (List.forall_mem_cons.mpr ⟨rfl, zs_nil⟩)⟩) ?_
  refine zw_iconst (v := (-1 : Int32)) hX dX15_factOf_0 (by decide) ?_
  refine zw_istore_n hX dX15_factOf_1 (by decide) ?_
  refine zw_iconst (v := (0 : Int32)) hX dX15_factOf_2 (by decide) ?_
  refine zw_istore hX dX15_factOf_3 (by decide) ?_
  obtain ⟨r, g, h⟩ := zb_some h
  refine zw_sub (lv' := [(0, .ref a0), (1, .long j1), (3, .int (-1 : Int32)), (4, .int (0 : Int32))]) (List.forall_mem_cons.mpr ⟨rfl, (List.forall_mem_cons.mpr ⟨rfl, (List.forall_mem_cons.mpr ⟨rfl, (List.forall_mem_cons.mpr ⟨rfl, zs_nil⟩)⟩)⟩)⟩) ?_
  refine zt_X15_factOf_L5 hX hr hR hd (res := r) (out := out) a0 j1 ?_ ?_ N _ _ _ g
  · intro o ho
    subst ho
    exact Option.some.inj h
  · intro v5 S4 hx
    subst hx
    try dsimp only at h
    refine zw_iload_n hX dX15_factOf_39 rfl ?_
    obtain rfl := Option.some.inj h
    exact zw_iret hX hr dX15_factOf_40 rfl ⟨rfl, rfl⟩
def zf_X15_fact_J49 (N : Nat) (a0 : Nat) (j1 : Int64) (i3 : Int32) (i4 : Int32) (j5 : Int64) (S : zm_S) : Option (Int64 × zm_S) := (zg_r S a0 15 3).bind (fun b6 => (zs_l S b6 i4 j1).bind (fun S7 => (zg_r S7 a0 15 4).bind (fun b8 => (zs_i S7 b8 i4 i3).bind (fun S9 => some (j5, S9)))))
set_option maxHeartbeats 4000000 in
set_option maxRecDepth 100000 in
theorem zt_X15_fact_J49 {p : Program} {l : Launch} {e : Env} {R : Room} {s : State} {m : MethodId} {args : Array Value} {below : List Frame} {meth : Method} {c : Code} {V : zm_V} {mc ms d rc rs : Nat} (hX : zm_X p R s m args meth c RX15 "fact" cX15_fact 7 zk_E V mc ms) (hr : meth.sig.returnType = (some .long)) (hR : R.frames = d ∧ R.locals = 64 * d) (hd : 2 ≤ d) {N : Nat} {a0 : Nat} {j1 : Int64} {i3 : Int32} {i4 : Int32} {j5 : Int64} {out : (Int64 × zm_S)} {S : zm_S} (h : zf_X15_fact_J49 N a0 j1 i3 i4 j5 S = some out) : zw p l e R s m args below meth c (vx_MQ below (zm_Qc zk_E V (zo_l out)) (zm_XC zk_E V zo_x) args s mc ms (fun q => V.2.2.2.1 ≤ q)) 7 zk_E V mc ms 49 [(0, .ref a0), (1, .long j1), (3, .int i3), (4, .int i4), (5, .long j5)] [] S rc rs := by
  unfold zf_X15_fact_J49 at h
  refine zw_aload_n hX dX15_fact_49 rfl ?_
  obtain ⟨b6, g, h⟩ := zb_some h
  refine zw_getr hX zl_X15_13 dX15_fact_50 g ?_
  refine zw_iload hX dX15_fact_53 rfl ?_
  refine zw_lload_n hX dX15_fact_55 rfl ?_
  obtain ⟨S7, g, h⟩ := zb_some h
  refine zw_sl hX dX15_fact_56 g ?_
  refine zw_aload_n hX dX15_fact_57 rfl ?_
  obtain ⟨b8, g, h⟩ := zb_some h
  refine zw_getr hX zl_X15_17 dX15_fact_58 g ?_
  refine zw_iload hX dX15_fact_61 rfl ?_
  refine zw_iload_n hX dX15_fact_63 rfl ?_
  obtain ⟨S9, g, h⟩ := zb_some h
  refine zw_si hX dX15_fact_64 g ?_
  refine zw_lload hX dX15_fact_65 rfl ?_
  obtain rfl := Option.some.inj h
  exact zw_lret hX hr dX15_fact_67 ⟨rfl, rfl⟩
def zf_X15_fact_J26 (N : Nat) (a0 : Nat) (j1 : Int64) (i3 : Int32) (i4 : Int32) (t0 : Int64) (S : zm_S) : Option (Int64 × zm_S) := if 0 ≤ i4 then zf_X15_fact_J49 N a0 j1 i3 i4 t0 S else (zg_i S a0 15 2).bind (fun v10 => (zg_i S a0 15 2).bind (fun v11 => (zp S a0 15 2 (.int (v11 + (1 : Int32)))).bind (fun S12 => zf_X15_fact_J49 N a0 j1 i3 v10 t0 S12)))
set_option maxHeartbeats 4000000 in
set_option maxRecDepth 100000 in
theorem zt_X15_fact_J26 {p : Program} {l : Launch} {e : Env} {R : Room} {s : State} {m : MethodId} {args : Array Value} {below : List Frame} {meth : Method} {c : Code} {V : zm_V} {mc ms d rc rs : Nat} (hX : zm_X p R s m args meth c RX15 "fact" cX15_fact 7 zk_E V mc ms) (hr : meth.sig.returnType = (some .long)) (hR : R.frames = d ∧ R.locals = 64 * d) (hd : 2 ≤ d) {N : Nat} {a0 : Nat} {j1 : Int64} {i3 : Int32} {i4 : Int32} {t0 : Int64} {out : (Int64 × zm_S)} {S : zm_S} (h : zf_X15_fact_J26 N a0 j1 i3 i4 t0 S = some out) : zw p l e R s m args below meth c (vx_MQ below (zm_Qc zk_E V (zo_l out)) (zm_XC zk_E V zo_x) args s mc ms (fun q => V.2.2.2.1 ≤ q)) 7 zk_E V mc ms 26 [(0, .ref a0), (1, .long j1), (3, .int i3), (4, .int i4)] [.long t0] S rc rs := by
  unfold zf_X15_fact_J26 at h
  refine zw_lstore hX dX15_fact_26 (by decide) ?_
  refine zw_iload hX dX15_fact_28 rfl ?_
  refine zw_if_ge (tgt := 49) hX dX15_fact_30 (by decide) (fun c30 => ?_) (fun c30 => ?_)
  · rw [if_pos c30] at h
    refine zw_sub (lv' := [(0, .ref a0), (1, .long j1), (3, .int i3), (4, .int i4), (5, .long t0)]) (List.forall_mem_cons.mpr ⟨rfl, (List.forall_mem_cons.mpr ⟨rfl, (List.forall_mem_cons.mpr ⟨rfl, (List.forall_mem_cons.mpr ⟨rfl, (List.forall_mem_cons.mpr ⟨rfl, zs_nil⟩)⟩)⟩)⟩)⟩) ?_
    exact zt_X15_fact_J49 hX hr hR hd h
  · rw [if_neg c30] at h
    refine zw_aload_n hX dX15_fact_33 rfl ?_
    obtain ⟨v10, g, h⟩ := zb_some h
    refine zw_geti hX zl_X15_189 dX15_fact_34 g ?_
    refine zw_istore hX dX15_fact_37 (by decide) ?_
    refine zw_aload_n hX dX15_fact_39 rfl ?_
    refine zw_dup hX dX15_fact_40 rfl ?_
    obtain ⟨v11, g, h⟩ := zb_some h
    refine zw_geti hX zl_X15_189 dX15_fact_41 g ?_
    refine zw_iconst (v := (1 : Int32)) hX dX15_fact_44 (by decide) ?_
    refine zw_iadd hX dX15_fact_45 ?_
    obtain ⟨S12, g, h⟩ := zb_some h
    refine zw_putv hX zl_X15_189 zt_15_2 dX15_fact_46 rfl rfl g ?_
    refine zw_sub (lv' := [(0, .ref a0), (1, .long j1), (3, .int i3), (4, .int v10), (5, .long t0)]) (List.forall_mem_cons.mpr ⟨rfl, (List.forall_mem_cons.mpr ⟨rfl, (List.forall_mem_cons.mpr ⟨rfl, (List.forall_mem_cons.mpr ⟨rfl, (List.forall_mem_cons.mpr ⟨rfl, zs_nil⟩)⟩)⟩)⟩)⟩) ?_
    exact zt_X15_fact_J49 hX hr hR hd h
def zf_X15_fact (N : Nat) (a0 : Nat) (j1 : Int64) (i3 : Int32) (S : zm_S) : Option (Int64 × zm_S) := (zi S a0 15).bind (fun _ => (zf_X15_factOf N a0 j1 S).bind (fun r3 => if 0 ≤ r3.1 then (zg_r r3.2 a0 15 4).bind (fun b4 => (za_x r3.2 0 b4 r3.1).bind (fun v5 => zf_X15_fact_J26 N a0 j1 i3 r3.1 ((v5).toInt64) r3.2)) else zf_X15_fact_J26 N a0 j1 i3 r3.1 (1000000000000 : Int64) r3.2))
set_option maxHeartbeats 4000000 in
set_option maxRecDepth 100000 in
theorem zt_X15_fact {l : Launch} {V : zm_V} {N : Nat} {S : zm_S} {out : (Int64 × zm_S)} {d : Nat} {a0 : Nat} {j1 : Int64} {i3 : Int32} (hd : 2 ≤ d) (h : zf_X15_fact N a0 j1 i3 S = some out) : zm_Met l zk_E V yX15_fact (.code yX15_fact cX15_fact 7 (some .long)) d [.ref a0, .long j1, .int i3] S 0 0 (zo_l out) zo_x := by
  refine zm_of (by decide +kernel) (Nat.le_of_ble_eq_true rfl) ?_
  intro p e R s m args below meth c hRR hX hr hxt
  have hR : R.frames = d ∧ R.locals = 64 * d := by rw [hRR]; exact ⟨rfl, rfl⟩
  have hX : zm_X p R s m args meth c RX15 "fact" cX15_fact 7 zk_E V 0 0 := hX
  unfold zf_X15_fact at h
  refine zw_sub (lv' := [(0, .ref a0), (1, .long j1), (3, .int i3)]) (List.forall_mem_cons.mpr ⟨rfl, (List.forall_mem_cons.mpr ⟨rfl, (List.forall_mem_cons.mpr ⟨rfl, zs_nil⟩)⟩)⟩) ?_
  refine zw_aload_n hX dX15_fact_0 rfl ?_
  refine zw_lload_n hX dX15_fact_1 rfl ?_
  obtain ⟨_, gi, h⟩ := zb_some h
  obtain ⟨r3, g, h⟩ := zb_some h
  refine zc_Vi (as := [.long j1]) hX gi (zt_X15_factOf (d := d - 1) (by omega) g) zl_X15_192 rfl dX15_fact_2 ⟨rfl, rfl, Nat.le_of_ble_eq_true rfl⟩ ⟨by omega, by omega⟩ ?_
  refine zw_istore hX dX15_fact_5 (by decide) ?_
  refine zw_iload hX dX15_fact_7 rfl ?_
  refine zw_if_ge (tgt := 18) hX dX15_fact_9 (by decide) (fun c9 => ?_) (fun c9 => ?_)
  · rw [if_pos c9] at h
    refine zw_aload_n hX dX15_fact_18 rfl ?_
    obtain ⟨b4, g, h⟩ := zb_some h
    refine zw_getr hX zl_X15_17 dX15_fact_19 g ?_
    refine zw_iload hX dX15_fact_22 rfl ?_
    obtain ⟨v5, g, h⟩ := zb_some h
    refine zw_xi hX dX15_fact_24 g ?_
    refine zw_i2l hX dX15_fact_25 ?_
    refine zw_sub (lv' := [(0, .ref a0), (1, .long j1), (3, .int i3), (4, .int r3.1)]) (List.forall_mem_cons.mpr ⟨rfl, (List.forall_mem_cons.mpr ⟨rfl, (List.forall_mem_cons.mpr ⟨rfl, (List.forall_mem_cons.mpr ⟨rfl, zs_nil⟩)⟩)⟩)⟩) ?_
    exact zt_X15_fact_J26 hX hr hR hd h
  · rw [if_neg c9] at h
    refine zw_ldc2 (v := (1000000000000 : Int64)) hX dX15_fact_12 zl_X15_196 ?_
    refine zw_goto (tgt := 26) hX dX15_fact_15 (by decide) ?_
    refine zw_sub (lv' := [(0, .ref a0), (1, .long j1), (3, .int i3), (4, .int r3.1)]) (List.forall_mem_cons.mpr ⟨rfl, (List.forall_mem_cons.mpr ⟨rfl, (List.forall_mem_cons.mpr ⟨rfl, (List.forall_mem_cons.mpr ⟨rfl, zs_nil⟩)⟩)⟩)⟩) ?_
    exact zt_X15_fact_J26 hX hr hR hd h
def zf_X15_opens (N : Nat) (a0 : Nat) (i1 : Int32) (j2 : Int64) (S : zm_S) : Option (Unit × zm_S) := (zg_i S a0 15 40).bind (fun v1 => if v1 = 0 then (zp S a0 15 40 (.int i1)).bind (fun S2 => (zp S2 a0 15 41 (.long j2)).bind (fun S3 => some ((), S3))) else some ((), S))
set_option maxHeartbeats 4000000 in
set_option maxRecDepth 100000 in
theorem zt_X15_opens {l : Launch} {V : zm_V} {N : Nat} {S : zm_S} {out : (Unit × zm_S)} {d : Nat} {a0 : Nat} {i1 : Int32} {j2 : Int64} (hd : 1 ≤ d) (h : zf_X15_opens N a0 i1 j2 S = some out) : zm_Met l zk_E V yX15_opens (.code yX15_opens cX15_opens 4 none) d [.ref a0, .int i1, .long j2] S 0 0 (zo_v out) zo_x := by
  refine zm_of (by decide +kernel) (Nat.le_of_ble_eq_true rfl) ?_
  intro p e R s m args below meth c hRR hX hr hxt
  have hR : R.frames = d ∧ R.locals = 64 * d := by rw [hRR]; exact ⟨rfl, rfl⟩
  have hX : zm_X p R s m args meth c RX15 "opens" cX15_opens 4 zk_E V 0 0 := hX
  unfold zf_X15_opens at h
  refine zw_sub (lv' := [(0, .ref a0), (1, .int i1), (2, .long j2)]) (List.forall_mem_cons.mpr ⟨rfl, (List.forall_mem_cons.mpr ⟨rfl, (List.forall_mem_cons.mpr ⟨rfl, zs_nil⟩)⟩)⟩) ?_
  refine zw_aload_n hX dX15_opens_0 rfl ?_
  obtain ⟨v1, g, h⟩ := zb_some h
  refine zw_geti hX zl_X15_198 dX15_opens_1 g ?_
  refine zw_if_ne (tgt := 17) hX dX15_opens_4 (by decide) (fun c4 => ?_) (fun c4 => ?_)
  · rw [if_neg c4] at h
    obtain rfl := Option.some.inj h
    exact zw_vret hX hr dX15_opens_17 ⟨rfl, rfl⟩
  · rw [if_pos c4] at h
    refine zw_aload_n hX dX15_opens_7 rfl ?_
    refine zw_iload_n hX dX15_opens_8 rfl ?_
    obtain ⟨S2, g, h⟩ := zb_some h
    refine zw_putv hX zl_X15_198 zt_15_40 dX15_opens_9 rfl rfl g ?_
    refine zw_aload_n hX dX15_opens_12 rfl ?_
    refine zw_lload_n hX dX15_opens_13 rfl ?_
    obtain ⟨S3, g, h⟩ := zb_some h
    refine zw_putv hX zl_X15_201 zt_15_41 dX15_opens_14 rfl rfl g ?_
    obtain rfl := Option.some.inj h
    exact zw_vret hX hr dX15_opens_17 ⟨rfl, rfl⟩
def zf_X15_times_J35 (N : Nat) (a0 : Nat) (j5 : Int64) (S : zm_S) : Option (Int64 × zm_S) := (zi S a0 15).bind (fun _ => (zf_X15_opens N a0 (2 : Int32) (0 : Int64) S).bind (fun r3 => some (j5, r3.2)))
set_option maxHeartbeats 4000000 in
set_option maxRecDepth 100000 in
theorem zt_X15_times_J35 {p : Program} {l : Launch} {e : Env} {R : Room} {s : State} {m : MethodId} {args : Array Value} {below : List Frame} {meth : Method} {c : Code} {V : zm_V} {mc ms d rc rs : Nat} (hX : zm_X p R s m args meth c RX15 "times" cX15_times 7 zk_E V mc ms) (hr : meth.sig.returnType = (some .long)) (hR : R.frames = d ∧ R.locals = 64 * d) (hd : 2 ≤ d) {N : Nat} {a0 : Nat} {j5 : Int64} {out : (Int64 × zm_S)} {S : zm_S} (h : zf_X15_times_J35 N a0 j5 S = some out) : zw p l e R s m args below meth c (vx_MQ below (zm_Qc zk_E V (zo_l out)) (zm_XC zk_E V zo_x) args s mc ms (fun q => V.2.2.2.1 ≤ q)) 7 zk_E V mc ms 35 [(0, .ref a0), (5, .long j5)] [] S rc rs := by
  unfold zf_X15_times_J35 at h
  refine zw_aload_n hX dX15_times_35 rfl ?_
  refine zw_iconst (v := (2 : Int32)) hX dX15_times_36 (by decide) ?_
  refine zw_lconst (v := (0 : Int64)) hX dX15_times_37 (by decide) ?_
  obtain ⟨_, gi, h⟩ := zb_some h
  obtain ⟨r3, g, h⟩ := zb_some h
  refine zc_Vv (as := [.int (2 : Int32), .long (0 : Int64)]) hX gi (zt_X15_opens (d := d - 1) (by omega) g) zl_X15_204 rfl dX15_times_38 ⟨rfl, rfl, Nat.le_of_ble_eq_true rfl⟩ ⟨by omega, by omega⟩ ?_
  refine zw_lload hX dX15_times_41 rfl ?_
  obtain rfl := Option.some.inj h
  exact zw_lret hX hr dX15_times_43 ⟨rfl, rfl⟩
def zf_X15_times (N : Nat) (a0 : Nat) (j1 : Int64) (j3 : Int64) (S : zm_S) : Option (Int64 × zm_S) := if (lg_cmp j1 (0 : Int64)) = 0 then some ((j1 * j3), S) else if (lg_cmp j3 (0 : Int64)) = 0 then some ((j1 * j3), S) else if j3 = 0 then none else if (lg_cmp ((j1 * j3) / j3) j1) = 0 then if j1 = 0 then none else if (lg_cmp ((j1 * j3) / j1) j3) = 0 then some ((j1 * j3), S) else zf_X15_times_J35 N a0 (j1 * j3) S else zf_X15_times_J35 N a0 (j1 * j3) S
set_option maxHeartbeats 4000000 in
set_option maxRecDepth 100000 in
theorem zt_X15_times {l : Launch} {V : zm_V} {N : Nat} {S : zm_S} {out : (Int64 × zm_S)} {d : Nat} {a0 : Nat} {j1 : Int64} {j3 : Int64} (hd : 2 ≤ d) (h : zf_X15_times N a0 j1 j3 S = some out) : zm_Met l zk_E V yX15_times (.code yX15_times cX15_times 7 (some .long)) d [.ref a0, .long j1, .long j3] S 0 0 (zo_l out) zo_x := by
  refine zm_of (by decide +kernel) (Nat.le_of_ble_eq_true rfl) ?_
  intro p e R s m args below meth c hRR hX hr hxt
  have hR : R.frames = d ∧ R.locals = 64 * d := by rw [hRR]; exact ⟨rfl, rfl⟩
  have hX : zm_X p R s m args meth c RX15 "times" cX15_times 7 zk_E V 0 0 := hX
  unfold zf_X15_times at h
  refine zw_sub (lv' := [(0, .ref a0), (1, .long j1), (3, .long j3)]) (List.forall_mem_cons.mpr ⟨rfl, (List.forall_mem_cons.mpr ⟨rfl, (List.forall_mem_cons.mpr ⟨rfl, zs_nil⟩)⟩)⟩) ?_
  refine zw_lload_n hX dX15_times_0 rfl ?_
  refine zw_lload_n hX dX15_times_1 rfl ?_
  refine zw_lmul hX dX15_times_2 ?_
  refine zw_lstore hX dX15_times_3 (by decide) ?_
  refine zw_lload_n hX dX15_times_5 rfl ?_
  refine zw_lconst (v := (0 : Int64)) hX dX15_times_6 (by decide) ?_
  refine zw_lcmp hX dX15_times_7 ?_
  refine zw_if_eq (tgt := 41) hX dX15_times_8 (by decide) (fun c8 => ?_) (fun c8 => ?_)
  · rw [if_pos c8] at h
    refine zw_lload hX dX15_times_41 rfl ?_
    obtain rfl := Option.some.inj h
    exact zw_lret hX hr dX15_times_43 ⟨rfl, rfl⟩
  · rw [if_neg c8] at h
    refine zw_lload_n hX dX15_times_11 rfl ?_
    refine zw_lconst (v := (0 : Int64)) hX dX15_times_12 (by decide) ?_
    refine zw_lcmp hX dX15_times_13 ?_
    refine zw_if_eq (tgt := 41) hX dX15_times_14 (by decide) (fun c14 => ?_) (fun c14 => ?_)
    · rw [if_pos c14] at h
      refine zw_lload hX dX15_times_41 rfl ?_
      obtain rfl := Option.some.inj h
      exact zw_lret hX hr dX15_times_43 ⟨rfl, rfl⟩
    · rw [if_neg c14] at h
      refine zw_lload hX dX15_times_17 rfl ?_
      refine zw_lload_n hX dX15_times_19 rfl ?_
      by_cases c0 : j3 = 0
      · rw [if_pos c0] at h
        cases h
      rw [if_neg c0] at h
      refine zw_ldiv hX dX15_times_20 c0 ?_
      refine zw_lload_n hX dX15_times_21 rfl ?_
      refine zw_lcmp hX dX15_times_22 ?_
      refine zw_if_ne (tgt := 35) hX dX15_times_23 (by decide) (fun c23 => ?_) (fun c23 => ?_)
      · rw [if_neg c23] at h
        refine zw_sub (lv' := [(0, .ref a0), (5, .long (j1 * j3))]) (List.forall_mem_cons.mpr ⟨rfl, (List.forall_mem_cons.mpr ⟨rfl, zs_nil⟩)⟩) ?_
        exact zt_X15_times_J35 hX hr hR hd h
      · rw [if_pos c23] at h
        refine zw_lload hX dX15_times_26 rfl ?_
        refine zw_lload_n hX dX15_times_28 rfl ?_
        by_cases c0 : j1 = 0
        · rw [if_pos c0] at h
          cases h
        rw [if_neg c0] at h
        refine zw_ldiv hX dX15_times_29 c0 ?_
        refine zw_lload_n hX dX15_times_30 rfl ?_
        refine zw_lcmp hX dX15_times_31 ?_
        refine zw_if_eq (tgt := 41) hX dX15_times_32 (by decide) (fun c32 => ?_) (fun c32 => ?_)
        · rw [if_pos c32] at h
          refine zw_lload hX dX15_times_41 rfl ?_
          obtain rfl := Option.some.inj h
          exact zw_lret hX hr dX15_times_43 ⟨rfl, rfl⟩
        · rw [if_neg c32] at h
          refine zw_sub (lv' := [(0, .ref a0), (5, .long (j1 * j3))]) (List.forall_mem_cons.mpr ⟨rfl, (List.forall_mem_cons.mpr ⟨rfl, zs_nil⟩)⟩) ?_
          exact zt_X15_times_J35 hX hr hR hd h
def zf_X15_plus_J136 (N : Nat) (a0 : Nat) (j6 : Int64) (t0 : Int32) (S : zm_S) : Option (Int64 × zm_S) := if t0 = 0 then some (j6, S) else (zi S a0 15).bind (fun _ => (zf_X15_opens N a0 (2 : Int32) (0 : Int64) S).bind (fun r3 => some (j6, r3.2)))
set_option maxHeartbeats 4000000 in
set_option maxRecDepth 100000 in
theorem zt_X15_plus_J136 {p : Program} {l : Launch} {e : Env} {R : Room} {s : State} {m : MethodId} {args : Array Value} {below : List Frame} {meth : Method} {c : Code} {V : zm_V} {mc ms d rc rs : Nat} (hX : zm_X p R s m args meth c RX15 "plus" cX15_plus 9 zk_E V mc ms) (hr : meth.sig.returnType = (some .long)) (hR : R.frames = d ∧ R.locals = 64 * d) (hd : 2 ≤ d) {N : Nat} {a0 : Nat} {j6 : Int64} {t0 : Int32} {out : (Int64 × zm_S)} {S : zm_S} (h : zf_X15_plus_J136 N a0 j6 t0 S = some out) : zw p l e R s m args below meth c (vx_MQ below (zm_Qc zk_E V (zo_l out)) (zm_XC zk_E V zo_x) args s mc ms (fun q => V.2.2.2.1 ≤ q)) 9 zk_E V mc ms 136 [(0, .ref a0), (6, .long j6)] [.int t0] S rc rs := by
  unfold zf_X15_plus_J136 at h
  refine zw_istore hX dX15_plus_136 (by decide) ?_
  refine zw_iload hX dX15_plus_138 rfl ?_
  refine zw_if_eq (tgt := 149) hX dX15_plus_140 (by decide) (fun c140 => ?_) (fun c140 => ?_)
  · rw [if_pos c140] at h
    refine zw_lload hX dX15_plus_149 rfl ?_
    obtain rfl := Option.some.inj h
    exact zw_lret hX hr dX15_plus_151 ⟨rfl, rfl⟩
  · rw [if_neg c140] at h
    refine zw_aload_n hX dX15_plus_143 rfl ?_
    refine zw_iconst (v := (2 : Int32)) hX dX15_plus_144 (by decide) ?_
    refine zw_lconst (v := (0 : Int64)) hX dX15_plus_145 (by decide) ?_
    obtain ⟨_, gi, h⟩ := zb_some h
    obtain ⟨r3, g, h⟩ := zb_some h
    refine zc_Vv (as := [.int (2 : Int32), .long (0 : Int64)]) hX gi (zt_X15_opens (d := d - 1) (by omega) g) zl_X15_204 rfl dX15_plus_146 ⟨rfl, rfl, Nat.le_of_ble_eq_true rfl⟩ ⟨by omega, by omega⟩ ?_
    refine zw_lload hX dX15_plus_149 rfl ?_
    obtain rfl := Option.some.inj h
    exact zw_lret hX hr dX15_plus_151 ⟨rfl, rfl⟩
def zf_X15_plus_J135 (N : Nat) (a0 : Nat) (j6 : Int64) (S : zm_S) : Option (Int64 × zm_S) := zf_X15_plus_J136 N a0 j6 (0 : Int32) S
set_option maxHeartbeats 4000000 in
set_option maxRecDepth 100000 in
theorem zt_X15_plus_J135 {p : Program} {l : Launch} {e : Env} {R : Room} {s : State} {m : MethodId} {args : Array Value} {below : List Frame} {meth : Method} {c : Code} {V : zm_V} {mc ms d rc rs : Nat} (hX : zm_X p R s m args meth c RX15 "plus" cX15_plus 9 zk_E V mc ms) (hr : meth.sig.returnType = (some .long)) (hR : R.frames = d ∧ R.locals = 64 * d) (hd : 2 ≤ d) {N : Nat} {a0 : Nat} {j6 : Int64} {out : (Int64 × zm_S)} {S : zm_S} (h : zf_X15_plus_J135 N a0 j6 S = some out) : zw p l e R s m args below meth c (vx_MQ below (zm_Qc zk_E V (zo_l out)) (zm_XC zk_E V zo_x) args s mc ms (fun q => V.2.2.2.1 ≤ q)) 9 zk_E V mc ms 135 [(0, .ref a0), (6, .long j6)] [] S rc rs := by
  unfold zf_X15_plus_J135 at h
  refine zw_iconst (v := (0 : Int32)) hX dX15_plus_135 (by decide) ?_
  refine zw_sub (lv' := [(0, .ref a0), (6, .long j6)]) (List.forall_mem_cons.mpr ⟨rfl, (List.forall_mem_cons.mpr ⟨rfl, zs_nil⟩)⟩) ?_
  exact zt_X15_plus_J136 hX hr hR hd h
def zf_X15_plus_J128 (N : Nat) (a0 : Nat) (j6 : Int64) (t0 : Int32) (t1 : Int32) (S : zm_S) : Option (Int64 × zm_S) := if t0 = t1 then zf_X15_plus_J135 N a0 j6 S else zf_X15_plus_J136 N a0 j6 (1 : Int32) S
set_option maxHeartbeats 4000000 in
set_option maxRecDepth 100000 in
theorem zt_X15_plus_J128 {p : Program} {l : Launch} {e : Env} {R : Room} {s : State} {m : MethodId} {args : Array Value} {below : List Frame} {meth : Method} {c : Code} {V : zm_V} {mc ms d rc rs : Nat} (hX : zm_X p R s m args meth c RX15 "plus" cX15_plus 9 zk_E V mc ms) (hr : meth.sig.returnType = (some .long)) (hR : R.frames = d ∧ R.locals = 64 * d) (hd : 2 ≤ d) {N : Nat} {a0 : Nat} {j6 : Int64} {t0 : Int32} {t1 : Int32} {out : (Int64 × zm_S)} {S : zm_S} (h : zf_X15_plus_J128 N a0 j6 t0 t1 S = some out) : zw p l e R s m args below meth c (vx_MQ below (zm_Qc zk_E V (zo_l out)) (zm_XC zk_E V zo_x) args s mc ms (fun q => V.2.2.2.1 ≤ q)) 9 zk_E V mc ms 128 [(0, .ref a0), (6, .long j6)] [.int t1, .int t0] S rc rs := by
  unfold zf_X15_plus_J128 at h
  refine zw_icmp_eq (tgt := 135) hX dX15_plus_128 (by decide) (fun c128 => ?_) (fun c128 => ?_)
  · rw [if_pos c128] at h
    refine zw_sub (lv' := [(0, .ref a0), (6, .long j6)]) (List.forall_mem_cons.mpr ⟨rfl, (List.forall_mem_cons.mpr ⟨rfl, zs_nil⟩)⟩) ?_
    exact zt_X15_plus_J135 hX hr hR hd h
  · rw [if_neg c128] at h
    refine zw_iconst (v := (1 : Int32)) hX dX15_plus_131 (by decide) ?_
    refine zw_goto (tgt := 136) hX dX15_plus_132 (by decide) ?_
    refine zw_sub (lv' := [(0, .ref a0), (6, .long j6)]) (List.forall_mem_cons.mpr ⟨rfl, (List.forall_mem_cons.mpr ⟨rfl, zs_nil⟩)⟩) ?_
    exact zt_X15_plus_J136 hX hr hR hd h
def zf_X15_plus_J117 (N : Nat) (a0 : Nat) (j1 : Int64) (j6 : Int64) (t0 : Int32) (S : zm_S) : Option (Int64 × zm_S) := if 0 ≤ (lg_cmp j1 (0 : Int64)) then zf_X15_plus_J128 N a0 j6 t0 (0 : Int32) S else zf_X15_plus_J128 N a0 j6 t0 (1 : Int32) S
set_option maxHeartbeats 4000000 in
set_option maxRecDepth 100000 in
theorem zt_X15_plus_J117 {p : Program} {l : Launch} {e : Env} {R : Room} {s : State} {m : MethodId} {args : Array Value} {below : List Frame} {meth : Method} {c : Code} {V : zm_V} {mc ms d rc rs : Nat} (hX : zm_X p R s m args meth c RX15 "plus" cX15_plus 9 zk_E V mc ms) (hr : meth.sig.returnType = (some .long)) (hR : R.frames = d ∧ R.locals = 64 * d) (hd : 2 ≤ d) {N : Nat} {a0 : Nat} {j1 : Int64} {j6 : Int64} {t0 : Int32} {out : (Int64 × zm_S)} {S : zm_S} (h : zf_X15_plus_J117 N a0 j1 j6 t0 S = some out) : zw p l e R s m args below meth c (vx_MQ below (zm_Qc zk_E V (zo_l out)) (zm_XC zk_E V zo_x) args s mc ms (fun q => V.2.2.2.1 ≤ q)) 9 zk_E V mc ms 117 [(0, .ref a0), (1, .long j1), (6, .long j6)] [.int t0] S rc rs := by
  unfold zf_X15_plus_J117 at h
  refine zw_lload_n hX dX15_plus_117 rfl ?_
  refine zw_lconst (v := (0 : Int64)) hX dX15_plus_118 (by decide) ?_
  refine zw_lcmp hX dX15_plus_119 ?_
  refine zw_if_ge (tgt := 127) hX dX15_plus_120 (by decide) (fun c120 => ?_) (fun c120 => ?_)
  · rw [if_pos c120] at h
    refine zw_iconst (v := (0 : Int32)) hX dX15_plus_127 (by decide) ?_
    refine zw_sub (lv' := [(0, .ref a0), (6, .long j6)]) (List.forall_mem_cons.mpr ⟨rfl, (List.forall_mem_cons.mpr ⟨rfl, zs_nil⟩)⟩) ?_
    exact zt_X15_plus_J128 hX hr hR hd h
  · rw [if_neg c120] at h
    refine zw_iconst (v := (1 : Int32)) hX dX15_plus_123 (by decide) ?_
    refine zw_goto (tgt := 128) hX dX15_plus_124 (by decide) ?_
    refine zw_sub (lv' := [(0, .ref a0), (6, .long j6)]) (List.forall_mem_cons.mpr ⟨rfl, (List.forall_mem_cons.mpr ⟨rfl, zs_nil⟩)⟩) ?_
    exact zt_X15_plus_J128 hX hr hR hd h
def zf_X15_plus_J102 (N : Nat) (a0 : Nat) (j1 : Int64) (j6 : Int64) (t0 : Int32) (t1 : Int32) (S : zm_S) : Option (Int64 × zm_S) := if t0 = t1 then if 0 ≤ (lg_cmp j6 (0 : Int64)) then zf_X15_plus_J117 N a0 j1 j6 (0 : Int32) S else zf_X15_plus_J117 N a0 j1 j6 (1 : Int32) S else zf_X15_plus_J135 N a0 j6 S
set_option maxHeartbeats 4000000 in
set_option maxRecDepth 100000 in
theorem zt_X15_plus_J102 {p : Program} {l : Launch} {e : Env} {R : Room} {s : State} {m : MethodId} {args : Array Value} {below : List Frame} {meth : Method} {c : Code} {V : zm_V} {mc ms d rc rs : Nat} (hX : zm_X p R s m args meth c RX15 "plus" cX15_plus 9 zk_E V mc ms) (hr : meth.sig.returnType = (some .long)) (hR : R.frames = d ∧ R.locals = 64 * d) (hd : 2 ≤ d) {N : Nat} {a0 : Nat} {j1 : Int64} {j6 : Int64} {t0 : Int32} {t1 : Int32} {out : (Int64 × zm_S)} {S : zm_S} (h : zf_X15_plus_J102 N a0 j1 j6 t0 t1 S = some out) : zw p l e R s m args below meth c (vx_MQ below (zm_Qc zk_E V (zo_l out)) (zm_XC zk_E V zo_x) args s mc ms (fun q => V.2.2.2.1 ≤ q)) 9 zk_E V mc ms 102 [(0, .ref a0), (1, .long j1), (6, .long j6)] [.int t1, .int t0] S rc rs := by
  unfold zf_X15_plus_J102 at h
  refine zw_icmp_ne (tgt := 135) hX dX15_plus_102 (by decide) (fun c102 => ?_) (fun c102 => ?_)
  · rw [if_neg c102] at h
    refine zw_sub (lv' := [(0, .ref a0), (6, .long j6)]) (List.forall_mem_cons.mpr ⟨rfl, (List.forall_mem_cons.mpr ⟨rfl, zs_nil⟩)⟩) ?_
    exact zt_X15_plus_J135 hX hr hR hd h
  · rw [if_pos c102] at h
    refine zw_lload hX dX15_plus_105 rfl ?_
    refine zw_lconst (v := (0 : Int64)) hX dX15_plus_107 (by decide) ?_
    refine zw_lcmp hX dX15_plus_108 ?_
    refine zw_if_ge (tgt := 116) hX dX15_plus_109 (by decide) (fun c109 => ?_) (fun c109 => ?_)
    · rw [if_pos c109] at h
      refine zw_iconst (v := (0 : Int32)) hX dX15_plus_116 (by decide) ?_
      refine zw_sub (lv' := [(0, .ref a0), (1, .long j1), (6, .long j6)]) (List.forall_mem_cons.mpr ⟨rfl, (List.forall_mem_cons.mpr ⟨rfl, (List.forall_mem_cons.mpr ⟨rfl, zs_nil⟩)⟩)⟩) ?_
      exact zt_X15_plus_J117 hX hr hR hd h
    · rw [if_neg c109] at h
      refine zw_iconst (v := (1 : Int32)) hX dX15_plus_112 (by decide) ?_
      refine zw_goto (tgt := 117) hX dX15_plus_113 (by decide) ?_
      refine zw_sub (lv' := [(0, .ref a0), (1, .long j1), (6, .long j6)]) (List.forall_mem_cons.mpr ⟨rfl, (List.forall_mem_cons.mpr ⟨rfl, (List.forall_mem_cons.mpr ⟨rfl, zs_nil⟩)⟩)⟩) ?_
      exact zt_X15_plus_J117 hX hr hR hd h
def zf_X15_plus_J91 (N : Nat) (a0 : Nat) (j1 : Int64) (j3 : Int64) (j6 : Int64) (t0 : Int32) (S : zm_S) : Option (Int64 × zm_S) := if 0 ≤ (lg_cmp j3 (0 : Int64)) then zf_X15_plus_J102 N a0 j1 j6 t0 (0 : Int32) S else zf_X15_plus_J102 N a0 j1 j6 t0 (1 : Int32) S
set_option maxHeartbeats 4000000 in
set_option maxRecDepth 100000 in
theorem zt_X15_plus_J91 {p : Program} {l : Launch} {e : Env} {R : Room} {s : State} {m : MethodId} {args : Array Value} {below : List Frame} {meth : Method} {c : Code} {V : zm_V} {mc ms d rc rs : Nat} (hX : zm_X p R s m args meth c RX15 "plus" cX15_plus 9 zk_E V mc ms) (hr : meth.sig.returnType = (some .long)) (hR : R.frames = d ∧ R.locals = 64 * d) (hd : 2 ≤ d) {N : Nat} {a0 : Nat} {j1 : Int64} {j3 : Int64} {j6 : Int64} {t0 : Int32} {out : (Int64 × zm_S)} {S : zm_S} (h : zf_X15_plus_J91 N a0 j1 j3 j6 t0 S = some out) : zw p l e R s m args below meth c (vx_MQ below (zm_Qc zk_E V (zo_l out)) (zm_XC zk_E V zo_x) args s mc ms (fun q => V.2.2.2.1 ≤ q)) 9 zk_E V mc ms 91 [(0, .ref a0), (1, .long j1), (3, .long j3), (6, .long j6)] [.int t0] S rc rs := by
  unfold zf_X15_plus_J91 at h
  refine zw_lload_n hX dX15_plus_91 rfl ?_
  refine zw_lconst (v := (0 : Int64)) hX dX15_plus_92 (by decide) ?_
  refine zw_lcmp hX dX15_plus_93 ?_
  refine zw_if_ge (tgt := 101) hX dX15_plus_94 (by decide) (fun c94 => ?_) (fun c94 => ?_)
  · rw [if_pos c94] at h
    refine zw_iconst (v := (0 : Int32)) hX dX15_plus_101 (by decide) ?_
    refine zw_sub (lv' := [(0, .ref a0), (1, .long j1), (6, .long j6)]) (List.forall_mem_cons.mpr ⟨rfl, (List.forall_mem_cons.mpr ⟨rfl, (List.forall_mem_cons.mpr ⟨rfl, zs_nil⟩)⟩)⟩) ?_
    exact zt_X15_plus_J102 hX hr hR hd h
  · rw [if_neg c94] at h
    refine zw_iconst (v := (1 : Int32)) hX dX15_plus_97 (by decide) ?_
    refine zw_goto (tgt := 102) hX dX15_plus_98 (by decide) ?_
    refine zw_sub (lv' := [(0, .ref a0), (1, .long j1), (6, .long j6)]) (List.forall_mem_cons.mpr ⟨rfl, (List.forall_mem_cons.mpr ⟨rfl, (List.forall_mem_cons.mpr ⟨rfl, zs_nil⟩)⟩)⟩) ?_
    exact zt_X15_plus_J102 hX hr hR hd h
def zf_X15_plus_J76 (N : Nat) (a0 : Nat) (j6 : Int64) (S : zm_S) : Option (Int64 × zm_S) := zf_X15_plus_J136 N a0 j6 (0 : Int32) S
set_option maxHeartbeats 4000000 in
set_option maxRecDepth 100000 in
theorem zt_X15_plus_J76 {p : Program} {l : Launch} {e : Env} {R : Room} {s : State} {m : MethodId} {args : Array Value} {below : List Frame} {meth : Method} {c : Code} {V : zm_V} {mc ms d rc rs : Nat} (hX : zm_X p R s m args meth c RX15 "plus" cX15_plus 9 zk_E V mc ms) (hr : meth.sig.returnType = (some .long)) (hR : R.frames = d ∧ R.locals = 64 * d) (hd : 2 ≤ d) {N : Nat} {a0 : Nat} {j6 : Int64} {out : (Int64 × zm_S)} {S : zm_S} (h : zf_X15_plus_J76 N a0 j6 S = some out) : zw p l e R s m args below meth c (vx_MQ below (zm_Qc zk_E V (zo_l out)) (zm_XC zk_E V zo_x) args s mc ms (fun q => V.2.2.2.1 ≤ q)) 9 zk_E V mc ms 76 [(0, .ref a0), (6, .long j6)] [] S rc rs := by
  unfold zf_X15_plus_J76 at h
  refine zw_iconst (v := (0 : Int32)) hX dX15_plus_76 (by decide) ?_
  refine zw_goto (tgt := 136) hX dX15_plus_77 (by decide) ?_
  refine zw_sub (lv' := [(0, .ref a0), (6, .long j6)]) (List.forall_mem_cons.mpr ⟨rfl, (List.forall_mem_cons.mpr ⟨rfl, zs_nil⟩)⟩) ?_
  exact zt_X15_plus_J136 hX hr hR hd h
def zf_X15_plus_J69 (N : Nat) (a0 : Nat) (j6 : Int64) (t0 : Int32) (t1 : Int32) (S : zm_S) : Option (Int64 × zm_S) := if t0 = t1 then zf_X15_plus_J76 N a0 j6 S else zf_X15_plus_J136 N a0 j6 (1 : Int32) S
set_option maxHeartbeats 4000000 in
set_option maxRecDepth 100000 in
theorem zt_X15_plus_J69 {p : Program} {l : Launch} {e : Env} {R : Room} {s : State} {m : MethodId} {args : Array Value} {below : List Frame} {meth : Method} {c : Code} {V : zm_V} {mc ms d rc rs : Nat} (hX : zm_X p R s m args meth c RX15 "plus" cX15_plus 9 zk_E V mc ms) (hr : meth.sig.returnType = (some .long)) (hR : R.frames = d ∧ R.locals = 64 * d) (hd : 2 ≤ d) {N : Nat} {a0 : Nat} {j6 : Int64} {t0 : Int32} {t1 : Int32} {out : (Int64 × zm_S)} {S : zm_S} (h : zf_X15_plus_J69 N a0 j6 t0 t1 S = some out) : zw p l e R s m args below meth c (vx_MQ below (zm_Qc zk_E V (zo_l out)) (zm_XC zk_E V zo_x) args s mc ms (fun q => V.2.2.2.1 ≤ q)) 9 zk_E V mc ms 69 [(0, .ref a0), (6, .long j6)] [.int t1, .int t0] S rc rs := by
  unfold zf_X15_plus_J69 at h
  refine zw_icmp_eq (tgt := 76) hX dX15_plus_69 (by decide) (fun c69 => ?_) (fun c69 => ?_)
  · rw [if_pos c69] at h
    refine zw_sub (lv' := [(0, .ref a0), (6, .long j6)]) (List.forall_mem_cons.mpr ⟨rfl, (List.forall_mem_cons.mpr ⟨rfl, zs_nil⟩)⟩) ?_
    exact zt_X15_plus_J76 hX hr hR hd h
  · rw [if_neg c69] at h
    refine zw_iconst (v := (1 : Int32)) hX dX15_plus_72 (by decide) ?_
    refine zw_goto (tgt := 136) hX dX15_plus_73 (by decide) ?_
    refine zw_sub (lv' := [(0, .ref a0), (6, .long j6)]) (List.forall_mem_cons.mpr ⟨rfl, (List.forall_mem_cons.mpr ⟨rfl, zs_nil⟩)⟩) ?_
    exact zt_X15_plus_J136 hX hr hR hd h
def zf_X15_plus_J58 (N : Nat) (a0 : Nat) (j1 : Int64) (j6 : Int64) (t0 : Int32) (S : zm_S) : Option (Int64 × zm_S) := if 0 ≤ (lg_cmp j1 (0 : Int64)) then zf_X15_plus_J69 N a0 j6 t0 (0 : Int32) S else zf_X15_plus_J69 N a0 j6 t0 (1 : Int32) S
set_option maxHeartbeats 4000000 in
set_option maxRecDepth 100000 in
theorem zt_X15_plus_J58 {p : Program} {l : Launch} {e : Env} {R : Room} {s : State} {m : MethodId} {args : Array Value} {below : List Frame} {meth : Method} {c : Code} {V : zm_V} {mc ms d rc rs : Nat} (hX : zm_X p R s m args meth c RX15 "plus" cX15_plus 9 zk_E V mc ms) (hr : meth.sig.returnType = (some .long)) (hR : R.frames = d ∧ R.locals = 64 * d) (hd : 2 ≤ d) {N : Nat} {a0 : Nat} {j1 : Int64} {j6 : Int64} {t0 : Int32} {out : (Int64 × zm_S)} {S : zm_S} (h : zf_X15_plus_J58 N a0 j1 j6 t0 S = some out) : zw p l e R s m args below meth c (vx_MQ below (zm_Qc zk_E V (zo_l out)) (zm_XC zk_E V zo_x) args s mc ms (fun q => V.2.2.2.1 ≤ q)) 9 zk_E V mc ms 58 [(0, .ref a0), (1, .long j1), (6, .long j6)] [.int t0] S rc rs := by
  unfold zf_X15_plus_J58 at h
  refine zw_lload_n hX dX15_plus_58 rfl ?_
  refine zw_lconst (v := (0 : Int64)) hX dX15_plus_59 (by decide) ?_
  refine zw_lcmp hX dX15_plus_60 ?_
  refine zw_if_ge (tgt := 68) hX dX15_plus_61 (by decide) (fun c61 => ?_) (fun c61 => ?_)
  · rw [if_pos c61] at h
    refine zw_iconst (v := (0 : Int32)) hX dX15_plus_68 (by decide) ?_
    refine zw_sub (lv' := [(0, .ref a0), (6, .long j6)]) (List.forall_mem_cons.mpr ⟨rfl, (List.forall_mem_cons.mpr ⟨rfl, zs_nil⟩)⟩) ?_
    exact zt_X15_plus_J69 hX hr hR hd h
  · rw [if_neg c61] at h
    refine zw_iconst (v := (1 : Int32)) hX dX15_plus_64 (by decide) ?_
    refine zw_goto (tgt := 69) hX dX15_plus_65 (by decide) ?_
    refine zw_sub (lv' := [(0, .ref a0), (6, .long j6)]) (List.forall_mem_cons.mpr ⟨rfl, (List.forall_mem_cons.mpr ⟨rfl, zs_nil⟩)⟩) ?_
    exact zt_X15_plus_J69 hX hr hR hd h
def zf_X15_plus_J43 (N : Nat) (a0 : Nat) (j1 : Int64) (j6 : Int64) (t0 : Int32) (t1 : Int32) (S : zm_S) : Option (Int64 × zm_S) := if t0 = t1 then zf_X15_plus_J76 N a0 j6 S else if 0 ≤ (lg_cmp j6 (0 : Int64)) then zf_X15_plus_J58 N a0 j1 j6 (0 : Int32) S else zf_X15_plus_J58 N a0 j1 j6 (1 : Int32) S
set_option maxHeartbeats 4000000 in
set_option maxRecDepth 100000 in
theorem zt_X15_plus_J43 {p : Program} {l : Launch} {e : Env} {R : Room} {s : State} {m : MethodId} {args : Array Value} {below : List Frame} {meth : Method} {c : Code} {V : zm_V} {mc ms d rc rs : Nat} (hX : zm_X p R s m args meth c RX15 "plus" cX15_plus 9 zk_E V mc ms) (hr : meth.sig.returnType = (some .long)) (hR : R.frames = d ∧ R.locals = 64 * d) (hd : 2 ≤ d) {N : Nat} {a0 : Nat} {j1 : Int64} {j6 : Int64} {t0 : Int32} {t1 : Int32} {out : (Int64 × zm_S)} {S : zm_S} (h : zf_X15_plus_J43 N a0 j1 j6 t0 t1 S = some out) : zw p l e R s m args below meth c (vx_MQ below (zm_Qc zk_E V (zo_l out)) (zm_XC zk_E V zo_x) args s mc ms (fun q => V.2.2.2.1 ≤ q)) 9 zk_E V mc ms 43 [(0, .ref a0), (1, .long j1), (6, .long j6)] [.int t1, .int t0] S rc rs := by
  unfold zf_X15_plus_J43 at h
  refine zw_icmp_eq (tgt := 76) hX dX15_plus_43 (by decide) (fun c43 => ?_) (fun c43 => ?_)
  · rw [if_pos c43] at h
    refine zw_sub (lv' := [(0, .ref a0), (6, .long j6)]) (List.forall_mem_cons.mpr ⟨rfl, (List.forall_mem_cons.mpr ⟨rfl, zs_nil⟩)⟩) ?_
    exact zt_X15_plus_J76 hX hr hR hd h
  · rw [if_neg c43] at h
    refine zw_lload hX dX15_plus_46 rfl ?_
    refine zw_lconst (v := (0 : Int64)) hX dX15_plus_48 (by decide) ?_
    refine zw_lcmp hX dX15_plus_49 ?_
    refine zw_if_ge (tgt := 57) hX dX15_plus_50 (by decide) (fun c50 => ?_) (fun c50 => ?_)
    · rw [if_pos c50] at h
      refine zw_iconst (v := (0 : Int32)) hX dX15_plus_57 (by decide) ?_
      refine zw_sub (lv' := [(0, .ref a0), (1, .long j1), (6, .long j6)]) (List.forall_mem_cons.mpr ⟨rfl, (List.forall_mem_cons.mpr ⟨rfl, (List.forall_mem_cons.mpr ⟨rfl, zs_nil⟩)⟩)⟩) ?_
      exact zt_X15_plus_J58 hX hr hR hd h
    · rw [if_neg c50] at h
      refine zw_iconst (v := (1 : Int32)) hX dX15_plus_53 (by decide) ?_
      refine zw_goto (tgt := 58) hX dX15_plus_54 (by decide) ?_
      refine zw_sub (lv' := [(0, .ref a0), (1, .long j1), (6, .long j6)]) (List.forall_mem_cons.mpr ⟨rfl, (List.forall_mem_cons.mpr ⟨rfl, (List.forall_mem_cons.mpr ⟨rfl, zs_nil⟩)⟩)⟩) ?_
      exact zt_X15_plus_J58 hX hr hR hd h
def zf_X15_plus_J32 (N : Nat) (a0 : Nat) (j1 : Int64) (j3 : Int64) (j6 : Int64) (t0 : Int32) (S : zm_S) : Option (Int64 × zm_S) := if 0 ≤ (lg_cmp j3 (0 : Int64)) then zf_X15_plus_J43 N a0 j1 j6 t0 (0 : Int32) S else zf_X15_plus_J43 N a0 j1 j6 t0 (1 : Int32) S
set_option maxHeartbeats 4000000 in
set_option maxRecDepth 100000 in
theorem zt_X15_plus_J32 {p : Program} {l : Launch} {e : Env} {R : Room} {s : State} {m : MethodId} {args : Array Value} {below : List Frame} {meth : Method} {c : Code} {V : zm_V} {mc ms d rc rs : Nat} (hX : zm_X p R s m args meth c RX15 "plus" cX15_plus 9 zk_E V mc ms) (hr : meth.sig.returnType = (some .long)) (hR : R.frames = d ∧ R.locals = 64 * d) (hd : 2 ≤ d) {N : Nat} {a0 : Nat} {j1 : Int64} {j3 : Int64} {j6 : Int64} {t0 : Int32} {out : (Int64 × zm_S)} {S : zm_S} (h : zf_X15_plus_J32 N a0 j1 j3 j6 t0 S = some out) : zw p l e R s m args below meth c (vx_MQ below (zm_Qc zk_E V (zo_l out)) (zm_XC zk_E V zo_x) args s mc ms (fun q => V.2.2.2.1 ≤ q)) 9 zk_E V mc ms 32 [(0, .ref a0), (1, .long j1), (3, .long j3), (6, .long j6)] [.int t0] S rc rs := by
  unfold zf_X15_plus_J32 at h
  refine zw_lload_n hX dX15_plus_32 rfl ?_
  refine zw_lconst (v := (0 : Int64)) hX dX15_plus_33 (by decide) ?_
  refine zw_lcmp hX dX15_plus_34 ?_
  refine zw_if_ge (tgt := 42) hX dX15_plus_35 (by decide) (fun c35 => ?_) (fun c35 => ?_)
  · rw [if_pos c35] at h
    refine zw_iconst (v := (0 : Int32)) hX dX15_plus_42 (by decide) ?_
    refine zw_sub (lv' := [(0, .ref a0), (1, .long j1), (6, .long j6)]) (List.forall_mem_cons.mpr ⟨rfl, (List.forall_mem_cons.mpr ⟨rfl, (List.forall_mem_cons.mpr ⟨rfl, zs_nil⟩)⟩)⟩) ?_
    exact zt_X15_plus_J43 hX hr hR hd h
  · rw [if_neg c35] at h
    refine zw_iconst (v := (1 : Int32)) hX dX15_plus_38 (by decide) ?_
    refine zw_goto (tgt := 43) hX dX15_plus_39 (by decide) ?_
    refine zw_sub (lv' := [(0, .ref a0), (1, .long j1), (6, .long j6)]) (List.forall_mem_cons.mpr ⟨rfl, (List.forall_mem_cons.mpr ⟨rfl, (List.forall_mem_cons.mpr ⟨rfl, zs_nil⟩)⟩)⟩) ?_
    exact zt_X15_plus_J43 hX hr hR hd h
def zf_X15_plus_J14 (N : Nat) (a0 : Nat) (j1 : Int64) (j3 : Int64) (i5 : Int32) (t0 : Int64) (S : zm_S) : Option (Int64 × zm_S) := if i5 = 0 then if 0 ≤ (lg_cmp j1 (0 : Int64)) then zf_X15_plus_J91 N a0 j1 j3 t0 (0 : Int32) S else zf_X15_plus_J91 N a0 j1 j3 t0 (1 : Int32) S else if 0 ≤ (lg_cmp j1 (0 : Int64)) then zf_X15_plus_J32 N a0 j1 j3 t0 (0 : Int32) S else zf_X15_plus_J32 N a0 j1 j3 t0 (1 : Int32) S
set_option maxHeartbeats 4000000 in
set_option maxRecDepth 100000 in
theorem zt_X15_plus_J14 {p : Program} {l : Launch} {e : Env} {R : Room} {s : State} {m : MethodId} {args : Array Value} {below : List Frame} {meth : Method} {c : Code} {V : zm_V} {mc ms d rc rs : Nat} (hX : zm_X p R s m args meth c RX15 "plus" cX15_plus 9 zk_E V mc ms) (hr : meth.sig.returnType = (some .long)) (hR : R.frames = d ∧ R.locals = 64 * d) (hd : 2 ≤ d) {N : Nat} {a0 : Nat} {j1 : Int64} {j3 : Int64} {i5 : Int32} {t0 : Int64} {out : (Int64 × zm_S)} {S : zm_S} (h : zf_X15_plus_J14 N a0 j1 j3 i5 t0 S = some out) : zw p l e R s m args below meth c (vx_MQ below (zm_Qc zk_E V (zo_l out)) (zm_XC zk_E V zo_x) args s mc ms (fun q => V.2.2.2.1 ≤ q)) 9 zk_E V mc ms 14 [(0, .ref a0), (1, .long j1), (3, .long j3), (5, .int i5)] [.long t0] S rc rs := by
  unfold zf_X15_plus_J14 at h
  refine zw_lstore hX dX15_plus_14 (by decide) ?_
  refine zw_iload hX dX15_plus_16 rfl ?_
  refine zw_if_eq (tgt := 80) hX dX15_plus_18 (by decide) (fun c18 => ?_) (fun c18 => ?_)
  · rw [if_pos c18] at h
    refine zw_lload_n hX dX15_plus_80 rfl ?_
    refine zw_lconst (v := (0 : Int64)) hX dX15_plus_81 (by decide) ?_
    refine zw_lcmp hX dX15_plus_82 ?_
    refine zw_if_ge (tgt := 90) hX dX15_plus_83 (by decide) (fun c83 => ?_) (fun c83 => ?_)
    · rw [if_pos c83] at h
      refine zw_iconst (v := (0 : Int32)) hX dX15_plus_90 (by decide) ?_
      refine zw_sub (lv' := [(0, .ref a0), (1, .long j1), (3, .long j3), (6, .long t0)]) (List.forall_mem_cons.mpr ⟨rfl, (List.forall_mem_cons.mpr ⟨rfl, (List.forall_mem_cons.mpr ⟨rfl, (List.forall_mem_cons.mpr ⟨rfl, zs_nil⟩)⟩)⟩)⟩) ?_
      exact zt_X15_plus_J91 hX hr hR hd h
    · rw [if_neg c83] at h
      refine zw_iconst (v := (1 : Int32)) hX dX15_plus_86 (by decide) ?_
      refine zw_goto (tgt := 91) hX dX15_plus_87 (by decide) ?_
      refine zw_sub (lv' := [(0, .ref a0), (1, .long j1), (3, .long j3), (6, .long t0)]) (List.forall_mem_cons.mpr ⟨rfl, (List.forall_mem_cons.mpr ⟨rfl, (List.forall_mem_cons.mpr ⟨rfl, (List.forall_mem_cons.mpr ⟨rfl, zs_nil⟩)⟩)⟩)⟩) ?_
      exact zt_X15_plus_J91 hX hr hR hd h
  · rw [if_neg c18] at h
    refine zw_lload_n hX dX15_plus_21 rfl ?_
    refine zw_lconst (v := (0 : Int64)) hX dX15_plus_22 (by decide) ?_
    refine zw_lcmp hX dX15_plus_23 ?_
    refine zw_if_ge (tgt := 31) hX dX15_plus_24 (by decide) (fun c24 => ?_) (fun c24 => ?_)
    · rw [if_pos c24] at h
      refine zw_iconst (v := (0 : Int32)) hX dX15_plus_31 (by decide) ?_
      refine zw_sub (lv' := [(0, .ref a0), (1, .long j1), (3, .long j3), (6, .long t0)]) (List.forall_mem_cons.mpr ⟨rfl, (List.forall_mem_cons.mpr ⟨rfl, (List.forall_mem_cons.mpr ⟨rfl, (List.forall_mem_cons.mpr ⟨rfl, zs_nil⟩)⟩)⟩)⟩) ?_
      exact zt_X15_plus_J32 hX hr hR hd h
    · rw [if_neg c24] at h
      refine zw_iconst (v := (1 : Int32)) hX dX15_plus_27 (by decide) ?_
      refine zw_goto (tgt := 32) hX dX15_plus_28 (by decide) ?_
      refine zw_sub (lv' := [(0, .ref a0), (1, .long j1), (3, .long j3), (6, .long t0)]) (List.forall_mem_cons.mpr ⟨rfl, (List.forall_mem_cons.mpr ⟨rfl, (List.forall_mem_cons.mpr ⟨rfl, (List.forall_mem_cons.mpr ⟨rfl, zs_nil⟩)⟩)⟩)⟩) ?_
      exact zt_X15_plus_J32 hX hr hR hd h
def zf_X15_plus (N : Nat) (a0 : Nat) (j1 : Int64) (j3 : Int64) (i5 : Int32) (S : zm_S) : Option (Int64 × zm_S) := if i5 = 0 then zf_X15_plus_J14 N a0 j1 j3 i5 (j1 + j3) S else zf_X15_plus_J14 N a0 j1 j3 i5 (j1 - j3) S
set_option maxHeartbeats 4000000 in
set_option maxRecDepth 100000 in
theorem zt_X15_plus {l : Launch} {V : zm_V} {N : Nat} {S : zm_S} {out : (Int64 × zm_S)} {d : Nat} {a0 : Nat} {j1 : Int64} {j3 : Int64} {i5 : Int32} (hd : 2 ≤ d) (h : zf_X15_plus N a0 j1 j3 i5 S = some out) : zm_Met l zk_E V yX15_plus (.code yX15_plus cX15_plus 9 (some .long)) d [.ref a0, .long j1, .long j3, .int i5] S 0 0 (zo_l out) zo_x := by
  refine zm_of (by decide +kernel) (Nat.le_of_ble_eq_true rfl) ?_
  intro p e R s m args below meth c hRR hX hr hxt
  have hR : R.frames = d ∧ R.locals = 64 * d := by rw [hRR]; exact ⟨rfl, rfl⟩
  have hX : zm_X p R s m args meth c RX15 "plus" cX15_plus 9 zk_E V 0 0 := hX
  unfold zf_X15_plus at h
  refine zw_sub (lv' := [(0, .ref a0), (1, .long j1), (3, .long j3), (5, .int i5)]) (List.forall_mem_cons.mpr ⟨rfl, (List.forall_mem_cons.mpr ⟨rfl, (List.forall_mem_cons.mpr ⟨rfl, (List.forall_mem_cons.mpr ⟨rfl, zs_nil⟩)⟩)⟩)⟩) ?_
  refine zw_iload hX dX15_plus_0 rfl ?_
  refine zw_if_eq (tgt := 11) hX dX15_plus_2 (by decide) (fun c2 => ?_) (fun c2 => ?_)
  · rw [if_pos c2] at h
    refine zw_lload_n hX dX15_plus_11 rfl ?_
    refine zw_lload_n hX dX15_plus_12 rfl ?_
    refine zw_ladd hX dX15_plus_13 ?_
    refine zw_sub (lv' := [(0, .ref a0), (1, .long j1), (3, .long j3), (5, .int i5)]) (List.forall_mem_cons.mpr ⟨rfl, (List.forall_mem_cons.mpr ⟨rfl, (List.forall_mem_cons.mpr ⟨rfl, (List.forall_mem_cons.mpr ⟨rfl, zs_nil⟩)⟩)⟩)⟩) ?_
    exact zt_X15_plus_J14 hX hr hR hd h
  · rw [if_neg c2] at h
    refine zw_lload_n hX dX15_plus_5 rfl ?_
    refine zw_lload_n hX dX15_plus_6 rfl ?_
    refine zw_lsub hX dX15_plus_7 ?_
    refine zw_goto (tgt := 14) hX dX15_plus_8 (by decide) ?_
    refine zw_sub (lv' := [(0, .ref a0), (1, .long j1), (3, .long j3), (5, .int i5)]) (List.forall_mem_cons.mpr ⟨rfl, (List.forall_mem_cons.mpr ⟨rfl, (List.forall_mem_cons.mpr ⟨rfl, (List.forall_mem_cons.mpr ⟨rfl, zs_nil⟩)⟩)⟩)⟩) ?_
    exact zt_X15_plus_J14 hX hr hR hd h
def zf_X15_push_L6 (N : Nat) : Nat → Nat → Int64 → Int64 → Int64 → Int64 → zm_S → Option ((Unit × zm_S) ⊕ ((Int64) × zm_S))
  | 0, _, _, _, _, _, _ => none
  | n + 1, a0, j1, j3, j5, j7, S => if (lg_cmp j7 (0 : Int64)) = 0 then some (.inr (j5, S)) else if j7 = 0 then none else zf_X15_push_L6 N n a0 j1 j3 j7 (j5 - j5 / j7 * j7) S
set_option maxHeartbeats 4000000 in
set_option maxRecDepth 100000 in
theorem zt_X15_push_L6 {p : Program} {l : Launch} {e : Env} {R : Room} {s : State} {m : MethodId} {args : Array Value} {below : List Frame} {meth : Method} {c : Code} {V : zm_V} {mc ms d rc rs : Nat} (hX : zm_X p R s m args meth c RX15 "push" cX15_push 11 zk_E V mc ms) (hr : meth.sig.returnType = none) (hR : R.frames = d ∧ R.locals = 64 * d) (hd : 2 ≤ d) {N : Nat} {res : (Unit × zm_S) ⊕ ((Int64) × zm_S)} {out : (Unit × zm_S)} (a0 : Nat) (j1 : Int64) (j3 : Int64) (hf : ∀ o, res = .inl o → o = out) (hk : ∀ (x5 : Int64) (S' : zm_S), res = .inr (x5, S') → zw p l e R s m args below meth c (vx_MQ below (zm_Qc zk_E V (zo_v out)) (zm_XC zk_E V zo_x) args s mc ms (fun q => V.2.2.2.1 ≤ q)) 11 zk_E V mc ms 31 [(0, .ref a0), (1, .long j1), (3, .long j3), (5, .long x5)] [] S' rc rs) : ∀ (n : Nat) (j5 : Int64) (j7 : Int64) (S : zm_S), zf_X15_push_L6 N n a0 j1 j3 j5 j7 S = some res → zw p l e R s m args below meth c (vx_MQ below (zm_Qc zk_E V (zo_v out)) (zm_XC zk_E V zo_x) args s mc ms (fun q => V.2.2.2.1 ≤ q)) 11 zk_E V mc ms 6 [(0, .ref a0), (1, .long j1), (3, .long j3), (5, .long j5), (7, .long j7)] [] S rc rs := by
  intro n
  induction n with
  | zero => intro j5 j7 S h; cases h
  | succ n ih =>
    intro j5 j7 S h
    rw [zf_X15_push_L6] at h
    refine zw_lload hX dX15_push_6 rfl ?_
    refine zw_lconst (v := (0 : Int64)) hX dX15_push_8 (by decide) ?_
    refine zw_lcmp hX dX15_push_9 ?_
    refine zw_if_eq (tgt := 31) hX dX15_push_10 (by decide) (fun c10 => ?_) (fun c10 => ?_)
    · rw [if_pos c10] at h
      refine zw_sub (lv' := [(0, .ref a0), (1, .long j1), (3, .long j3), (5, .long j5)]) (List.forall_mem_cons.mpr ⟨rfl, (List.forall_mem_cons.mpr ⟨rfl, (List.forall_mem_cons.mpr ⟨rfl, (List.forall_mem_cons.mpr ⟨rfl, zs_nil⟩)⟩)⟩)⟩) ?_
      exact hk _ _ (Option.some.inj h).symm
    · rw [if_neg c10] at h
      refine zw_lload hX dX15_push_13 rfl ?_
      refine zw_lload hX dX15_push_15 rfl ?_
      by_cases c0 : j7 = 0
      · rw [if_pos c0] at h
        cases h
      rw [if_neg c0] at h
      refine zw_lrem hX dX15_push_17 c0 ?_
      refine zw_lstore hX dX15_push_18 (by decide) ?_
      refine zw_lload hX dX15_push_20 rfl ?_
      refine zw_lstore hX dX15_push_22 (by decide) ?_
      refine zw_lload hX dX15_push_24 rfl ?_
      refine zw_lstore hX dX15_push_26 (by decide) ?_
      refine zw_goto (tgt := 6) hX dX15_push_28 (by decide) ?_
      refine zw_sub (lv' := [(0, .ref a0), (1, .long j1), (3, .long j3), (5, .long j7), (7, .long (j5 - j5 / j7 * j7))]) (List.forall_mem_cons.mpr ⟨rfl, (List.forall_mem_cons.mpr ⟨rfl, (List.forall_mem_cons.mpr ⟨rfl, (List.forall_mem_cons.mpr ⟨rfl, (List.forall_mem_cons.mpr ⟨rfl, zs_nil⟩)⟩)⟩)⟩)⟩) ?_
      exact ih _ _ _ h
def zf_X15_push_J171 (N : Nat) (a0 : Nat) (S : zm_S) : Option (Unit × zm_S) := (zg_i S a0 15 39).bind (fun v3 => (zp S a0 15 39 (.int (v3 + (1 : Int32)))).bind (fun S4 => some ((), S4)))
set_option maxHeartbeats 4000000 in
set_option maxRecDepth 100000 in
theorem zt_X15_push_J171 {p : Program} {l : Launch} {e : Env} {R : Room} {s : State} {m : MethodId} {args : Array Value} {below : List Frame} {meth : Method} {c : Code} {V : zm_V} {mc ms d rc rs : Nat} (hX : zm_X p R s m args meth c RX15 "push" cX15_push 11 zk_E V mc ms) (hr : meth.sig.returnType = none) (hR : R.frames = d ∧ R.locals = 64 * d) (hd : 2 ≤ d) {N : Nat} {a0 : Nat} {out : (Unit × zm_S)} {S : zm_S} (h : zf_X15_push_J171 N a0 S = some out) : zw p l e R s m args below meth c (vx_MQ below (zm_Qc zk_E V (zo_v out)) (zm_XC zk_E V zo_x) args s mc ms (fun q => V.2.2.2.1 ≤ q)) 11 zk_E V mc ms 171 [(0, .ref a0)] [] S rc rs := by
  unfold zf_X15_push_J171 at h
  refine zw_aload_n hX dX15_push_171 rfl ?_
  refine zw_dup hX dX15_push_172 rfl ?_
  obtain ⟨v3, g, h⟩ := zb_some h
  refine zw_geti hX zl_X15_207 dX15_push_173 g ?_
  refine zw_iconst (v := (1 : Int32)) hX dX15_push_176 (by decide) ?_
  refine zw_iadd hX dX15_push_177 ?_
  obtain ⟨S4, g, h⟩ := zb_some h
  refine zw_putv hX zl_X15_207 zt_15_39 dX15_push_178 rfl rfl g ?_
  obtain rfl := Option.some.inj h
  exact zw_vret hX hr dX15_push_181 ⟨rfl, rfl⟩
def zf_X15_push_J133 (N : Nat) (a0 : Nat) (S : zm_S) : Option (Unit × zm_S) := (zg_r S a0 15 37).bind (fun b20 => (zg_i S a0 15 39).bind (fun v21 => (zg_r S a0 15 37).bind (fun b22 => (zg_i S a0 15 39).bind (fun v23 => (za_l S b22 v23).bind (fun w24 => (zs_l S b20 v21 (-w24)).bind (fun S25 => (zg_r S25 a0 15 38).bind (fun b26 => (zg_i S25 a0 15 39).bind (fun v27 => (zg_r S25 a0 15 38).bind (fun b28 => (zg_i S25 a0 15 39).bind (fun v29 => (za_l S25 b28 v29).bind (fun w30 => (zs_l S25 b26 v27 (-w30)).bind (fun S31 => zf_X15_push_J171 N a0 S31))))))))))))
set_option maxHeartbeats 4000000 in
set_option maxRecDepth 100000 in
theorem zt_X15_push_J133 {p : Program} {l : Launch} {e : Env} {R : Room} {s : State} {m : MethodId} {args : Array Value} {below : List Frame} {meth : Method} {c : Code} {V : zm_V} {mc ms d rc rs : Nat} (hX : zm_X p R s m args meth c RX15 "push" cX15_push 11 zk_E V mc ms) (hr : meth.sig.returnType = none) (hR : R.frames = d ∧ R.locals = 64 * d) (hd : 2 ≤ d) {N : Nat} {a0 : Nat} {out : (Unit × zm_S)} {S : zm_S} (h : zf_X15_push_J133 N a0 S = some out) : zw p l e R s m args below meth c (vx_MQ below (zm_Qc zk_E V (zo_v out)) (zm_XC zk_E V zo_x) args s mc ms (fun q => V.2.2.2.1 ≤ q)) 11 zk_E V mc ms 133 [(0, .ref a0)] [] S rc rs := by
  unfold zf_X15_push_J133 at h
  refine zw_aload_n hX dX15_push_133 rfl ?_
  obtain ⟨b20, g, h⟩ := zb_some h
  refine zw_getr hX zl_X15_78 dX15_push_134 g ?_
  refine zw_aload_n hX dX15_push_137 rfl ?_
  obtain ⟨v21, g, h⟩ := zb_some h
  refine zw_geti hX zl_X15_207 dX15_push_138 g ?_
  refine zw_aload_n hX dX15_push_141 rfl ?_
  obtain ⟨b22, g, h⟩ := zb_some h
  refine zw_getr hX zl_X15_78 dX15_push_142 g ?_
  refine zw_aload_n hX dX15_push_145 rfl ?_
  obtain ⟨v23, g, h⟩ := zb_some h
  refine zw_geti hX zl_X15_207 dX15_push_146 g ?_
  obtain ⟨w24, g, h⟩ := zb_some h
  refine zw_xl hX dX15_push_149 g ?_
  refine zw_lneg hX dX15_push_150 ?_
  obtain ⟨S25, g, h⟩ := zb_some h
  refine zw_sl hX dX15_push_151 g ?_
  refine zw_aload_n hX dX15_push_152 rfl ?_
  obtain ⟨b26, g, h⟩ := zb_some h
  refine zw_getr hX zl_X15_81 dX15_push_153 g ?_
  refine zw_aload_n hX dX15_push_156 rfl ?_
  obtain ⟨v27, g, h⟩ := zb_some h
  refine zw_geti hX zl_X15_207 dX15_push_157 g ?_
  refine zw_aload_n hX dX15_push_160 rfl ?_
  obtain ⟨b28, g, h⟩ := zb_some h
  refine zw_getr hX zl_X15_81 dX15_push_161 g ?_
  refine zw_aload_n hX dX15_push_164 rfl ?_
  obtain ⟨v29, g, h⟩ := zb_some h
  refine zw_geti hX zl_X15_207 dX15_push_165 g ?_
  obtain ⟨w30, g, h⟩ := zb_some h
  refine zw_xl hX dX15_push_168 g ?_
  refine zw_lneg hX dX15_push_169 ?_
  obtain ⟨S31, g, h⟩ := zb_some h
  refine zw_sl hX dX15_push_170 g ?_
  refine zw_sub (lv' := [(0, .ref a0)]) (List.forall_mem_cons.mpr ⟨rfl, zs_nil⟩) ?_
  exact zt_X15_push_J171 hX hr hR hd h
def zf_X15_push_J127 (N : Nat) (a0 : Nat) (S : zm_S) : Option (Unit × zm_S) := (zi S a0 15).bind (fun _ => (zf_X15_opens N a0 (2 : Int32) (0 : Int64) S).bind (fun r19 => zf_X15_push_J133 N a0 r19.2))
set_option maxHeartbeats 4000000 in
set_option maxRecDepth 100000 in
theorem zt_X15_push_J127 {p : Program} {l : Launch} {e : Env} {R : Room} {s : State} {m : MethodId} {args : Array Value} {below : List Frame} {meth : Method} {c : Code} {V : zm_V} {mc ms d rc rs : Nat} (hX : zm_X p R s m args meth c RX15 "push" cX15_push 11 zk_E V mc ms) (hr : meth.sig.returnType = none) (hR : R.frames = d ∧ R.locals = 64 * d) (hd : 2 ≤ d) {N : Nat} {a0 : Nat} {out : (Unit × zm_S)} {S : zm_S} (h : zf_X15_push_J127 N a0 S = some out) : zw p l e R s m args below meth c (vx_MQ below (zm_Qc zk_E V (zo_v out)) (zm_XC zk_E V zo_x) args s mc ms (fun q => V.2.2.2.1 ≤ q)) 11 zk_E V mc ms 127 [(0, .ref a0)] [] S rc rs := by
  unfold zf_X15_push_J127 at h
  refine zw_aload_n hX dX15_push_127 rfl ?_
  refine zw_iconst (v := (2 : Int32)) hX dX15_push_128 (by decide) ?_
  refine zw_lconst (v := (0 : Int64)) hX dX15_push_129 (by decide) ?_
  obtain ⟨_, gi, h⟩ := zb_some h
  obtain ⟨r19, g, h⟩ := zb_some h
  refine zc_Vv (as := [.int (2 : Int32), .long (0 : Int64)]) hX gi (zt_X15_opens (d := d - 1) (by omega) g) zl_X15_204 rfl dX15_push_130 ⟨rfl, rfl, Nat.le_of_ble_eq_true rfl⟩ ⟨by omega, by omega⟩ ?_
  refine zw_sub (lv' := [(0, .ref a0)]) (List.forall_mem_cons.mpr ⟨rfl, zs_nil⟩) ?_
  exact zt_X15_push_J133 hX hr hR hd h
def zf_X15_push_J46 (N : Nat) (a0 : Nat) (j1 : Int64) (j3 : Int64) (t0 : Int64) (S : zm_S) : Option (Unit × zm_S) := if (lg_cmp t0 (0 : Int64)) = 0 then zf_X15_push_J171 N a0 S else (zg_r S a0 15 37).bind (fun b5 => (zg_i S a0 15 39).bind (fun v6 => if t0 = 0 then none else (zs_l S b5 v6 (j1 / t0)).bind (fun S7 => (zg_r S7 a0 15 38).bind (fun b8 => (zg_i S7 a0 15 39).bind (fun v9 => if t0 = 0 then none else (zs_l S7 b8 v9 (j3 / t0)).bind (fun S10 => (zg_r S10 a0 15 38).bind (fun b11 => (zg_i S10 a0 15 39).bind (fun v12 => (za_l S10 b11 v12).bind (fun w13 => if 0 ≤ (lg_cmp w13 (0 : Int64)) then zf_X15_push_J171 N a0 S10 else (zg_r S10 a0 15 37).bind (fun b14 => (zg_i S10 a0 15 39).bind (fun v15 => (za_l S10 b14 v15).bind (fun w16 => if (lg_cmp w16 (-9223372036854775808 : Int64)) = 0 then zf_X15_push_J127 N a0 S10 else (zg_r S10 a0 15 38).bind (fun b32 => (zg_i S10 a0 15 39).bind (fun v33 => (za_l S10 b32 v33).bind (fun w34 => if (lg_cmp w34 (-9223372036854775808 : Int64)) = 0 then zf_X15_push_J127 N a0 S10 else zf_X15_push_J133 N a0 S10)))))))))))))))
set_option maxHeartbeats 4000000 in
set_option maxRecDepth 100000 in
theorem zt_X15_push_J46 {p : Program} {l : Launch} {e : Env} {R : Room} {s : State} {m : MethodId} {args : Array Value} {below : List Frame} {meth : Method} {c : Code} {V : zm_V} {mc ms d rc rs : Nat} (hX : zm_X p R s m args meth c RX15 "push" cX15_push 11 zk_E V mc ms) (hr : meth.sig.returnType = none) (hR : R.frames = d ∧ R.locals = 64 * d) (hd : 2 ≤ d) {N : Nat} {a0 : Nat} {j1 : Int64} {j3 : Int64} {t0 : Int64} {out : (Unit × zm_S)} {S : zm_S} (h : zf_X15_push_J46 N a0 j1 j3 t0 S = some out) : zw p l e R s m args below meth c (vx_MQ below (zm_Qc zk_E V (zo_v out)) (zm_XC zk_E V zo_x) args s mc ms (fun q => V.2.2.2.1 ≤ q)) 11 zk_E V mc ms 46 [(0, .ref a0), (1, .long j1), (3, .long j3)] [.long t0] S rc rs := by
  unfold zf_X15_push_J46 at h
  refine zw_lstore hX dX15_push_46 (by decide) ?_
  refine zw_lload hX dX15_push_48 rfl ?_
  refine zw_lconst (v := (0 : Int64)) hX dX15_push_50 (by decide) ?_
  refine zw_lcmp hX dX15_push_51 ?_
  refine zw_if_eq (tgt := 171) hX dX15_push_52 (by decide) (fun c52 => ?_) (fun c52 => ?_)
  · rw [if_pos c52] at h
    refine zw_sub (lv' := [(0, .ref a0)]) (List.forall_mem_cons.mpr ⟨rfl, zs_nil⟩) ?_
    exact zt_X15_push_J171 hX hr hR hd h
  · rw [if_neg c52] at h
    refine zw_aload_n hX dX15_push_55 rfl ?_
    obtain ⟨b5, g, h⟩ := zb_some h
    refine zw_getr hX zl_X15_78 dX15_push_56 g ?_
    refine zw_aload_n hX dX15_push_59 rfl ?_
    obtain ⟨v6, g, h⟩ := zb_some h
    refine zw_geti hX zl_X15_207 dX15_push_60 g ?_
    refine zw_lload_n hX dX15_push_63 rfl ?_
    refine zw_lload hX dX15_push_64 rfl ?_
    by_cases c0 : t0 = 0
    · rw [if_pos c0] at h
      cases h
    rw [if_neg c0] at h
    refine zw_ldiv hX dX15_push_66 c0 ?_
    obtain ⟨S7, g, h⟩ := zb_some h
    refine zw_sl hX dX15_push_67 g ?_
    refine zw_aload_n hX dX15_push_68 rfl ?_
    obtain ⟨b8, g, h⟩ := zb_some h
    refine zw_getr hX zl_X15_81 dX15_push_69 g ?_
    refine zw_aload_n hX dX15_push_72 rfl ?_
    obtain ⟨v9, g, h⟩ := zb_some h
    refine zw_geti hX zl_X15_207 dX15_push_73 g ?_
    refine zw_lload_n hX dX15_push_76 rfl ?_
    refine zw_lload hX dX15_push_77 rfl ?_
    by_cases c0 : t0 = 0
    · rw [if_pos c0] at h
      cases h
    rw [if_neg c0] at h
    refine zw_ldiv hX dX15_push_79 c0 ?_
    obtain ⟨S10, g, h⟩ := zb_some h
    refine zw_sl hX dX15_push_80 g ?_
    refine zw_aload_n hX dX15_push_81 rfl ?_
    obtain ⟨b11, g, h⟩ := zb_some h
    refine zw_getr hX zl_X15_81 dX15_push_82 g ?_
    refine zw_aload_n hX dX15_push_85 rfl ?_
    obtain ⟨v12, g, h⟩ := zb_some h
    refine zw_geti hX zl_X15_207 dX15_push_86 g ?_
    obtain ⟨w13, g, h⟩ := zb_some h
    refine zw_xl hX dX15_push_89 g ?_
    refine zw_lconst (v := (0 : Int64)) hX dX15_push_90 (by decide) ?_
    refine zw_lcmp hX dX15_push_91 ?_
    refine zw_if_ge (tgt := 171) hX dX15_push_92 (by decide) (fun c92 => ?_) (fun c92 => ?_)
    · rw [if_pos c92] at h
      refine zw_sub (lv' := [(0, .ref a0)]) (List.forall_mem_cons.mpr ⟨rfl, zs_nil⟩) ?_
      exact zt_X15_push_J171 hX hr hR hd h
    · rw [if_neg c92] at h
      refine zw_aload_n hX dX15_push_95 rfl ?_
      obtain ⟨b14, g, h⟩ := zb_some h
      refine zw_getr hX zl_X15_78 dX15_push_96 g ?_
      refine zw_aload_n hX dX15_push_99 rfl ?_
      obtain ⟨v15, g, h⟩ := zb_some h
      refine zw_geti hX zl_X15_207 dX15_push_100 g ?_
      obtain ⟨w16, g, h⟩ := zb_some h
      refine zw_xl hX dX15_push_103 g ?_
      refine zw_ldc2 (v := (-9223372036854775808 : Int64)) hX dX15_push_104 zl_X15_210 ?_
      refine zw_lcmp hX dX15_push_107 ?_
      refine zw_if_eq (tgt := 127) hX dX15_push_108 (by decide) (fun c108 => ?_) (fun c108 => ?_)
      · rw [if_pos c108] at h
        refine zw_sub (lv' := [(0, .ref a0)]) (List.forall_mem_cons.mpr ⟨rfl, zs_nil⟩) ?_
        exact zt_X15_push_J127 hX hr hR hd h
      · rw [if_neg c108] at h
        refine zw_aload_n hX dX15_push_111 rfl ?_
        obtain ⟨b32, g, h⟩ := zb_some h
        refine zw_getr hX zl_X15_81 dX15_push_112 g ?_
        refine zw_aload_n hX dX15_push_115 rfl ?_
        obtain ⟨v33, g, h⟩ := zb_some h
        refine zw_geti hX zl_X15_207 dX15_push_116 g ?_
        obtain ⟨w34, g, h⟩ := zb_some h
        refine zw_xl hX dX15_push_119 g ?_
        refine zw_ldc2 (v := (-9223372036854775808 : Int64)) hX dX15_push_120 zl_X15_210 ?_
        refine zw_lcmp hX dX15_push_123 ?_
        refine zw_if_ne (tgt := 133) hX dX15_push_124 (by decide) (fun c124 => ?_) (fun c124 => ?_)
        · rw [if_neg c124] at h
          refine zw_sub (lv' := [(0, .ref a0)]) (List.forall_mem_cons.mpr ⟨rfl, zs_nil⟩) ?_
          exact zt_X15_push_J133 hX hr hR hd h
        · rw [if_pos c124] at h
          refine zw_sub (lv' := [(0, .ref a0)]) (List.forall_mem_cons.mpr ⟨rfl, zs_nil⟩) ?_
          exact zt_X15_push_J127 hX hr hR hd h
def zf_X15_push (N : Nat) (a0 : Nat) (j1 : Int64) (j3 : Int64) (S : zm_S) : Option (Unit × zm_S) := (zf_X15_push_L6 N N a0 j1 j3 j1 j3 S).bind (fun r => match r with | .inl o => some o | .inr (w2, S1) => if 0 ≤ (lg_cmp w2 (0 : Int64)) then zf_X15_push_J46 N a0 j1 j3 w2 S1 else zf_X15_push_J46 N a0 j1 j3 (-w2) S1)
set_option maxHeartbeats 4000000 in
set_option maxRecDepth 100000 in
theorem zt_X15_push {l : Launch} {V : zm_V} {N : Nat} {S : zm_S} {out : (Unit × zm_S)} {d : Nat} {a0 : Nat} {j1 : Int64} {j3 : Int64} (hd : 2 ≤ d) (h : zf_X15_push N a0 j1 j3 S = some out) : zm_Met l zk_E V yX15_push (.code yX15_push cX15_push 11 none) d [.ref a0, .long j1, .long j3] S 0 0 (zo_v out) zo_x := by
  refine zm_of (by decide +kernel) (Nat.le_of_ble_eq_true rfl) ?_
  intro p e R s m args below meth c hRR hX hr hxt
  have hR : R.frames = d ∧ R.locals = 64 * d := by rw [hRR]; exact ⟨rfl, rfl⟩
  have hX : zm_X p R s m args meth c RX15 "push" cX15_push 11 zk_E V 0 0 := hX
  unfold zf_X15_push at h
  refine zw_sub (lv' := [(0, .ref a0), (1, .long j1), (3, .long j3)]) (List.forall_mem_cons.mpr ⟨rfl, (List.forall_mem_cons.mpr ⟨rfl, (List.forall_mem_cons.mpr ⟨rfl, zs_nil⟩)⟩)⟩) ?_
  refine zw_lload_n hX dX15_push_0 rfl ?_
  refine zw_lstore hX dX15_push_1 (by decide) ?_
  refine zw_lload_n hX dX15_push_3 rfl ?_
  refine zw_lstore hX dX15_push_4 (by decide) ?_
  obtain ⟨r, g, h⟩ := zb_some h
  refine zw_sub (lv' := [(0, .ref a0), (1, .long j1), (3, .long j3), (5, .long j1), (7, .long j3)]) (List.forall_mem_cons.mpr ⟨rfl, (List.forall_mem_cons.mpr ⟨rfl, (List.forall_mem_cons.mpr ⟨rfl, (List.forall_mem_cons.mpr ⟨rfl, (List.forall_mem_cons.mpr ⟨rfl, zs_nil⟩)⟩)⟩)⟩)⟩) ?_
  refine zt_X15_push_L6 hX hr hR hd (res := r) (out := out) a0 j1 j3 ?_ ?_ N _ _ _ g
  · intro o ho
    subst ho
    exact Option.some.inj h
  · intro w2 S1 hx
    subst hx
    try dsimp only at h
    refine zw_lload hX dX15_push_31 rfl ?_
    refine zw_lconst (v := (0 : Int64)) hX dX15_push_33 (by decide) ?_
    refine zw_lcmp hX dX15_push_34 ?_
    refine zw_if_ge (tgt := 44) hX dX15_push_35 (by decide) (fun c35 => ?_) (fun c35 => ?_)
    · rw [if_pos c35] at h
      refine zw_lload hX dX15_push_44 rfl ?_
      refine zw_sub (lv' := [(0, .ref a0), (1, .long j1), (3, .long j3)]) (List.forall_mem_cons.mpr ⟨rfl, (List.forall_mem_cons.mpr ⟨rfl, (List.forall_mem_cons.mpr ⟨rfl, zs_nil⟩)⟩)⟩) ?_
      exact zt_X15_push_J46 hX hr hR hd h
    · rw [if_neg c35] at h
      refine zw_lload hX dX15_push_38 rfl ?_
      refine zw_lneg hX dX15_push_40 ?_
      refine zw_goto (tgt := 46) hX dX15_push_41 (by decide) ?_
      refine zw_sub (lv' := [(0, .ref a0), (1, .long j1), (3, .long j3)]) (List.forall_mem_cons.mpr ⟨rfl, (List.forall_mem_cons.mpr ⟨rfl, (List.forall_mem_cons.mpr ⟨rfl, zs_nil⟩)⟩)⟩) ?_
      exact zt_X15_push_J46 hX hr hR hd h
def zf_X15_operate_J158 (N : Nat) (a0 : Nat) (j4 : Int64) (j8 : Int64) (t0 : Nat) (t1 : Nat) (t2 : Int64) (t3 : Int64) (t4 : Int32) (S : zm_S) : Option (Unit × zm_S) := (zi S t1 15).bind (fun _ => (zf_X15_plus N t1 t2 t3 t4 S).bind (fun r23 => (zi r23.2 a0 15).bind (fun _ => (zf_X15_times N a0 j4 j8 r23.2).bind (fun r26 => (zi r26.2 t0 15).bind (fun _ => (zf_X15_push N t0 r23.1 r26.1 r26.2).bind (fun r29 => some ((), r29.2)))))))
set_option maxHeartbeats 4000000 in
set_option maxRecDepth 100000 in
theorem zt_X15_operate_J158 {p : Program} {l : Launch} {e : Env} {R : Room} {s : State} {m : MethodId} {args : Array Value} {below : List Frame} {meth : Method} {c : Code} {V : zm_V} {mc ms d rc rs : Nat} (hX : zm_X p R s m args meth c RX15 "operate" cX15_operate 10 zk_E V mc ms) (hr : meth.sig.returnType = none) (hR : R.frames = d ∧ R.locals = 64 * d) (hd : 3 ≤ d) {N : Nat} {a0 : Nat} {j4 : Int64} {j8 : Int64} {t0 : Nat} {t1 : Nat} {t2 : Int64} {t3 : Int64} {t4 : Int32} {out : (Unit × zm_S)} {S : zm_S} (h : zf_X15_operate_J158 N a0 j4 j8 t0 t1 t2 t3 t4 S = some out) : zw p l e R s m args below meth c (vx_MQ below (zm_Qc zk_E V (zo_v out)) (zm_XC zk_E V zo_x) args s mc ms (fun q => V.2.2.2.1 ≤ q)) 10 zk_E V mc ms 158 [(0, .ref a0), (4, .long j4), (8, .long j8)] [.int t4, .long t3, .long t2, .ref t1, .ref t0] S rc rs := by
  unfold zf_X15_operate_J158 at h
  obtain ⟨_, gi, h⟩ := zb_some h
  obtain ⟨r23, g, h⟩ := zb_some h
  refine zc_Vl (as := [.long t2, .long t3, .int t4]) hX gi (zt_X15_plus (d := d - 1) (by omega) g) zl_X15_220 rfl dX15_operate_158 ⟨rfl, rfl, Nat.le_of_ble_eq_true rfl⟩ ⟨by omega, by omega⟩ ?_
  refine zw_aload_n hX dX15_operate_161 rfl ?_
  refine zw_lload hX dX15_operate_162 rfl ?_
  refine zw_lload hX dX15_operate_164 rfl ?_
  obtain ⟨_, gi, h⟩ := zb_some h
  obtain ⟨r26, g, h⟩ := zb_some h
  refine zc_Vl (as := [.long j4, .long j8]) hX gi (zt_X15_times (d := d - 1) (by omega) g) zl_X15_216 rfl dX15_operate_166 ⟨rfl, rfl, Nat.le_of_ble_eq_true rfl⟩ ⟨by omega, by omega⟩ ?_
  obtain ⟨_, gi, h⟩ := zb_some h
  obtain ⟨r29, g, h⟩ := zb_some h
  refine zc_Vv (as := [.long r23.1, .long r26.1]) hX gi (zt_X15_push (d := d - 1) (by omega) g) zl_X15_212 rfl dX15_operate_169 ⟨rfl, rfl, Nat.le_of_ble_eq_true rfl⟩ ⟨by omega, by omega⟩ ?_
  obtain rfl := Option.some.inj h
  exact zw_vret hX hr dX15_operate_172 ⟨rfl, rfl⟩
def zf_X15_operate_J122 (N : Nat) (t0 : Nat) (t1 : Int64) (t2 : Nat) (t3 : Int64) (t4 : Int64) (S : zm_S) : Option (Unit × zm_S) := (zi S t2 15).bind (fun _ => (zf_X15_times N t2 t3 t4 S).bind (fun r35 => (zi r35.2 t0 15).bind (fun _ => (zf_X15_push N t0 t1 r35.1 r35.2).bind (fun r38 => some ((), r38.2)))))
set_option maxHeartbeats 4000000 in
set_option maxRecDepth 100000 in
theorem zt_X15_operate_J122 {p : Program} {l : Launch} {e : Env} {R : Room} {s : State} {m : MethodId} {args : Array Value} {below : List Frame} {meth : Method} {c : Code} {V : zm_V} {mc ms d rc rs : Nat} (hX : zm_X p R s m args meth c RX15 "operate" cX15_operate 10 zk_E V mc ms) (hr : meth.sig.returnType = none) (hR : R.frames = d ∧ R.locals = 64 * d) (hd : 3 ≤ d) {N : Nat} {t0 : Nat} {t1 : Int64} {t2 : Nat} {t3 : Int64} {t4 : Int64} {out : (Unit × zm_S)} {S : zm_S} (h : zf_X15_operate_J122 N t0 t1 t2 t3 t4 S = some out) : zw p l e R s m args below meth c (vx_MQ below (zm_Qc zk_E V (zo_v out)) (zm_XC zk_E V zo_x) args s mc ms (fun q => V.2.2.2.1 ≤ q)) 10 zk_E V mc ms 122 [] [.long t4, .long t3, .ref t2, .long t1, .ref t0] S rc rs := by
  unfold zf_X15_operate_J122 at h
  obtain ⟨_, gi, h⟩ := zb_some h
  obtain ⟨r35, g, h⟩ := zb_some h
  refine zc_Vl (as := [.long t3, .long t4]) hX gi (zt_X15_times (d := d - 1) (by omega) g) zl_X15_216 rfl dX15_operate_122 ⟨rfl, rfl, Nat.le_of_ble_eq_true rfl⟩ ⟨by omega, by omega⟩ ?_
  obtain ⟨_, gi, h⟩ := zb_some h
  obtain ⟨r38, g, h⟩ := zb_some h
  refine zc_Vv (as := [.long t1, .long r35.1]) hX gi (zt_X15_push (d := d - 1) (by omega) g) zl_X15_212 rfl dX15_operate_125 ⟨rfl, rfl, Nat.le_of_ble_eq_true rfl⟩ ⟨by omega, by omega⟩ ?_
  refine zw_goto (tgt := 172) hX dX15_operate_128 (by decide) ?_
  obtain rfl := Option.some.inj h
  exact zw_vret hX hr dX15_operate_172 ⟨rfl, rfl⟩
def zf_X15_operate_J104 (N : Nat) (a0 : Nat) (i1 : Int32) (j4 : Int64) (j6 : Int64) (j8 : Int64) (t0 : Nat) (t1 : Nat) (t2 : Int64) (t3 : Int64) (S : zm_S) : Option (Unit × zm_S) := (zi S t1 15).bind (fun _ => (zf_X15_times N t1 t2 t3 S).bind (fun r32 => if i1 = (4 : Int32) then zf_X15_operate_J122 N t0 r32.1 a0 j4 j8 r32.2 else zf_X15_operate_J122 N t0 r32.1 a0 j4 j6 r32.2))
set_option maxHeartbeats 4000000 in
set_option maxRecDepth 100000 in
theorem zt_X15_operate_J104 {p : Program} {l : Launch} {e : Env} {R : Room} {s : State} {m : MethodId} {args : Array Value} {below : List Frame} {meth : Method} {c : Code} {V : zm_V} {mc ms d rc rs : Nat} (hX : zm_X p R s m args meth c RX15 "operate" cX15_operate 10 zk_E V mc ms) (hr : meth.sig.returnType = none) (hR : R.frames = d ∧ R.locals = 64 * d) (hd : 3 ≤ d) {N : Nat} {a0 : Nat} {i1 : Int32} {j4 : Int64} {j6 : Int64} {j8 : Int64} {t0 : Nat} {t1 : Nat} {t2 : Int64} {t3 : Int64} {out : (Unit × zm_S)} {S : zm_S} (h : zf_X15_operate_J104 N a0 i1 j4 j6 j8 t0 t1 t2 t3 S = some out) : zw p l e R s m args below meth c (vx_MQ below (zm_Qc zk_E V (zo_v out)) (zm_XC zk_E V zo_x) args s mc ms (fun q => V.2.2.2.1 ≤ q)) 10 zk_E V mc ms 104 [(0, .ref a0), (1, .int i1), (4, .long j4), (6, .long j6), (8, .long j8)] [.long t3, .long t2, .ref t1, .ref t0] S rc rs := by
  unfold zf_X15_operate_J104 at h
  obtain ⟨_, gi, h⟩ := zb_some h
  obtain ⟨r32, g, h⟩ := zb_some h
  refine zc_Vl (as := [.long t2, .long t3]) hX gi (zt_X15_times (d := d - 1) (by omega) g) zl_X15_216 rfl dX15_operate_104 ⟨rfl, rfl, Nat.le_of_ble_eq_true rfl⟩ ⟨by omega, by omega⟩ ?_
  refine zw_aload_n hX dX15_operate_107 rfl ?_
  refine zw_lload hX dX15_operate_108 rfl ?_
  refine zw_iload_n hX dX15_operate_110 rfl ?_
  refine zw_iconst (v := (4 : Int32)) hX dX15_operate_111 (by decide) ?_
  refine zw_icmp_ne (tgt := 120) hX dX15_operate_112 (by decide) (fun c112 => ?_) (fun c112 => ?_)
  · rw [if_neg c112] at h
    refine zw_lload hX dX15_operate_120 rfl ?_
    refine zw_sub (lv' := []) zs_nil ?_
    exact zt_X15_operate_J122 hX hr hR hd h
  · rw [if_pos c112] at h
    refine zw_lload hX dX15_operate_115 rfl ?_
    refine zw_goto (tgt := 122) hX dX15_operate_117 (by decide) ?_
    refine zw_sub (lv' := []) zs_nil ?_
    exact zt_X15_operate_J122 hX hr hR hd h
def zf_X15_operate_J84 (N : Nat) (a0 : Nat) (i1 : Int32) (j2 : Int64) (j4 : Int64) (j6 : Int64) (j8 : Int64) (S : zm_S) : Option (Unit × zm_S) := if i1 ≤ (3 : Int32) then (zi S a0 15).bind (fun _ => (zf_X15_times N a0 j2 j8 S).bind (fun r17 => (zi r17.2 a0 15).bind (fun _ => (zf_X15_times N a0 j6 j4 r17.2).bind (fun r20 => if i1 = (3 : Int32) then zf_X15_operate_J158 N a0 j4 j8 a0 a0 r17.1 r20.1 (1 : Int32) r20.2 else zf_X15_operate_J158 N a0 j4 j8 a0 a0 r17.1 r20.1 (0 : Int32) r20.2)))) else if i1 = (4 : Int32) then zf_X15_operate_J104 N a0 i1 j4 j6 j8 a0 a0 j2 j6 S else zf_X15_operate_J104 N a0 i1 j4 j6 j8 a0 a0 j2 j8 S
set_option maxHeartbeats 4000000 in
set_option maxRecDepth 100000 in
theorem zt_X15_operate_J84 {p : Program} {l : Launch} {e : Env} {R : Room} {s : State} {m : MethodId} {args : Array Value} {below : List Frame} {meth : Method} {c : Code} {V : zm_V} {mc ms d rc rs : Nat} (hX : zm_X p R s m args meth c RX15 "operate" cX15_operate 10 zk_E V mc ms) (hr : meth.sig.returnType = none) (hR : R.frames = d ∧ R.locals = 64 * d) (hd : 3 ≤ d) {N : Nat} {a0 : Nat} {i1 : Int32} {j2 : Int64} {j4 : Int64} {j6 : Int64} {j8 : Int64} {out : (Unit × zm_S)} {S : zm_S} (h : zf_X15_operate_J84 N a0 i1 j2 j4 j6 j8 S = some out) : zw p l e R s m args below meth c (vx_MQ below (zm_Qc zk_E V (zo_v out)) (zm_XC zk_E V zo_x) args s mc ms (fun q => V.2.2.2.1 ≤ q)) 10 zk_E V mc ms 84 [(0, .ref a0), (1, .int i1), (2, .long j2), (4, .long j4), (6, .long j6), (8, .long j8)] [] S rc rs := by
  unfold zf_X15_operate_J84 at h
  refine zw_iload_n hX dX15_operate_84 rfl ?_
  refine zw_iconst (v := (3 : Int32)) hX dX15_operate_85 (by decide) ?_
  refine zw_icmp_le (tgt := 131) hX dX15_operate_86 (by decide) (fun c86 => ?_) (fun c86 => ?_)
  · rw [if_pos c86] at h
    refine zw_aload_n hX dX15_operate_131 rfl ?_
    refine zw_aload_n hX dX15_operate_132 rfl ?_
    refine zw_aload_n hX dX15_operate_133 rfl ?_
    refine zw_lload_n hX dX15_operate_134 rfl ?_
    refine zw_lload hX dX15_operate_135 rfl ?_
    obtain ⟨_, gi, h⟩ := zb_some h
    obtain ⟨r17, g, h⟩ := zb_some h
    refine zc_Vl (as := [.long j2, .long j8]) hX gi (zt_X15_times (d := d - 1) (by omega) g) zl_X15_216 rfl dX15_operate_137 ⟨rfl, rfl, Nat.le_of_ble_eq_true rfl⟩ ⟨by omega, by omega⟩ ?_
    refine zw_aload_n hX dX15_operate_140 rfl ?_
    refine zw_lload hX dX15_operate_141 rfl ?_
    refine zw_lload hX dX15_operate_143 rfl ?_
    obtain ⟨_, gi, h⟩ := zb_some h
    obtain ⟨r20, g, h⟩ := zb_some h
    refine zc_Vl (as := [.long j6, .long j4]) hX gi (zt_X15_times (d := d - 1) (by omega) g) zl_X15_216 rfl dX15_operate_145 ⟨rfl, rfl, Nat.le_of_ble_eq_true rfl⟩ ⟨by omega, by omega⟩ ?_
    refine zw_iload_n hX dX15_operate_148 rfl ?_
    refine zw_iconst (v := (3 : Int32)) hX dX15_operate_149 (by decide) ?_
    refine zw_icmp_ne (tgt := 157) hX dX15_operate_150 (by decide) (fun c150 => ?_) (fun c150 => ?_)
    · rw [if_neg c150] at h
      refine zw_iconst (v := (0 : Int32)) hX dX15_operate_157 (by decide) ?_
      refine zw_sub (lv' := [(0, .ref a0), (4, .long j4), (8, .long j8)]) (List.forall_mem_cons.mpr ⟨rfl, (List.forall_mem_cons.mpr ⟨rfl, (List.forall_mem_cons.mpr ⟨rfl, zs_nil⟩)⟩)⟩) ?_
      exact zt_X15_operate_J158 hX hr hR hd h
    · rw [if_pos c150] at h
      refine zw_iconst (v := (1 : Int32)) hX dX15_operate_153 (by decide) ?_
      refine zw_goto (tgt := 158) hX dX15_operate_154 (by decide) ?_
      refine zw_sub (lv' := [(0, .ref a0), (4, .long j4), (8, .long j8)]) (List.forall_mem_cons.mpr ⟨rfl, (List.forall_mem_cons.mpr ⟨rfl, (List.forall_mem_cons.mpr ⟨rfl, zs_nil⟩)⟩)⟩) ?_
      exact zt_X15_operate_J158 hX hr hR hd h
  · rw [if_neg c86] at h
    refine zw_aload_n hX dX15_operate_89 rfl ?_
    refine zw_aload_n hX dX15_operate_90 rfl ?_
    refine zw_lload_n hX dX15_operate_91 rfl ?_
    refine zw_iload_n hX dX15_operate_92 rfl ?_
    refine zw_iconst (v := (4 : Int32)) hX dX15_operate_93 (by decide) ?_
    refine zw_icmp_ne (tgt := 102) hX dX15_operate_94 (by decide) (fun c94 => ?_) (fun c94 => ?_)
    · rw [if_neg c94] at h
      refine zw_lload hX dX15_operate_102 rfl ?_
      refine zw_sub (lv' := [(0, .ref a0), (1, .int i1), (4, .long j4), (6, .long j6), (8, .long j8)]) (List.forall_mem_cons.mpr ⟨rfl, (List.forall_mem_cons.mpr ⟨rfl, (List.forall_mem_cons.mpr ⟨rfl, (List.forall_mem_cons.mpr ⟨rfl, (List.forall_mem_cons.mpr ⟨rfl, zs_nil⟩)⟩)⟩)⟩)⟩) ?_
      exact zt_X15_operate_J104 hX hr hR hd h
    · rw [if_pos c94] at h
      refine zw_lload hX dX15_operate_97 rfl ?_
      refine zw_goto (tgt := 104) hX dX15_operate_99 (by decide) ?_
      refine zw_sub (lv' := [(0, .ref a0), (1, .int i1), (4, .long j4), (6, .long j6), (8, .long j8)]) (List.forall_mem_cons.mpr ⟨rfl, (List.forall_mem_cons.mpr ⟨rfl, (List.forall_mem_cons.mpr ⟨rfl, (List.forall_mem_cons.mpr ⟨rfl, (List.forall_mem_cons.mpr ⟨rfl, zs_nil⟩)⟩)⟩)⟩)⟩) ?_
      exact zt_X15_operate_J104 hX hr hR hd h
def zf_X15_operate (N : Nat) (a0 : Nat) (i1 : Int32) (S : zm_S) : Option (Unit × zm_S) := (zg_i S a0 15 39).bind (fun v1 => (zp S a0 15 39 (.int (v1 - (2 : Int32)))).bind (fun S2 => (zg_r S2 a0 15 37).bind (fun b3 => (zg_i S2 a0 15 39).bind (fun v4 => (za_l S2 b3 v4).bind (fun w5 => (zg_r S2 a0 15 38).bind (fun b6 => (zg_i S2 a0 15 39).bind (fun v7 => (za_l S2 b6 v7).bind (fun w8 => (zg_r S2 a0 15 37).bind (fun b9 => (zg_i S2 a0 15 39).bind (fun v10 => (za_l S2 b9 (v10 + (1 : Int32))).bind (fun w11 => (zg_r S2 a0 15 38).bind (fun b12 => (zg_i S2 a0 15 39).bind (fun v13 => (za_l S2 b12 (v13 + (1 : Int32))).bind (fun w14 => if i1 = (5 : Int32) then if (lg_cmp w11 (0 : Int64)) = 0 then (zi S2 a0 15).bind (fun _ => (zf_X15_opens N a0 (3 : Int32) (0 : Int64) S2).bind (fun r41 => (zi r41.2 a0 15).bind (fun _ => (zf_X15_push N a0 (0 : Int64) (1 : Int64) r41.2).bind (fun r44 => some ((), r44.2))))) else zf_X15_operate_J84 N a0 i1 w5 w8 w11 w14 S2 else zf_X15_operate_J84 N a0 i1 w5 w8 w11 w14 S2))))))))))))))
set_option maxHeartbeats 4000000 in
set_option maxRecDepth 100000 in
theorem zt_X15_operate {l : Launch} {V : zm_V} {N : Nat} {S : zm_S} {out : (Unit × zm_S)} {d : Nat} {a0 : Nat} {i1 : Int32} (hd : 3 ≤ d) (h : zf_X15_operate N a0 i1 S = some out) : zm_Met l zk_E V yX15_operate (.code yX15_operate cX15_operate 10 none) d [.ref a0, .int i1] S 0 0 (zo_v out) zo_x := by
  refine zm_of (by decide +kernel) (Nat.le_of_ble_eq_true rfl) ?_
  intro p e R s m args below meth c hRR hX hr hxt
  have hR : R.frames = d ∧ R.locals = 64 * d := by rw [hRR]; exact ⟨rfl, rfl⟩
  have hX : zm_X p R s m args meth c RX15 "operate" cX15_operate 10 zk_E V 0 0 := hX
  unfold zf_X15_operate at h
  refine zw_sub (lv' := [(0, .ref a0), (1, .int i1)]) (List.forall_mem_cons.mpr ⟨rfl, (List.forall_mem_cons.mpr ⟨rfl, zs_nil⟩)⟩) ?_
  refine zw_aload_n hX dX15_operate_0 rfl ?_
  refine zw_dup hX dX15_operate_1 rfl ?_
  obtain ⟨v1, g, h⟩ := zb_some h
  refine zw_geti hX zl_X15_207 dX15_operate_2 g ?_
  refine zw_iconst (v := (2 : Int32)) hX dX15_operate_5 (by decide) ?_
  refine zw_isub hX dX15_operate_6 ?_
  obtain ⟨S2, g, h⟩ := zb_some h
  refine zw_putv hX zl_X15_207 zt_15_39 dX15_operate_7 rfl rfl g ?_
  refine zw_aload_n hX dX15_operate_10 rfl ?_
  obtain ⟨b3, g, h⟩ := zb_some h
  refine zw_getr hX zl_X15_78 dX15_operate_11 g ?_
  refine zw_aload_n hX dX15_operate_14 rfl ?_
  obtain ⟨v4, g, h⟩ := zb_some h
  refine zw_geti hX zl_X15_207 dX15_operate_15 g ?_
  obtain ⟨w5, g, h⟩ := zb_some h
  refine zw_xl hX dX15_operate_18 g ?_
  refine zw_lstore_n hX dX15_operate_19 (by decide) ?_
  refine zw_aload_n hX dX15_operate_20 rfl ?_
  obtain ⟨b6, g, h⟩ := zb_some h
  refine zw_getr hX zl_X15_81 dX15_operate_21 g ?_
  refine zw_aload_n hX dX15_operate_24 rfl ?_
  obtain ⟨v7, g, h⟩ := zb_some h
  refine zw_geti hX zl_X15_207 dX15_operate_25 g ?_
  obtain ⟨w8, g, h⟩ := zb_some h
  refine zw_xl hX dX15_operate_28 g ?_
  refine zw_lstore hX dX15_operate_29 (by decide) ?_
  refine zw_aload_n hX dX15_operate_31 rfl ?_
  obtain ⟨b9, g, h⟩ := zb_some h
  refine zw_getr hX zl_X15_78 dX15_operate_32 g ?_
  refine zw_aload_n hX dX15_operate_35 rfl ?_
  obtain ⟨v10, g, h⟩ := zb_some h
  refine zw_geti hX zl_X15_207 dX15_operate_36 g ?_
  refine zw_iconst (v := (1 : Int32)) hX dX15_operate_39 (by decide) ?_
  refine zw_iadd hX dX15_operate_40 ?_
  obtain ⟨w11, g, h⟩ := zb_some h
  refine zw_xl hX dX15_operate_41 g ?_
  refine zw_lstore hX dX15_operate_42 (by decide) ?_
  refine zw_aload_n hX dX15_operate_44 rfl ?_
  obtain ⟨b12, g, h⟩ := zb_some h
  refine zw_getr hX zl_X15_81 dX15_operate_45 g ?_
  refine zw_aload_n hX dX15_operate_48 rfl ?_
  obtain ⟨v13, g, h⟩ := zb_some h
  refine zw_geti hX zl_X15_207 dX15_operate_49 g ?_
  refine zw_iconst (v := (1 : Int32)) hX dX15_operate_52 (by decide) ?_
  refine zw_iadd hX dX15_operate_53 ?_
  obtain ⟨w14, g, h⟩ := zb_some h
  refine zw_xl hX dX15_operate_54 g ?_
  refine zw_lstore hX dX15_operate_55 (by decide) ?_
  refine zw_iload_n hX dX15_operate_57 rfl ?_
  refine zw_iconst (v := (5 : Int32)) hX dX15_operate_58 (by decide) ?_
  refine zw_icmp_ne (tgt := 84) hX dX15_operate_59 (by decide) (fun c59 => ?_) (fun c59 => ?_)
  · rw [if_neg c59] at h
    refine zw_sub (lv' := [(0, .ref a0), (1, .int i1), (2, .long w5), (4, .long w8), (6, .long w11), (8, .long w14)]) (List.forall_mem_cons.mpr ⟨rfl, (List.forall_mem_cons.mpr ⟨rfl, (List.forall_mem_cons.mpr ⟨rfl, (List.forall_mem_cons.mpr ⟨rfl, (List.forall_mem_cons.mpr ⟨rfl, (List.forall_mem_cons.mpr ⟨rfl, zs_nil⟩)⟩)⟩)⟩)⟩)⟩) ?_
    exact zt_X15_operate_J84 hX hr hR hd h
  · rw [if_pos c59] at h
    refine zw_lload hX dX15_operate_62 rfl ?_
    refine zw_lconst (v := (0 : Int64)) hX dX15_operate_64 (by decide) ?_
    refine zw_lcmp hX dX15_operate_65 ?_
    refine zw_if_ne (tgt := 84) hX dX15_operate_66 (by decide) (fun c66 => ?_) (fun c66 => ?_)
    · rw [if_neg c66] at h
      refine zw_sub (lv' := [(0, .ref a0), (1, .int i1), (2, .long w5), (4, .long w8), (6, .long w11), (8, .long w14)]) (List.forall_mem_cons.mpr ⟨rfl, (List.forall_mem_cons.mpr ⟨rfl, (List.forall_mem_cons.mpr ⟨rfl, (List.forall_mem_cons.mpr ⟨rfl, (List.forall_mem_cons.mpr ⟨rfl, (List.forall_mem_cons.mpr ⟨rfl, zs_nil⟩)⟩)⟩)⟩)⟩)⟩) ?_
      exact zt_X15_operate_J84 hX hr hR hd h
    · rw [if_pos c66] at h
      refine zw_aload_n hX dX15_operate_69 rfl ?_
      refine zw_iconst (v := (3 : Int32)) hX dX15_operate_70 (by decide) ?_
      refine zw_lconst (v := (0 : Int64)) hX dX15_operate_71 (by decide) ?_
      obtain ⟨_, gi, h⟩ := zb_some h
      obtain ⟨r41, g, h⟩ := zb_some h
      refine zc_Vv (as := [.int (3 : Int32), .long (0 : Int64)]) hX gi (zt_X15_opens (d := d - 1) (by omega) g) zl_X15_204 rfl dX15_operate_72 ⟨rfl, rfl, Nat.le_of_ble_eq_true rfl⟩ ⟨by omega, by omega⟩ ?_
      refine zw_aload_n hX dX15_operate_75 rfl ?_
      refine zw_lconst (v := (0 : Int64)) hX dX15_operate_76 (by decide) ?_
      refine zw_lconst (v := (1 : Int64)) hX dX15_operate_77 (by decide) ?_
      obtain ⟨_, gi, h⟩ := zb_some h
      obtain ⟨r44, g, h⟩ := zb_some h
      refine zc_Vv (as := [.long (0 : Int64), .long (1 : Int64)]) hX gi (zt_X15_push (d := d - 1) (by omega) g) zl_X15_212 rfl dX15_operate_78 ⟨rfl, rfl, Nat.le_of_ble_eq_true rfl⟩ ⟨by omega, by omega⟩ ?_
      refine zw_goto (tgt := 172) hX dX15_operate_81 (by decide) ?_
      obtain rfl := Option.some.inj h
      exact zw_vret hX hr dX15_operate_172 ⟨rfl, rfl⟩
def zf_X15_reckon_L7 (N : Nat) : Nat → Nat → Int32 → Int32 → zm_S → Option ((Unit × zm_S) ⊕ ((Unit) × zm_S))
  | 0, _, _, _, _ => none
  | n + 1, a0, i2, i3, S => if i2 ≤ i3 then some (.inr ((), S)) else (zg_i S a0 15 40).bind (fun v2 => if v2 = 0 then (zg_r S a0 15 16).bind (fun b3 => (za_x S 0 b3 i3).bind (fun v4 => if v4 = 0 then (zg_r S a0 15 17).bind (fun b27 => (za_l S b27 i3).bind (fun w28 => (zi S a0 15).bind (fun _ => (zf_X15_push N a0 w28 (1 : Int64) S).bind (fun r31 => zf_X15_reckon_L7 N n a0 i2 (i3 + (1 : Int32)) r31.2)))) else (zg_r S a0 15 16).bind (fun b5 => (za_x S 0 b5 i3).bind (fun v6 => if v6 = (1 : Int32) then (zg_r S a0 15 17).bind (fun b12 => (za_l S b12 i3).bind (fun w13 => (zi S a0 15).bind (fun _ => (zf_X15_factOf N a0 w13 S).bind (fun r16 => if 0 ≤ r16.1 then (zg_r r16.2 a0 15 4).bind (fun b17 => (za_x r16.2 0 b17 r16.1).bind (fun v18 => (zi r16.2 a0 15).bind (fun _ => (zf_X15_push N a0 ((v18).toInt64) (1 : Int64) r16.2).bind (fun r21 => zf_X15_reckon_L7 N n a0 i2 (i3 + (1 : Int32)) r21.2)))) else (zg_r r16.2 a0 15 17).bind (fun b22 => (za_l r16.2 b22 i3).bind (fun w23 => (zi r16.2 a0 15).bind (fun _ => (zf_X15_opens N a0 (1 : Int32) w23 r16.2).bind (fun r26 => zf_X15_reckon_L7 N n a0 i2 (i3 + (1 : Int32)) r26.2)))))))) else (zg_r S a0 15 16).bind (fun b7 => (za_x S 0 b7 i3).bind (fun v8 => (zi S a0 15).bind (fun _ => (zf_X15_operate N a0 v8 S).bind (fun r11 => zf_X15_reckon_L7 N n a0 i2 (i3 + (1 : Int32)) r11.2)))))))) else some (.inr ((), S)))
set_option maxHeartbeats 4000000 in
set_option maxRecDepth 100000 in
theorem zt_X15_reckon_L7 {p : Program} {l : Launch} {e : Env} {R : Room} {s : State} {m : MethodId} {args : Array Value} {below : List Frame} {meth : Method} {c : Code} {V : zm_V} {mc ms d rc rs : Nat} (hX : zm_X p R s m args meth c RX15 "reckon" cX15_reckon 5 zk_E V mc ms) (hr : meth.sig.returnType = none) (hR : R.frames = d ∧ R.locals = 64 * d) (hd : 4 ≤ d) {N : Nat} {res : (Unit × zm_S) ⊕ ((Unit) × zm_S)} {out : (Unit × zm_S)} (a0 : Nat) (i2 : Int32) (hf : ∀ o, res = .inl o → o = out) (hk : ∀ (S' : zm_S), res = .inr ((), S') → zw p l e R s m args below meth c (vx_MQ below (zm_Qc zk_E V (zo_v out)) (zm_XC zk_E V zo_x) args s mc ms (fun q => V.2.2.2.1 ≤ q)) 5 zk_E V mc ms 115 [] [] S' rc rs) : ∀ (n : Nat) (i3 : Int32) (S : zm_S), zf_X15_reckon_L7 N n a0 i2 i3 S = some res → zw p l e R s m args below meth c (vx_MQ below (zm_Qc zk_E V (zo_v out)) (zm_XC zk_E V zo_x) args s mc ms (fun q => V.2.2.2.1 ≤ q)) 5 zk_E V mc ms 7 [(0, .ref a0), (2, .int i2), (3, .int i3)] [] S rc rs := by
  intro n
  induction n with
  | zero => intro i3 S h; cases h
  | succ n ih =>
    intro i3 S h
    rw [zf_X15_reckon_L7] at h
    refine zw_iload_n hX dX15_reckon_7 rfl ?_
    refine zw_iload_n hX dX15_reckon_8 rfl ?_
    refine zw_icmp_ge (tgt := 115) hX dX15_reckon_9 (by decide) (fun c9 => ?_) (fun c9 => ?_)
    · rw [if_pos c9] at h
      refine zw_sub (lv' := []) zs_nil ?_
      exact hk  _ (Option.some.inj h).symm
    · rw [if_neg c9] at h
      refine zw_aload_n hX dX15_reckon_12 rfl ?_
      obtain ⟨v2, g, h⟩ := zb_some h
      refine zw_geti hX zl_X15_198 dX15_reckon_13 g ?_
      refine zw_if_ne (tgt := 115) hX dX15_reckon_16 (by decide) (fun c16 => ?_) (fun c16 => ?_)
      · rw [if_neg c16] at h
        refine zw_sub (lv' := []) zs_nil ?_
        exact hk  _ (Option.some.inj h).symm
      · rw [if_pos c16] at h
        refine zw_aload_n hX dX15_reckon_19 rfl ?_
        obtain ⟨b3, g, h⟩ := zb_some h
        refine zw_getr hX zl_X15_44 dX15_reckon_20 g ?_
        refine zw_iload_n hX dX15_reckon_23 rfl ?_
        obtain ⟨v4, g, h⟩ := zb_some h
        refine zw_xi hX dX15_reckon_24 g ?_
        refine zw_if_ne (tgt := 42) hX dX15_reckon_25 (by decide) (fun c25 => ?_) (fun c25 => ?_)
        · rw [if_neg c25] at h
          refine zw_aload_n hX dX15_reckon_42 rfl ?_
          obtain ⟨b5, g, h⟩ := zb_some h
          refine zw_getr hX zl_X15_44 dX15_reckon_43 g ?_
          refine zw_iload_n hX dX15_reckon_46 rfl ?_
          obtain ⟨v6, g, h⟩ := zb_some h
          refine zw_xi hX dX15_reckon_47 g ?_
          refine zw_iconst (v := (1 : Int32)) hX dX15_reckon_48 (by decide) ?_
          refine zw_icmp_ne (tgt := 99) hX dX15_reckon_49 (by decide) (fun c49 => ?_) (fun c49 => ?_)
          · rw [if_neg c49] at h
            refine zw_aload_n hX dX15_reckon_99 rfl ?_
            refine zw_aload_n hX dX15_reckon_100 rfl ?_
            obtain ⟨b7, g, h⟩ := zb_some h
            refine zw_getr hX zl_X15_44 dX15_reckon_101 g ?_
            refine zw_iload_n hX dX15_reckon_104 rfl ?_
            obtain ⟨v8, g, h⟩ := zb_some h
            refine zw_xi hX dX15_reckon_105 g ?_
            obtain ⟨_, gi, h⟩ := zb_some h
            obtain ⟨r11, g, h⟩ := zb_some h
            refine zc_Vv (as := [.int v8]) hX gi (zt_X15_operate (d := d - 1) (by omega) g) zl_X15_224 rfl dX15_reckon_106 ⟨rfl, rfl, Nat.le_of_ble_eq_true rfl⟩ ⟨by omega, by omega⟩ ?_
            refine zw_iinc (v := (i3 + (1 : Int32))) hX dX15_reckon_109 rfl rfl (by decide) ?_
            refine zw_goto (tgt := 7) hX dX15_reckon_112 (by decide) ?_
            refine zw_sub (lv' := [(0, .ref a0), (2, .int i2), (3, .int (i3 + (1 : Int32)))]) (List.forall_mem_cons.mpr ⟨rfl, (List.forall_mem_cons.mpr ⟨rfl, (List.forall_mem_cons.mpr ⟨rfl, zs_nil⟩)⟩)⟩) ?_
            exact ih _ _ h
          · rw [if_pos c49] at h
            refine zw_aload_n hX dX15_reckon_52 rfl ?_
            refine zw_aload_n hX dX15_reckon_53 rfl ?_
            obtain ⟨b12, g, h⟩ := zb_some h
            refine zw_getr hX zl_X15_47 dX15_reckon_54 g ?_
            refine zw_iload_n hX dX15_reckon_57 rfl ?_
            obtain ⟨w13, g, h⟩ := zb_some h
            refine zw_xl hX dX15_reckon_58 g ?_
            obtain ⟨_, gi, h⟩ := zb_some h
            obtain ⟨r16, g, h⟩ := zb_some h
            refine zc_Vi (as := [.long w13]) hX gi (zt_X15_factOf (d := d - 1) (by omega) g) zl_X15_192 rfl dX15_reckon_59 ⟨rfl, rfl, Nat.le_of_ble_eq_true rfl⟩ ⟨by omega, by omega⟩ ?_
            refine zw_istore hX dX15_reckon_62 (by decide) ?_
            refine zw_iload hX dX15_reckon_64 rfl ?_
            refine zw_if_ge (tgt := 83) hX dX15_reckon_66 (by decide) (fun c66 => ?_) (fun c66 => ?_)
            · rw [if_pos c66] at h
              refine zw_aload_n hX dX15_reckon_83 rfl ?_
              refine zw_aload_n hX dX15_reckon_84 rfl ?_
              obtain ⟨b17, g, h⟩ := zb_some h
              refine zw_getr hX zl_X15_17 dX15_reckon_85 g ?_
              refine zw_iload hX dX15_reckon_88 rfl ?_
              obtain ⟨v18, g, h⟩ := zb_some h
              refine zw_xi hX dX15_reckon_90 g ?_
              refine zw_i2l hX dX15_reckon_91 ?_
              refine zw_lconst (v := (1 : Int64)) hX dX15_reckon_92 (by decide) ?_
              obtain ⟨_, gi, h⟩ := zb_some h
              obtain ⟨r21, g, h⟩ := zb_some h
              refine zc_Vv (as := [.long (v18).toInt64, .long (1 : Int64)]) hX gi (zt_X15_push (d := d - 1) (by omega) g) zl_X15_212 rfl dX15_reckon_93 ⟨rfl, rfl, Nat.le_of_ble_eq_true rfl⟩ ⟨by omega, by omega⟩ ?_
              refine zw_goto (tgt := 109) hX dX15_reckon_96 (by decide) ?_
              refine zw_iinc (v := (i3 + (1 : Int32))) hX dX15_reckon_109 rfl rfl (by decide) ?_
              refine zw_goto (tgt := 7) hX dX15_reckon_112 (by decide) ?_
              refine zw_sub (lv' := [(0, .ref a0), (2, .int i2), (3, .int (i3 + (1 : Int32)))]) (List.forall_mem_cons.mpr ⟨rfl, (List.forall_mem_cons.mpr ⟨rfl, (List.forall_mem_cons.mpr ⟨rfl, zs_nil⟩)⟩)⟩) ?_
              exact ih _ _ h
            · rw [if_neg c66] at h
              refine zw_aload_n hX dX15_reckon_69 rfl ?_
              refine zw_iconst (v := (1 : Int32)) hX dX15_reckon_70 (by decide) ?_
              refine zw_aload_n hX dX15_reckon_71 rfl ?_
              obtain ⟨b22, g, h⟩ := zb_some h
              refine zw_getr hX zl_X15_47 dX15_reckon_72 g ?_
              refine zw_iload_n hX dX15_reckon_75 rfl ?_
              obtain ⟨w23, g, h⟩ := zb_some h
              refine zw_xl hX dX15_reckon_76 g ?_
              obtain ⟨_, gi, h⟩ := zb_some h
              obtain ⟨r26, g, h⟩ := zb_some h
              refine zc_Vv (as := [.int (1 : Int32), .long w23]) hX gi (zt_X15_opens (d := d - 1) (by omega) g) zl_X15_204 rfl dX15_reckon_77 ⟨rfl, rfl, Nat.le_of_ble_eq_true rfl⟩ ⟨by omega, by omega⟩ ?_
              refine zw_goto (tgt := 96) hX dX15_reckon_80 (by decide) ?_
              refine zw_goto (tgt := 109) hX dX15_reckon_96 (by decide) ?_
              refine zw_iinc (v := (i3 + (1 : Int32))) hX dX15_reckon_109 rfl rfl (by decide) ?_
              refine zw_goto (tgt := 7) hX dX15_reckon_112 (by decide) ?_
              refine zw_sub (lv' := [(0, .ref a0), (2, .int i2), (3, .int (i3 + (1 : Int32)))]) (List.forall_mem_cons.mpr ⟨rfl, (List.forall_mem_cons.mpr ⟨rfl, (List.forall_mem_cons.mpr ⟨rfl, zs_nil⟩)⟩)⟩) ?_
              exact ih _ _ h
        · rw [if_pos c25] at h
          refine zw_aload_n hX dX15_reckon_28 rfl ?_
          refine zw_aload_n hX dX15_reckon_29 rfl ?_
          obtain ⟨b27, g, h⟩ := zb_some h
          refine zw_getr hX zl_X15_47 dX15_reckon_30 g ?_
          refine zw_iload_n hX dX15_reckon_33 rfl ?_
          obtain ⟨w28, g, h⟩ := zb_some h
          refine zw_xl hX dX15_reckon_34 g ?_
          refine zw_lconst (v := (1 : Int64)) hX dX15_reckon_35 (by decide) ?_
          obtain ⟨_, gi, h⟩ := zb_some h
          obtain ⟨r31, g, h⟩ := zb_some h
          refine zc_Vv (as := [.long w28, .long (1 : Int64)]) hX gi (zt_X15_push (d := d - 1) (by omega) g) zl_X15_212 rfl dX15_reckon_36 ⟨rfl, rfl, Nat.le_of_ble_eq_true rfl⟩ ⟨by omega, by omega⟩ ?_
          refine zw_goto (tgt := 109) hX dX15_reckon_39 (by decide) ?_
          refine zw_iinc (v := (i3 + (1 : Int32))) hX dX15_reckon_109 rfl rfl (by decide) ?_
          refine zw_goto (tgt := 7) hX dX15_reckon_112 (by decide) ?_
          refine zw_sub (lv' := [(0, .ref a0), (2, .int i2), (3, .int (i3 + (1 : Int32)))]) (List.forall_mem_cons.mpr ⟨rfl, (List.forall_mem_cons.mpr ⟨rfl, (List.forall_mem_cons.mpr ⟨rfl, zs_nil⟩)⟩)⟩) ?_
          exact ih _ _ h
def zf_X15_reckon (N : Nat) (a0 : Nat) (i1 : Int32) (i2 : Int32) (S : zm_S) : Option (Unit × zm_S) := (zp S a0 15 39 (.int (0 : Int32))).bind (fun S1 => (zf_X15_reckon_L7 N N a0 i2 i1 S1).bind (fun r => match r with | .inl o => some o | .inr (_, S32) => some ((), S32)))
set_option maxHeartbeats 4000000 in
set_option maxRecDepth 100000 in
theorem zt_X15_reckon {l : Launch} {V : zm_V} {N : Nat} {S : zm_S} {out : (Unit × zm_S)} {d : Nat} {a0 : Nat} {i1 : Int32} {i2 : Int32} (hd : 4 ≤ d) (h : zf_X15_reckon N a0 i1 i2 S = some out) : zm_Met l zk_E V yX15_reckon (.code yX15_reckon cX15_reckon 5 none) d [.ref a0, .int i1, .int i2] S 0 0 (zo_v out) zo_x := by
  refine zm_of (by decide +kernel) (Nat.le_of_ble_eq_true rfl) ?_
  intro p e R s m args below meth c hRR hX hr hxt
  have hR : R.frames = d ∧ R.locals = 64 * d := by rw [hRR]; exact ⟨rfl, rfl⟩
  have hX : zm_X p R s m args meth c RX15 "reckon" cX15_reckon 5 zk_E V 0 0 := hX
  unfold zf_X15_reckon at h
  refine zw_sub (lv' := [(0, .ref a0), (1, .int i1), (2, .int i2)]) (List.forall_mem_cons.mpr ⟨rfl, (List.forall_mem_cons.mpr ⟨rfl, (List.forall_mem_cons.mpr ⟨rfl, zs_nil⟩)⟩)⟩) ?_
  refine zw_aload_n hX dX15_reckon_0 rfl ?_
  refine zw_iconst (v := (0 : Int32)) hX dX15_reckon_1 (by decide) ?_
  obtain ⟨S1, g, h⟩ := zb_some h
  refine zw_putv hX zl_X15_207 zt_15_39 dX15_reckon_2 rfl rfl g ?_
  refine zw_iload_n hX dX15_reckon_5 rfl ?_
  refine zw_istore_n hX dX15_reckon_6 (by decide) ?_
  obtain ⟨r, g, h⟩ := zb_some h
  refine zw_sub (lv' := [(0, .ref a0), (2, .int i2), (3, .int i1)]) (List.forall_mem_cons.mpr ⟨rfl, (List.forall_mem_cons.mpr ⟨rfl, (List.forall_mem_cons.mpr ⟨rfl, zs_nil⟩)⟩)⟩) ?_
  refine zt_X15_reckon_L7 hX hr hR hd (res := r) (out := out) a0 i2 ?_ ?_ N _ _ g
  · intro o ho
    subst ho
    exact Option.some.inj h
  · intro  S32 hx
    subst hx
    try dsimp only at h
    obtain rfl := Option.some.inj h
    exact zw_vret hX hr dX15_reckon_115 ⟨rfl, rfl⟩
def zf_X15_holds_J122 (N : Nat) (a0 : Nat) (i1 : Int32) (S : zm_S) : Option (Int32 × zm_S) := (zg_l S a0 15 42).bind (fun w23 => (zg_r S a0 15 38).bind (fun b24 => (za_l S b24 (0 : Int32)).bind (fun w25 => (zi S a0 15).bind (fun _ => (zf_X15_times N a0 w23 w25 S).bind (fun r28 => (zg_r r28.2 a0 15 37).bind (fun b29 => (za_l r28.2 b29 (0 : Int32)).bind (fun w30 => (zg_l r28.2 a0 15 43).bind (fun w31 => (zi r28.2 a0 15).bind (fun _ => (zf_X15_times N a0 w30 w31 r28.2).bind (fun r34 => (zg_i r34.2 a0 15 40).bind (fun v35 => if v35 ≤ 0 then (zg_r r34.2 a0 15 14).bind (fun b36 => (za_x r34.2 0 b36 i1).bind (fun v37 => if v37 = 0 then if 0 ≤ (lg_cmp r28.1 r34.1) then some ((0 : Int32), r34.2) else some ((1 : Int32), r34.2) else if v37 = (1 : Int32) then if 0 < (lg_cmp r28.1 r34.1) then some ((0 : Int32), r34.2) else some ((1 : Int32), r34.2) else if v37 = (2 : Int32) then if (lg_cmp r28.1 r34.1) = 0 then some ((1 : Int32), r34.2) else some ((0 : Int32), r34.2) else if v37 = (3 : Int32) then if (lg_cmp r28.1 r34.1) < 0 then some ((0 : Int32), r34.2) else some ((1 : Int32), r34.2) else if (lg_cmp r28.1 r34.1) ≤ 0 then some ((0 : Int32), r34.2) else some ((1 : Int32), r34.2))) else some ((0 : Int32), r34.2))))))))))))
set_option maxHeartbeats 4000000 in
set_option maxRecDepth 100000 in
theorem zt_X15_holds_J122 {p : Program} {l : Launch} {e : Env} {R : Room} {s : State} {m : MethodId} {args : Array Value} {below : List Frame} {meth : Method} {c : Code} {V : zm_V} {mc ms d rc rs : Nat} (hX : zm_X p R s m args meth c RX15 "holds" cX15_holds 8 zk_E V mc ms) (hr : meth.sig.returnType = (some .boolean)) (hR : R.frames = d ∧ R.locals = 64 * d) (hd : 5 ≤ d) {N : Nat} {a0 : Nat} {i1 : Int32} {out : (Int32 × zm_S)} {S : zm_S} (h : zf_X15_holds_J122 N a0 i1 S = some out) : zw p l e R s m args below meth c (vx_MQ below (zm_Qc zk_E V (zo_i out)) (zm_XC zk_E V zo_x) args s mc ms (fun q => V.2.2.2.1 ≤ q)) 8 zk_E V mc ms 122 [(0, .ref a0), (1, .int i1)] [] S rc rs := by
  unfold zf_X15_holds_J122 at h
  refine zw_aload_n hX dX15_holds_122 rfl ?_
  refine zw_aload_n hX dX15_holds_123 rfl ?_
  obtain ⟨w23, g, h⟩ := zb_some h
  refine zw_getl hX zl_X15_231 dX15_holds_124 g ?_
  refine zw_aload_n hX dX15_holds_127 rfl ?_
  obtain ⟨b24, g, h⟩ := zb_some h
  refine zw_getr hX zl_X15_81 dX15_holds_128 g ?_
  refine zw_iconst (v := (0 : Int32)) hX dX15_holds_131 (by decide) ?_
  obtain ⟨w25, g, h⟩ := zb_some h
  refine zw_xl hX dX15_holds_132 g ?_
  obtain ⟨_, gi, h⟩ := zb_some h
  obtain ⟨r28, g, h⟩ := zb_some h
  refine zc_Vl (as := [.long w23, .long w25]) hX gi (zt_X15_times (d := d - 1) (by omega) g) zl_X15_216 rfl dX15_holds_133 ⟨rfl, rfl, Nat.le_of_ble_eq_true rfl⟩ ⟨by omega, by omega⟩ ?_
  refine zw_lstore_n hX dX15_holds_136 (by decide) ?_
  refine zw_aload_n hX dX15_holds_137 rfl ?_
  refine zw_aload_n hX dX15_holds_138 rfl ?_
  obtain ⟨b29, g, h⟩ := zb_some h
  refine zw_getr hX zl_X15_78 dX15_holds_139 g ?_
  refine zw_iconst (v := (0 : Int32)) hX dX15_holds_142 (by decide) ?_
  obtain ⟨w30, g, h⟩ := zb_some h
  refine zw_xl hX dX15_holds_143 g ?_
  refine zw_aload_n hX dX15_holds_144 rfl ?_
  obtain ⟨w31, g, h⟩ := zb_some h
  refine zw_getl hX zl_X15_234 dX15_holds_145 g ?_
  obtain ⟨_, gi, h⟩ := zb_some h
  obtain ⟨r34, g, h⟩ := zb_some h
  refine zc_Vl (as := [.long w30, .long w31]) hX gi (zt_X15_times (d := d - 1) (by omega) g) zl_X15_216 rfl dX15_holds_148 ⟨rfl, rfl, Nat.le_of_ble_eq_true rfl⟩ ⟨by omega, by omega⟩ ?_
  refine zw_lstore hX dX15_holds_151 (by decide) ?_
  refine zw_aload_n hX dX15_holds_153 rfl ?_
  obtain ⟨v35, g, h⟩ := zb_some h
  refine zw_geti hX zl_X15_198 dX15_holds_154 g ?_
  refine zw_if_le (tgt := 162) hX dX15_holds_157 (by decide) (fun c157 => ?_) (fun c157 => ?_)
  · rw [if_pos c157] at h
    refine zw_aload_n hX dX15_holds_162 rfl ?_
    obtain ⟨b36, g, h⟩ := zb_some h
    refine zw_getr hX zl_X15_41 dX15_holds_163 g ?_
    refine zw_iload_n hX dX15_holds_166 rfl ?_
    obtain ⟨v37, g, h⟩ := zb_some h
    refine zw_xi hX dX15_holds_167 g ?_
    refine zw_istore hX dX15_holds_168 (by decide) ?_
    refine zw_iload hX dX15_holds_170 rfl ?_
    refine zw_if_ne (tgt := 190) hX dX15_holds_172 (by decide) (fun c172 => ?_) (fun c172 => ?_)
    · rw [if_neg c172] at h
      refine zw_iload hX dX15_holds_190 rfl ?_
      refine zw_iconst (v := (1 : Int32)) hX dX15_holds_192 (by decide) ?_
      refine zw_icmp_ne (tgt := 211) hX dX15_holds_193 (by decide) (fun c193 => ?_) (fun c193 => ?_)
      · rw [if_neg c193] at h
        refine zw_iload hX dX15_holds_211 rfl ?_
        refine zw_iconst (v := (2 : Int32)) hX dX15_holds_213 (by decide) ?_
        refine zw_icmp_ne (tgt := 232) hX dX15_holds_214 (by decide) (fun c214 => ?_) (fun c214 => ?_)
        · rw [if_neg c214] at h
          refine zw_iload hX dX15_holds_232 rfl ?_
          refine zw_iconst (v := (3 : Int32)) hX dX15_holds_234 (by decide) ?_
          refine zw_icmp_ne (tgt := 253) hX dX15_holds_235 (by decide) (fun c235 => ?_) (fun c235 => ?_)
          · rw [if_neg c235] at h
            refine zw_lload_n hX dX15_holds_253 rfl ?_
            refine zw_lload hX dX15_holds_254 rfl ?_
            refine zw_lcmp hX dX15_holds_256 ?_
            refine zw_if_le (tgt := 264) hX dX15_holds_257 (by decide) (fun c257 => ?_) (fun c257 => ?_)
            · rw [if_pos c257] at h
              refine zw_iconst (v := (0 : Int32)) hX dX15_holds_264 (by decide) ?_
              obtain rfl := Option.some.inj h
              exact zw_iret hX hr dX15_holds_265 rfl ⟨rfl, rfl⟩
            · rw [if_neg c257] at h
              refine zw_iconst (v := (1 : Int32)) hX dX15_holds_260 (by decide) ?_
              refine zw_goto (tgt := 265) hX dX15_holds_261 (by decide) ?_
              obtain rfl := Option.some.inj h
              exact zw_iret hX hr dX15_holds_265 rfl ⟨rfl, rfl⟩
          · rw [if_pos c235] at h
            refine zw_lload_n hX dX15_holds_238 rfl ?_
            refine zw_lload hX dX15_holds_239 rfl ?_
            refine zw_lcmp hX dX15_holds_241 ?_
            refine zw_if_lt (tgt := 249) hX dX15_holds_242 (by decide) (fun c242 => ?_) (fun c242 => ?_)
            · rw [if_pos c242] at h
              refine zw_iconst (v := (0 : Int32)) hX dX15_holds_249 (by decide) ?_
              refine zw_goto (tgt := 265) hX dX15_holds_250 (by decide) ?_
              obtain rfl := Option.some.inj h
              exact zw_iret hX hr dX15_holds_265 rfl ⟨rfl, rfl⟩
            · rw [if_neg c242] at h
              refine zw_iconst (v := (1 : Int32)) hX dX15_holds_245 (by decide) ?_
              refine zw_goto (tgt := 265) hX dX15_holds_246 (by decide) ?_
              obtain rfl := Option.some.inj h
              exact zw_iret hX hr dX15_holds_265 rfl ⟨rfl, rfl⟩
        · rw [if_pos c214] at h
          refine zw_lload_n hX dX15_holds_217 rfl ?_
          refine zw_lload hX dX15_holds_218 rfl ?_
          refine zw_lcmp hX dX15_holds_220 ?_
          refine zw_if_ne (tgt := 228) hX dX15_holds_221 (by decide) (fun c221 => ?_) (fun c221 => ?_)
          · rw [if_neg c221] at h
            refine zw_iconst (v := (0 : Int32)) hX dX15_holds_228 (by decide) ?_
            refine zw_goto (tgt := 265) hX dX15_holds_229 (by decide) ?_
            obtain rfl := Option.some.inj h
            exact zw_iret hX hr dX15_holds_265 rfl ⟨rfl, rfl⟩
          · rw [if_pos c221] at h
            refine zw_iconst (v := (1 : Int32)) hX dX15_holds_224 (by decide) ?_
            refine zw_goto (tgt := 265) hX dX15_holds_225 (by decide) ?_
            obtain rfl := Option.some.inj h
            exact zw_iret hX hr dX15_holds_265 rfl ⟨rfl, rfl⟩
      · rw [if_pos c193] at h
        refine zw_lload_n hX dX15_holds_196 rfl ?_
        refine zw_lload hX dX15_holds_197 rfl ?_
        refine zw_lcmp hX dX15_holds_199 ?_
        refine zw_if_gt (tgt := 207) hX dX15_holds_200 (by decide) (fun c200 => ?_) (fun c200 => ?_)
        · rw [if_pos c200] at h
          refine zw_iconst (v := (0 : Int32)) hX dX15_holds_207 (by decide) ?_
          refine zw_goto (tgt := 265) hX dX15_holds_208 (by decide) ?_
          obtain rfl := Option.some.inj h
          exact zw_iret hX hr dX15_holds_265 rfl ⟨rfl, rfl⟩
        · rw [if_neg c200] at h
          refine zw_iconst (v := (1 : Int32)) hX dX15_holds_203 (by decide) ?_
          refine zw_goto (tgt := 265) hX dX15_holds_204 (by decide) ?_
          obtain rfl := Option.some.inj h
          exact zw_iret hX hr dX15_holds_265 rfl ⟨rfl, rfl⟩
    · rw [if_pos c172] at h
      refine zw_lload_n hX dX15_holds_175 rfl ?_
      refine zw_lload hX dX15_holds_176 rfl ?_
      refine zw_lcmp hX dX15_holds_178 ?_
      refine zw_if_ge (tgt := 186) hX dX15_holds_179 (by decide) (fun c179 => ?_) (fun c179 => ?_)
      · rw [if_pos c179] at h
        refine zw_iconst (v := (0 : Int32)) hX dX15_holds_186 (by decide) ?_
        refine zw_goto (tgt := 265) hX dX15_holds_187 (by decide) ?_
        obtain rfl := Option.some.inj h
        exact zw_iret hX hr dX15_holds_265 rfl ⟨rfl, rfl⟩
      · rw [if_neg c179] at h
        refine zw_iconst (v := (1 : Int32)) hX dX15_holds_182 (by decide) ?_
        refine zw_goto (tgt := 265) hX dX15_holds_183 (by decide) ?_
        obtain rfl := Option.some.inj h
        exact zw_iret hX hr dX15_holds_265 rfl ⟨rfl, rfl⟩
  · rw [if_neg c157] at h
    refine zw_iconst (v := (0 : Int32)) hX dX15_holds_160 (by decide) ?_
    obtain rfl := Option.some.inj h
    exact zw_iret hX hr dX15_holds_161 rfl ⟨rfl, rfl⟩
def zf_X15_holds_J69 (N : Nat) (a0 : Nat) (i1 : Int32) (i2 : Int32) (S : zm_S) : Option (Int32 × zm_S) := (zg_r S a0 15 12).bind (fun b15 => (za_x S 0 b15 i1).bind (fun v16 => (zg_r S a0 15 13).bind (fun b17 => (za_x S 0 b17 i1).bind (fun v18 => (zi S a0 15).bind (fun _ => (zf_X15_reckon N a0 v16 v18 S).bind (fun r21 => (zg_i r21.2 a0 15 40).bind (fun v22 => if v22 ≤ 0 then if i2 < 0 then zf_X15_holds_J122 N a0 i1 r21.2 else (zg_r r21.2 a0 15 22).bind (fun b38 => (zg_r r21.2 a0 15 37).bind (fun b39 => (za_l r21.2 b39 (0 : Int32)).bind (fun w40 => (zs_l r21.2 b38 i2 w40).bind (fun S41 => (zg_r S41 a0 15 23).bind (fun b42 => (zg_r S41 a0 15 38).bind (fun b43 => (za_l S41 b43 (0 : Int32)).bind (fun w44 => (zs_l S41 b42 i2 w44).bind (fun S45 => zf_X15_holds_J122 N a0 i1 S45)))))))) else some ((0 : Int32), r21.2))))))))
set_option maxHeartbeats 4000000 in
set_option maxRecDepth 100000 in
theorem zt_X15_holds_J69 {p : Program} {l : Launch} {e : Env} {R : Room} {s : State} {m : MethodId} {args : Array Value} {below : List Frame} {meth : Method} {c : Code} {V : zm_V} {mc ms d rc rs : Nat} (hX : zm_X p R s m args meth c RX15 "holds" cX15_holds 8 zk_E V mc ms) (hr : meth.sig.returnType = (some .boolean)) (hR : R.frames = d ∧ R.locals = 64 * d) (hd : 5 ≤ d) {N : Nat} {a0 : Nat} {i1 : Int32} {i2 : Int32} {out : (Int32 × zm_S)} {S : zm_S} (h : zf_X15_holds_J69 N a0 i1 i2 S = some out) : zw p l e R s m args below meth c (vx_MQ below (zm_Qc zk_E V (zo_i out)) (zm_XC zk_E V zo_x) args s mc ms (fun q => V.2.2.2.1 ≤ q)) 8 zk_E V mc ms 69 [(0, .ref a0), (1, .int i1), (2, .int i2)] [] S rc rs := by
  unfold zf_X15_holds_J69 at h
  refine zw_aload_n hX dX15_holds_69 rfl ?_
  refine zw_aload_n hX dX15_holds_70 rfl ?_
  obtain ⟨b15, g, h⟩ := zb_some h
  refine zw_getr hX zl_X15_35 dX15_holds_71 g ?_
  refine zw_iload_n hX dX15_holds_74 rfl ?_
  obtain ⟨v16, g, h⟩ := zb_some h
  refine zw_xi hX dX15_holds_75 g ?_
  refine zw_aload_n hX dX15_holds_76 rfl ?_
  obtain ⟨b17, g, h⟩ := zb_some h
  refine zw_getr hX zl_X15_38 dX15_holds_77 g ?_
  refine zw_iload_n hX dX15_holds_80 rfl ?_
  obtain ⟨v18, g, h⟩ := zb_some h
  refine zw_xi hX dX15_holds_81 g ?_
  obtain ⟨_, gi, h⟩ := zb_some h
  obtain ⟨r21, g, h⟩ := zb_some h
  refine zc_Vv (as := [.int v16, .int v18]) hX gi (zt_X15_reckon (d := d - 1) (by omega) g) zl_X15_227 rfl dX15_holds_82 ⟨rfl, rfl, Nat.le_of_ble_eq_true rfl⟩ ⟨by omega, by omega⟩ ?_
  refine zw_aload_n hX dX15_holds_85 rfl ?_
  obtain ⟨v22, g, h⟩ := zb_some h
  refine zw_geti hX zl_X15_198 dX15_holds_86 g ?_
  refine zw_if_le (tgt := 94) hX dX15_holds_89 (by decide) (fun c89 => ?_) (fun c89 => ?_)
  · rw [if_pos c89] at h
    refine zw_iload_n hX dX15_holds_94 rfl ?_
    refine zw_if_lt (tgt := 122) hX dX15_holds_95 (by decide) (fun c95 => ?_) (fun c95 => ?_)
    · rw [if_pos c95] at h
      refine zw_sub (lv' := [(0, .ref a0), (1, .int i1)]) (List.forall_mem_cons.mpr ⟨rfl, (List.forall_mem_cons.mpr ⟨rfl, zs_nil⟩)⟩) ?_
      exact zt_X15_holds_J122 hX hr hR hd h
    · rw [if_neg c95] at h
      refine zw_aload_n hX dX15_holds_98 rfl ?_
      obtain ⟨b38, g, h⟩ := zb_some h
      refine zw_getr hX zl_X15_63 dX15_holds_99 g ?_
      refine zw_iload_n hX dX15_holds_102 rfl ?_
      refine zw_aload_n hX dX15_holds_103 rfl ?_
      obtain ⟨b39, g, h⟩ := zb_some h
      refine zw_getr hX zl_X15_78 dX15_holds_104 g ?_
      refine zw_iconst (v := (0 : Int32)) hX dX15_holds_107 (by decide) ?_
      obtain ⟨w40, g, h⟩ := zb_some h
      refine zw_xl hX dX15_holds_108 g ?_
      obtain ⟨S41, g, h⟩ := zb_some h
      refine zw_sl hX dX15_holds_109 g ?_
      refine zw_aload_n hX dX15_holds_110 rfl ?_
      obtain ⟨b42, g, h⟩ := zb_some h
      refine zw_getr hX zl_X15_66 dX15_holds_111 g ?_
      refine zw_iload_n hX dX15_holds_114 rfl ?_
      refine zw_aload_n hX dX15_holds_115 rfl ?_
      obtain ⟨b43, g, h⟩ := zb_some h
      refine zw_getr hX zl_X15_81 dX15_holds_116 g ?_
      refine zw_iconst (v := (0 : Int32)) hX dX15_holds_119 (by decide) ?_
      obtain ⟨w44, g, h⟩ := zb_some h
      refine zw_xl hX dX15_holds_120 g ?_
      obtain ⟨S45, g, h⟩ := zb_some h
      refine zw_sl hX dX15_holds_121 g ?_
      refine zw_sub (lv' := [(0, .ref a0), (1, .int i1)]) (List.forall_mem_cons.mpr ⟨rfl, (List.forall_mem_cons.mpr ⟨rfl, zs_nil⟩)⟩) ?_
      exact zt_X15_holds_J122 hX hr hR hd h
  · rw [if_neg c89] at h
    refine zw_iconst (v := (0 : Int32)) hX dX15_holds_92 (by decide) ?_
    obtain rfl := Option.some.inj h
    exact zw_iret hX hr dX15_holds_93 rfl ⟨rfl, rfl⟩
def zf_X15_holds (N : Nat) (a0 : Nat) (i1 : Int32) (i2 : Int32) (S : zm_S) : Option (Int32 × zm_S) := (zg_r S a0 15 11).bind (fun b1 => (za_x S 0 b1 i1).bind (fun v2 => (zg_r S a0 15 12).bind (fun b3 => (za_x S 0 b3 i1).bind (fun v4 => (zi S a0 15).bind (fun _ => (zf_X15_reckon N a0 v2 v4 S).bind (fun r7 => (zg_i r7.2 a0 15 40).bind (fun v8 => if v8 ≤ 0 then (zg_r r7.2 a0 15 37).bind (fun b9 => (za_l r7.2 b9 (0 : Int32)).bind (fun w10 => (zp r7.2 a0 15 42 (.long w10)).bind (fun S11 => (zg_r S11 a0 15 38).bind (fun b12 => (za_l S11 b12 (0 : Int32)).bind (fun w13 => (zp S11 a0 15 43 (.long w13)).bind (fun S14 => if i2 < 0 then zf_X15_holds_J69 N a0 i1 i2 S14 else (zg_r S14 a0 15 20).bind (fun b46 => (zg_l S14 a0 15 42).bind (fun w47 => (zs_l S14 b46 i2 w47).bind (fun S48 => (zg_r S48 a0 15 21).bind (fun b49 => (zg_l S48 a0 15 43).bind (fun w50 => (zs_l S48 b49 i2 w50).bind (fun S51 => zf_X15_holds_J69 N a0 i1 i2 S51)))))))))))) else some ((0 : Int32), r7.2))))))))
set_option maxHeartbeats 4000000 in
set_option maxRecDepth 100000 in
theorem zt_X15_holds {l : Launch} {V : zm_V} {N : Nat} {S : zm_S} {out : (Int32 × zm_S)} {d : Nat} {a0 : Nat} {i1 : Int32} {i2 : Int32} (hd : 5 ≤ d) (h : zf_X15_holds N a0 i1 i2 S = some out) : zm_Met l zk_E V yX15_holds (.code yX15_holds cX15_holds 8 (some .boolean)) d [.ref a0, .int i1, .int i2] S 0 0 (zo_i out) zo_x := by
  refine zm_of (by decide +kernel) (Nat.le_of_ble_eq_true rfl) ?_
  intro p e R s m args below meth c hRR hX hr hxt
  have hR : R.frames = d ∧ R.locals = 64 * d := by rw [hRR]; exact ⟨rfl, rfl⟩
  have hX : zm_X p R s m args meth c RX15 "holds" cX15_holds 8 zk_E V 0 0 := hX
  unfold zf_X15_holds at h
  refine zw_sub (lv' := [(0, .ref a0), (1, .int i1), (2, .int i2)]) (List.forall_mem_cons.mpr ⟨rfl, (List.forall_mem_cons.mpr ⟨rfl, (List.forall_mem_cons.mpr ⟨rfl, zs_nil⟩)⟩)⟩) ?_
  refine zw_aload_n hX dX15_holds_0 rfl ?_
  refine zw_aload_n hX dX15_holds_1 rfl ?_
  obtain ⟨b1, g, h⟩ := zb_some h
  refine zw_getr hX zl_X15_32 dX15_holds_2 g ?_
  refine zw_iload_n hX dX15_holds_5 rfl ?_
  obtain ⟨v2, g, h⟩ := zb_some h
  refine zw_xi hX dX15_holds_6 g ?_
  refine zw_aload_n hX dX15_holds_7 rfl ?_
  obtain ⟨b3, g, h⟩ := zb_some h
  refine zw_getr hX zl_X15_35 dX15_holds_8 g ?_
  refine zw_iload_n hX dX15_holds_11 rfl ?_
  obtain ⟨v4, g, h⟩ := zb_some h
  refine zw_xi hX dX15_holds_12 g ?_
  obtain ⟨_, gi, h⟩ := zb_some h
  obtain ⟨r7, g, h⟩ := zb_some h
  refine zc_Vv (as := [.int v2, .int v4]) hX gi (zt_X15_reckon (d := d - 1) (by omega) g) zl_X15_227 rfl dX15_holds_13 ⟨rfl, rfl, Nat.le_of_ble_eq_true rfl⟩ ⟨by omega, by omega⟩ ?_
  refine zw_aload_n hX dX15_holds_16 rfl ?_
  obtain ⟨v8, g, h⟩ := zb_some h
  refine zw_geti hX zl_X15_198 dX15_holds_17 g ?_
  refine zw_if_le (tgt := 25) hX dX15_holds_20 (by decide) (fun c20 => ?_) (fun c20 => ?_)
  · rw [if_pos c20] at h
    refine zw_aload_n hX dX15_holds_25 rfl ?_
    refine zw_aload_n hX dX15_holds_26 rfl ?_
    obtain ⟨b9, g, h⟩ := zb_some h
    refine zw_getr hX zl_X15_78 dX15_holds_27 g ?_
    refine zw_iconst (v := (0 : Int32)) hX dX15_holds_30 (by decide) ?_
    obtain ⟨w10, g, h⟩ := zb_some h
    refine zw_xl hX dX15_holds_31 g ?_
    obtain ⟨S11, g, h⟩ := zb_some h
    refine zw_putv hX zl_X15_231 zt_15_42 dX15_holds_32 rfl rfl g ?_
    refine zw_aload_n hX dX15_holds_35 rfl ?_
    refine zw_aload_n hX dX15_holds_36 rfl ?_
    obtain ⟨b12, g, h⟩ := zb_some h
    refine zw_getr hX zl_X15_81 dX15_holds_37 g ?_
    refine zw_iconst (v := (0 : Int32)) hX dX15_holds_40 (by decide) ?_
    obtain ⟨w13, g, h⟩ := zb_some h
    refine zw_xl hX dX15_holds_41 g ?_
    obtain ⟨S14, g, h⟩ := zb_some h
    refine zw_putv hX zl_X15_234 zt_15_43 dX15_holds_42 rfl rfl g ?_
    refine zw_iload_n hX dX15_holds_45 rfl ?_
    refine zw_if_lt (tgt := 69) hX dX15_holds_46 (by decide) (fun c46 => ?_) (fun c46 => ?_)
    · rw [if_pos c46] at h
      refine zw_sub (lv' := [(0, .ref a0), (1, .int i1), (2, .int i2)]) (List.forall_mem_cons.mpr ⟨rfl, (List.forall_mem_cons.mpr ⟨rfl, (List.forall_mem_cons.mpr ⟨rfl, zs_nil⟩)⟩)⟩) ?_
      exact zt_X15_holds_J69 hX hr hR hd h
    · rw [if_neg c46] at h
      refine zw_aload_n hX dX15_holds_49 rfl ?_
      obtain ⟨b46, g, h⟩ := zb_some h
      refine zw_getr hX zl_X15_57 dX15_holds_50 g ?_
      refine zw_iload_n hX dX15_holds_53 rfl ?_
      refine zw_aload_n hX dX15_holds_54 rfl ?_
      obtain ⟨w47, g, h⟩ := zb_some h
      refine zw_getl hX zl_X15_231 dX15_holds_55 g ?_
      obtain ⟨S48, g, h⟩ := zb_some h
      refine zw_sl hX dX15_holds_58 g ?_
      refine zw_aload_n hX dX15_holds_59 rfl ?_
      obtain ⟨b49, g, h⟩ := zb_some h
      refine zw_getr hX zl_X15_60 dX15_holds_60 g ?_
      refine zw_iload_n hX dX15_holds_63 rfl ?_
      refine zw_aload_n hX dX15_holds_64 rfl ?_
      obtain ⟨w50, g, h⟩ := zb_some h
      refine zw_getl hX zl_X15_234 dX15_holds_65 g ?_
      obtain ⟨S51, g, h⟩ := zb_some h
      refine zw_sl hX dX15_holds_68 g ?_
      refine zw_sub (lv' := [(0, .ref a0), (1, .int i1), (2, .int i2)]) (List.forall_mem_cons.mpr ⟨rfl, (List.forall_mem_cons.mpr ⟨rfl, (List.forall_mem_cons.mpr ⟨rfl, zs_nil⟩)⟩)⟩) ?_
      exact zt_X15_holds_J69 hX hr hR hd h
  · rw [if_neg c20] at h
    refine zw_iconst (v := (0 : Int32)) hX dX15_holds_23 (by decide) ?_
    obtain rfl := Option.some.inj h
    exact zw_iret hX hr dX15_holds_24 rfl ⟨rfl, rfl⟩
def zf_X15_ask_L82 (N : Nat) : Nat → Nat → Int32 → Int32 → Int32 → Int32 → zm_S → Option ((Int32 × zm_S) ⊕ ((Int32) × zm_S))
  | 0, _, _, _, _, _, _ => none
  | n + 1, a0, i1, i4, i6, i7, S => (zg_r S a0 15 8).bind (fun b13 => (za_x S 0 b13 i1).bind (fun v14 => if v14 < i7 then some (.inr (i6, S)) else if i6 = 0 then some (.inr (i6, S)) else (zi S a0 15).bind (fun _ => (zf_X15_holds N a0 (i4 + i7) (-1 : Int32) S).bind (fun r17 => zf_X15_ask_L82 N n a0 i1 i4 r17.1 (i7 + (1 : Int32)) r17.2))))
set_option maxHeartbeats 4000000 in
set_option maxRecDepth 100000 in
theorem zt_X15_ask_L82 {p : Program} {l : Launch} {e : Env} {R : Room} {s : State} {m : MethodId} {args : Array Value} {below : List Frame} {meth : Method} {c : Code} {V : zm_V} {mc ms d rc rs : Nat} (hX : zm_X p R s m args meth c RX15 "ask" cX15_ask 8 zk_E V mc ms) (hr : meth.sig.returnType = (some .int)) (hR : R.frames = d ∧ R.locals = 64 * d) (hd : 6 ≤ d) {N : Nat} {res : (Int32 × zm_S) ⊕ ((Int32) × zm_S)} {out : (Int32 × zm_S)} (a0 : Nat) (i1 : Int32) (i4 : Int32) (hf : ∀ o, res = .inl o → o = out) (hk : ∀ (x6 : Int32) (S' : zm_S), res = .inr (x6, S') → zw p l e R s m args below meth c (vx_MQ below (zm_Qc zk_E V (zo_i out)) (zm_XC zk_E V zo_x) args s mc ms (fun q => V.2.2.2.1 ≤ q)) 8 zk_E V mc ms 116 [(0, .ref a0), (6, .int x6)] [] S' rc rs) : ∀ (n : Nat) (i6 : Int32) (i7 : Int32) (S : zm_S), zf_X15_ask_L82 N n a0 i1 i4 i6 i7 S = some res → zw p l e R s m args below meth c (vx_MQ below (zm_Qc zk_E V (zo_i out)) (zm_XC zk_E V zo_x) args s mc ms (fun q => V.2.2.2.1 ≤ q)) 8 zk_E V mc ms 82 [(0, .ref a0), (1, .int i1), (4, .int i4), (6, .int i6), (7, .int i7)] [] S rc rs := by
  intro n
  induction n with
  | zero => intro i6 i7 S h; cases h
  | succ n ih =>
    intro i6 i7 S h
    rw [zf_X15_ask_L82] at h
    refine zw_iload hX dX15_ask_82 rfl ?_
    refine zw_aload_n hX dX15_ask_84 rfl ?_
    obtain ⟨b13, g, h⟩ := zb_some h
    refine zw_getr hX zl_X15_26 dX15_ask_85 g ?_
    refine zw_iload_n hX dX15_ask_88 rfl ?_
    obtain ⟨v14, g, h⟩ := zb_some h
    refine zw_xi hX dX15_ask_89 g ?_
    refine zw_icmp_gt (tgt := 116) hX dX15_ask_90 (by decide) (fun c90 => ?_) (fun c90 => ?_)
    · rw [if_pos c90] at h
      refine zw_sub (lv' := [(0, .ref a0), (6, .int i6)]) (List.forall_mem_cons.mpr ⟨rfl, (List.forall_mem_cons.mpr ⟨rfl, zs_nil⟩)⟩) ?_
      exact hk _ _ (Option.some.inj h).symm
    · rw [if_neg c90] at h
      refine zw_iload hX dX15_ask_93 rfl ?_
      refine zw_if_eq (tgt := 116) hX dX15_ask_95 (by decide) (fun c95 => ?_) (fun c95 => ?_)
      · rw [if_pos c95] at h
        refine zw_sub (lv' := [(0, .ref a0), (6, .int i6)]) (List.forall_mem_cons.mpr ⟨rfl, (List.forall_mem_cons.mpr ⟨rfl, zs_nil⟩)⟩) ?_
        exact hk _ _ (Option.some.inj h).symm
      · rw [if_neg c95] at h
        refine zw_aload_n hX dX15_ask_98 rfl ?_
        refine zw_iload hX dX15_ask_99 rfl ?_
        refine zw_iload hX dX15_ask_101 rfl ?_
        refine zw_iadd hX dX15_ask_103 ?_
        refine zw_iconst (v := (-1 : Int32)) hX dX15_ask_104 (by decide) ?_
        obtain ⟨_, gi, h⟩ := zb_some h
        obtain ⟨r17, g, h⟩ := zb_some h
        refine zc_Vi (as := [.int (i4 + i7), .int (-1 : Int32)]) hX gi (zt_X15_holds (d := d - 1) (by omega) g) zl_X15_237 rfl dX15_ask_105 ⟨rfl, rfl, Nat.le_of_ble_eq_true rfl⟩ ⟨by omega, by omega⟩ ?_
        refine zw_istore hX dX15_ask_108 (by decide) ?_
        refine zw_iinc (v := (i7 + (1 : Int32))) hX dX15_ask_110 rfl rfl (by decide) ?_
        refine zw_goto (tgt := 82) hX dX15_ask_113 (by decide) ?_
        refine zw_sub (lv' := [(0, .ref a0), (1, .int i1), (4, .int i4), (6, .int r17.1), (7, .int (i7 + (1 : Int32)))]) (List.forall_mem_cons.mpr ⟨rfl, (List.forall_mem_cons.mpr ⟨rfl, (List.forall_mem_cons.mpr ⟨rfl, (List.forall_mem_cons.mpr ⟨rfl, (List.forall_mem_cons.mpr ⟨rfl, zs_nil⟩)⟩)⟩)⟩)⟩) ?_
        exact ih _ _ _ h
def zf_X15_ask_J116 (N : Nat) (a0 : Nat) (i6 : Int32) (S : zm_S) : Option (Int32 × zm_S) := (zg_i S a0 15 40).bind (fun v20 => if v20 ≤ 0 then if i6 = 0 then some ((1 : Int32), S) else some ((2 : Int32), S) else some ((3 : Int32), S))
set_option maxHeartbeats 4000000 in
set_option maxRecDepth 100000 in
theorem zt_X15_ask_J116 {p : Program} {l : Launch} {e : Env} {R : Room} {s : State} {m : MethodId} {args : Array Value} {below : List Frame} {meth : Method} {c : Code} {V : zm_V} {mc ms d rc rs : Nat} (hX : zm_X p R s m args meth c RX15 "ask" cX15_ask 8 zk_E V mc ms) (hr : meth.sig.returnType = (some .int)) (hR : R.frames = d ∧ R.locals = 64 * d) (hd : 6 ≤ d) {N : Nat} {a0 : Nat} {i6 : Int32} {out : (Int32 × zm_S)} {S : zm_S} (h : zf_X15_ask_J116 N a0 i6 S = some out) : zw p l e R s m args below meth c (vx_MQ below (zm_Qc zk_E V (zo_i out)) (zm_XC zk_E V zo_x) args s mc ms (fun q => V.2.2.2.1 ≤ q)) 8 zk_E V mc ms 116 [(0, .ref a0), (6, .int i6)] [] S rc rs := by
  unfold zf_X15_ask_J116 at h
  refine zw_aload_n hX dX15_ask_116 rfl ?_
  obtain ⟨v20, g, h⟩ := zb_some h
  refine zw_geti hX zl_X15_198 dX15_ask_117 g ?_
  refine zw_if_le (tgt := 127) hX dX15_ask_120 (by decide) (fun c120 => ?_) (fun c120 => ?_)
  · rw [if_pos c120] at h
    refine zw_iload hX dX15_ask_127 rfl ?_
    refine zw_if_eq (tgt := 136) hX dX15_ask_129 (by decide) (fun c129 => ?_) (fun c129 => ?_)
    · rw [if_pos c129] at h
      refine zw_iconst (v := (1 : Int32)) hX dX15_ask_136 (by decide) ?_
      obtain rfl := Option.some.inj h
      exact zw_iret hX hr dX15_ask_137 rfl ⟨rfl, rfl⟩
    · rw [if_neg c129] at h
      refine zw_iconst (v := (2 : Int32)) hX dX15_ask_132 (by decide) ?_
      refine zw_goto (tgt := 137) hX dX15_ask_133 (by decide) ?_
      obtain rfl := Option.some.inj h
      exact zw_iret hX hr dX15_ask_137 rfl ⟨rfl, rfl⟩
  · rw [if_neg c120] at h
    refine zw_iconst (v := (3 : Int32)) hX dX15_ask_123 (by decide) ?_
    refine zw_goto (tgt := 137) hX dX15_ask_124 (by decide) ?_
    obtain rfl := Option.some.inj h
    exact zw_iret hX hr dX15_ask_137 rfl ⟨rfl, rfl⟩
def zf_X15_ask_J77 (N : Nat) (a0 : Nat) (i1 : Int32) (i4 : Int32) (t0 : Int32) (S : zm_S) : Option (Int32 × zm_S) := (zf_X15_ask_L82 N N a0 i1 i4 t0 (1 : Int32) S).bind (fun r => match r with | .inl o => some o | .inr (v19, S18) => zf_X15_ask_J116 N a0 v19 S18)
set_option maxHeartbeats 4000000 in
set_option maxRecDepth 100000 in
theorem zt_X15_ask_J77 {p : Program} {l : Launch} {e : Env} {R : Room} {s : State} {m : MethodId} {args : Array Value} {below : List Frame} {meth : Method} {c : Code} {V : zm_V} {mc ms d rc rs : Nat} (hX : zm_X p R s m args meth c RX15 "ask" cX15_ask 8 zk_E V mc ms) (hr : meth.sig.returnType = (some .int)) (hR : R.frames = d ∧ R.locals = 64 * d) (hd : 6 ≤ d) {N : Nat} {a0 : Nat} {i1 : Int32} {i4 : Int32} {t0 : Int32} {out : (Int32 × zm_S)} {S : zm_S} (h : zf_X15_ask_J77 N a0 i1 i4 t0 S = some out) : zw p l e R s m args below meth c (vx_MQ below (zm_Qc zk_E V (zo_i out)) (zm_XC zk_E V zo_x) args s mc ms (fun q => V.2.2.2.1 ≤ q)) 8 zk_E V mc ms 77 [(0, .ref a0), (1, .int i1), (4, .int i4)] [.int t0] S rc rs := by
  unfold zf_X15_ask_J77 at h
  refine zw_istore hX dX15_ask_77 (by decide) ?_
  refine zw_iconst (v := (1 : Int32)) hX dX15_ask_79 (by decide) ?_
  refine zw_istore hX dX15_ask_80 (by decide) ?_
  obtain ⟨r, g, h⟩ := zb_some h
  refine zw_sub (lv' := [(0, .ref a0), (1, .int i1), (4, .int i4), (6, .int t0), (7, .int (1 : Int32))]) (List.forall_mem_cons.mpr ⟨rfl, (List.forall_mem_cons.mpr ⟨rfl, (List.forall_mem_cons.mpr ⟨rfl, (List.forall_mem_cons.mpr ⟨rfl, (List.forall_mem_cons.mpr ⟨rfl, zs_nil⟩)⟩)⟩)⟩)⟩) ?_
  refine zt_X15_ask_L82 hX hr hR hd (res := r) (out := out) a0 i1 i4 ?_ ?_ N _ _ _ g
  · intro o ho
    subst ho
    exact Option.some.inj h
  · intro v19 S18 hx
    subst hx
    try dsimp only at h
    refine zw_sub (lv' := [(0, .ref a0), (6, .int v19)]) (List.forall_mem_cons.mpr ⟨rfl, (List.forall_mem_cons.mpr ⟨rfl, zs_nil⟩)⟩) ?_
    exact zt_X15_ask_J116 hX hr hR hd h
def zf_X15_ask_J42 (N : Nat) (a0 : Nat) (i1 : Int32) (i4 : Int32) (t0 : Nat) (t1 : Int32) (t2 : Int32) (S : zm_S) : Option (Int32 × zm_S) := (zi S t0 15).bind (fun _ => (zf_X15_holds N t0 t1 t2 S).bind (fun r9 => (zg_i r9.2 a0 15 40).bind (fun v10 => if v10 ≤ 0 then if r9.1 = 0 then (zg_r r9.2 a0 15 8).bind (fun b11 => (za_x r9.2 0 b11 i1).bind (fun v12 => if v12 ≤ 0 then zf_X15_ask_J77 N a0 i1 i4 (0 : Int32) r9.2 else zf_X15_ask_J77 N a0 i1 i4 (1 : Int32) r9.2)) else some ((0 : Int32), r9.2) else some ((3 : Int32), r9.2))))
set_option maxHeartbeats 4000000 in
set_option maxRecDepth 100000 in
theorem zt_X15_ask_J42 {p : Program} {l : Launch} {e : Env} {R : Room} {s : State} {m : MethodId} {args : Array Value} {below : List Frame} {meth : Method} {c : Code} {V : zm_V} {mc ms d rc rs : Nat} (hX : zm_X p R s m args meth c RX15 "ask" cX15_ask 8 zk_E V mc ms) (hr : meth.sig.returnType = (some .int)) (hR : R.frames = d ∧ R.locals = 64 * d) (hd : 6 ≤ d) {N : Nat} {a0 : Nat} {i1 : Int32} {i4 : Int32} {t0 : Nat} {t1 : Int32} {t2 : Int32} {out : (Int32 × zm_S)} {S : zm_S} (h : zf_X15_ask_J42 N a0 i1 i4 t0 t1 t2 S = some out) : zw p l e R s m args below meth c (vx_MQ below (zm_Qc zk_E V (zo_i out)) (zm_XC zk_E V zo_x) args s mc ms (fun q => V.2.2.2.1 ≤ q)) 8 zk_E V mc ms 42 [(0, .ref a0), (1, .int i1), (4, .int i4)] [.int t2, .int t1, .ref t0] S rc rs := by
  unfold zf_X15_ask_J42 at h
  obtain ⟨_, gi, h⟩ := zb_some h
  obtain ⟨r9, g, h⟩ := zb_some h
  refine zc_Vi (as := [.int t1, .int t2]) hX gi (zt_X15_holds (d := d - 1) (by omega) g) zl_X15_237 rfl dX15_ask_42 ⟨rfl, rfl, Nat.le_of_ble_eq_true rfl⟩ ⟨by omega, by omega⟩ ?_
  refine zw_istore hX dX15_ask_45 (by decide) ?_
  refine zw_aload_n hX dX15_ask_47 rfl ?_
  obtain ⟨v10, g, h⟩ := zb_some h
  refine zw_geti hX zl_X15_198 dX15_ask_48 g ?_
  refine zw_if_le (tgt := 56) hX dX15_ask_51 (by decide) (fun c51 => ?_) (fun c51 => ?_)
  · rw [if_pos c51] at h
    refine zw_iload hX dX15_ask_56 rfl ?_
    refine zw_if_eq (tgt := 63) hX dX15_ask_58 (by decide) (fun c58 => ?_) (fun c58 => ?_)
    · rw [if_pos c58] at h
      refine zw_aload_n hX dX15_ask_63 rfl ?_
      obtain ⟨b11, g, h⟩ := zb_some h
      refine zw_getr hX zl_X15_26 dX15_ask_64 g ?_
      refine zw_iload_n hX dX15_ask_67 rfl ?_
      obtain ⟨v12, g, h⟩ := zb_some h
      refine zw_xi hX dX15_ask_68 g ?_
      refine zw_if_le (tgt := 76) hX dX15_ask_69 (by decide) (fun c69 => ?_) (fun c69 => ?_)
      · rw [if_pos c69] at h
        refine zw_iconst (v := (0 : Int32)) hX dX15_ask_76 (by decide) ?_
        refine zw_sub (lv' := [(0, .ref a0), (1, .int i1), (4, .int i4)]) (List.forall_mem_cons.mpr ⟨rfl, (List.forall_mem_cons.mpr ⟨rfl, (List.forall_mem_cons.mpr ⟨rfl, zs_nil⟩)⟩)⟩) ?_
        exact zt_X15_ask_J77 hX hr hR hd h
      · rw [if_neg c69] at h
        refine zw_iconst (v := (1 : Int32)) hX dX15_ask_72 (by decide) ?_
        refine zw_goto (tgt := 77) hX dX15_ask_73 (by decide) ?_
        refine zw_sub (lv' := [(0, .ref a0), (1, .int i1), (4, .int i4)]) (List.forall_mem_cons.mpr ⟨rfl, (List.forall_mem_cons.mpr ⟨rfl, (List.forall_mem_cons.mpr ⟨rfl, zs_nil⟩)⟩)⟩) ?_
        exact zt_X15_ask_J77 hX hr hR hd h
    · rw [if_neg c58] at h
      refine zw_iconst (v := (0 : Int32)) hX dX15_ask_61 (by decide) ?_
      obtain rfl := Option.some.inj h
      exact zw_iret hX hr dX15_ask_62 rfl ⟨rfl, rfl⟩
  · rw [if_neg c51] at h
    refine zw_iconst (v := (3 : Int32)) hX dX15_ask_54 (by decide) ?_
    obtain rfl := Option.some.inj h
    exact zw_iret hX hr dX15_ask_55 rfl ⟨rfl, rfl⟩
def zf_X15_ask (N : Nat) (a0 : Nat) (i1 : Int32) (i2 : Int32) (i3 : Int32) (S : zm_S) : Option (Int32 × zm_S) := (zp S a0 15 40 (.int (0 : Int32))).bind (fun S1 => (zp S1 a0 15 41 (.long (0 : Int64))).bind (fun S2 => (zg_r S2 a0 15 9).bind (fun b3 => (za_x S2 0 b3 i1).bind (fun v4 => if v4 ≤ i2 then (zg_r S2 a0 15 7).bind (fun b5 => (za_x S2 0 b5 i1).bind (fun v6 => if i3 = 0 then zf_X15_ask_J42 N a0 i1 v6 a0 v6 (-1 : Int32) S2 else zf_X15_ask_J42 N a0 i1 v6 a0 v6 i1 S2)) else some ((4 : Int32), S2)))))
set_option maxHeartbeats 4000000 in
set_option maxRecDepth 100000 in
theorem zt_X15_ask {l : Launch} {V : zm_V} {N : Nat} {S : zm_S} {out : (Int32 × zm_S)} {d : Nat} {a0 : Nat} {i1 : Int32} {i2 : Int32} {i3 : Int32} (hd : 6 ≤ d) (h : zf_X15_ask N a0 i1 i2 i3 S = some out) : zm_Met l zk_E V yX15_ask (.code yX15_ask cX15_ask 8 (some .int)) d [.ref a0, .int i1, .int i2, .int i3] S 0 0 (zo_i out) zo_x := by
  refine zm_of (by decide +kernel) (Nat.le_of_ble_eq_true rfl) ?_
  intro p e R s m args below meth c hRR hX hr hxt
  have hR : R.frames = d ∧ R.locals = 64 * d := by rw [hRR]; exact ⟨rfl, rfl⟩
  have hX : zm_X p R s m args meth c RX15 "ask" cX15_ask 8 zk_E V 0 0 := hX
  unfold zf_X15_ask at h
  refine zw_sub (lv' := [(0, .ref a0), (1, .int i1), (2, .int i2), (3, .int i3)]) (List.forall_mem_cons.mpr ⟨rfl, (List.forall_mem_cons.mpr ⟨rfl, (List.forall_mem_cons.mpr ⟨rfl, (List.forall_mem_cons.mpr ⟨rfl, zs_nil⟩)⟩)⟩)⟩) ?_
  refine zw_aload_n hX dX15_ask_0 rfl ?_
  refine zw_iconst (v := (0 : Int32)) hX dX15_ask_1 (by decide) ?_
  obtain ⟨S1, g, h⟩ := zb_some h
  refine zw_putv hX zl_X15_198 zt_15_40 dX15_ask_2 rfl rfl g ?_
  refine zw_aload_n hX dX15_ask_5 rfl ?_
  refine zw_lconst (v := (0 : Int64)) hX dX15_ask_6 (by decide) ?_
  obtain ⟨S2, g, h⟩ := zb_some h
  refine zw_putv hX zl_X15_201 zt_15_41 dX15_ask_7 rfl rfl g ?_
  refine zw_iload_n hX dX15_ask_10 rfl ?_
  refine zw_aload_n hX dX15_ask_11 rfl ?_
  obtain ⟨b3, g, h⟩ := zb_some h
  refine zw_getr hX zl_X15_29 dX15_ask_12 g ?_
  refine zw_iload_n hX dX15_ask_15 rfl ?_
  obtain ⟨v4, g, h⟩ := zb_some h
  refine zw_xi hX dX15_ask_16 g ?_
  refine zw_icmp_ge (tgt := 22) hX dX15_ask_17 (by decide) (fun c17 => ?_) (fun c17 => ?_)
  · rw [if_pos c17] at h
    refine zw_aload_n hX dX15_ask_22 rfl ?_
    obtain ⟨b5, g, h⟩ := zb_some h
    refine zw_getr hX zl_X15_23 dX15_ask_23 g ?_
    refine zw_iload_n hX dX15_ask_26 rfl ?_
    obtain ⟨v6, g, h⟩ := zb_some h
    refine zw_xi hX dX15_ask_27 g ?_
    refine zw_istore hX dX15_ask_28 (by decide) ?_
    refine zw_aload_n hX dX15_ask_30 rfl ?_
    refine zw_iload hX dX15_ask_31 rfl ?_
    refine zw_iload_n hX dX15_ask_33 rfl ?_
    refine zw_if_eq (tgt := 41) hX dX15_ask_34 (by decide) (fun c34 => ?_) (fun c34 => ?_)
    · rw [if_pos c34] at h
      refine zw_iconst (v := (-1 : Int32)) hX dX15_ask_41 (by decide) ?_
      refine zw_sub (lv' := [(0, .ref a0), (1, .int i1), (4, .int v6)]) (List.forall_mem_cons.mpr ⟨rfl, (List.forall_mem_cons.mpr ⟨rfl, (List.forall_mem_cons.mpr ⟨rfl, zs_nil⟩)⟩)⟩) ?_
      exact zt_X15_ask_J42 hX hr hR hd h
    · rw [if_neg c34] at h
      refine zw_iload_n hX dX15_ask_37 rfl ?_
      refine zw_goto (tgt := 42) hX dX15_ask_38 (by decide) ?_
      refine zw_sub (lv' := [(0, .ref a0), (1, .int i1), (4, .int v6)]) (List.forall_mem_cons.mpr ⟨rfl, (List.forall_mem_cons.mpr ⟨rfl, (List.forall_mem_cons.mpr ⟨rfl, zs_nil⟩)⟩)⟩) ?_
      exact zt_X15_ask_J42 hX hr hR hd h
  · rw [if_neg c17] at h
    refine zw_iconst (v := (4 : Int32)) hX dX15_ask_20 (by decide) ?_
    obtain rfl := Option.some.inj h
    exact zw_iret hX hr dX15_ask_21 rfl ⟨rfl, rfl⟩
def zf_X15_run_J94 (N : Nat) (k : Nat → Int32 → Int32 → Int32 → zm_S → Option ((Int32 × zm_S) ⊕ ((Int32) × zm_S))) (a0 : Nat) (i1 : Int32) (i3 : Int32) (t0 : Int32) (t1 : Int32) (S : zm_S) : Option ((Int32 × zm_S) ⊕ ((Int32) × zm_S)) := k a0 i1 (t0 + t1) (i3 + (1 : Int32)) S
set_option maxHeartbeats 4000000 in
set_option maxRecDepth 100000 in
theorem zt_X15_run_J94 {p : Program} {l : Launch} {e : Env} {R : Room} {s : State} {m : MethodId} {args : Array Value} {below : List Frame} {meth : Method} {c : Code} {V : zm_V} {mc ms d rc rs : Nat} (hX : zm_X p R s m args meth c RX15 "run" cX15_run 4 zk_E V mc ms) (hr : meth.sig.returnType = (some .int)) (hR : R.frames = d ∧ R.locals = 64 * d) (hd : 7 ≤ d) {N : Nat} {k : Nat → Int32 → Int32 → Int32 → zm_S → Option ((Int32 × zm_S) ⊕ ((Int32) × zm_S))} {a0 : Nat} {i1 : Int32} {i3 : Int32} {t0 : Int32} {t1 : Int32} {res : (Int32 × zm_S) ⊕ ((Int32) × zm_S)} {out : (Int32 × zm_S)}   (hf : ∀ o, res = .inl o → o = out) (hk : ∀ (x2 : Int32) (S' : zm_S), res = .inr (x2, S') → zw p l e R s m args below meth c (vx_MQ below (zm_Qc zk_E V (zo_i out)) (zm_XC zk_E V zo_x) args s mc ms (fun q => V.2.2.2.1 ≤ q)) 4 zk_E V mc ms 102 [(2, .int x2)] [] S' rc rs) (hrec : ∀ (i2' : Int32) (i3' : Int32) (S : zm_S), k a0 i1 i2' i3' S = some res → zw p l e R s m args below meth c (vx_MQ below (zm_Qc zk_E V (zo_i out)) (zm_XC zk_E V zo_x) args s mc ms (fun q => V.2.2.2.1 ≤ q)) 4 zk_E V mc ms 9 [(0, .ref a0), (1, .int i1), (2, .int i2'), (3, .int i3')] [] S rc rs) {S : zm_S} (h : zf_X15_run_J94 N k a0 i1 i3 t0 t1 S = some res) : zw p l e R s m args below meth c (vx_MQ below (zm_Qc zk_E V (zo_i out)) (zm_XC zk_E V zo_x) args s mc ms (fun q => V.2.2.2.1 ≤ q)) 4 zk_E V mc ms 94 [(0, .ref a0), (1, .int i1), (3, .int i3)] [.int t1, .int t0] S rc rs := by
  unfold zf_X15_run_J94 at h
  refine zw_iadd hX dX15_run_94 ?_
  refine zw_istore_n hX dX15_run_95 (by decide) ?_
  refine zw_iinc (v := (i3 + (1 : Int32))) hX dX15_run_96 rfl rfl (by decide) ?_
  refine zw_goto (tgt := 9) hX dX15_run_99 (by decide) ?_
  refine zw_sub (lv' := [(0, .ref a0), (1, .int i1), (2, .int (t0 + t1)), (3, .int (i3 + (1 : Int32)))]) (List.forall_mem_cons.mpr ⟨rfl, (List.forall_mem_cons.mpr ⟨rfl, (List.forall_mem_cons.mpr ⟨rfl, (List.forall_mem_cons.mpr ⟨rfl, zs_nil⟩)⟩)⟩)⟩) ?_
  exact hrec _ _ _ h
def zf_X15_run_L9 (N : Nat) : Nat → Nat → Int32 → Int32 → Int32 → zm_S → Option ((Int32 × zm_S) ⊕ ((Int32) × zm_S))
  | 0, _, _, _, _, _ => none
  | n + 1, a0, i1, i2, i3, S => (zg_i S a0 15 5).bind (fun v2 => if v2 ≤ i3 then some (.inr (i2, S)) else (zg_r S a0 15 20).bind (fun b3 => (zs_l S b3 i3 (0 : Int64)).bind (fun S4 => (zg_r S4 a0 15 21).bind (fun b5 => (zs_l S4 b5 i3 (0 : Int64)).bind (fun S6 => (zg_r S6 a0 15 22).bind (fun b7 => (zs_l S6 b7 i3 (0 : Int64)).bind (fun S8 => (zg_r S8 a0 15 23).bind (fun b9 => (zs_l S8 b9 i3 (0 : Int64)).bind (fun S10 => (zg_r S10 a0 15 19).bind (fun b11 => (zi S10 a0 15).bind (fun _ => (zf_X15_ask N a0 i3 i1 (1 : Int32) S10).bind (fun r14 => (zs_i r14.2 b11 i3 r14.1).bind (fun S15 => (zg_r S15 a0 15 24).bind (fun b16 => (zg_i S15 a0 15 40).bind (fun v17 => (zs_i S15 b16 i3 v17).bind (fun S18 => (zg_r S18 a0 15 25).bind (fun b19 => (zg_l S18 a0 15 41).bind (fun w20 => (zs_l S18 b19 i3 w20).bind (fun S21 => (zg_r S21 a0 15 19).bind (fun b22 => (za_x S21 0 b22 i3).bind (fun v23 => if v23 = (1 : Int32) then zf_X15_run_J94 N (zf_X15_run_L9 N n) a0 i1 i3 i2 (1 : Int32) S21 else zf_X15_run_J94 N (zf_X15_run_L9 N n) a0 i1 i3 i2 (0 : Int32) S21)))))))))))))))))))))
set_option maxHeartbeats 4000000 in
set_option maxRecDepth 100000 in
theorem zt_X15_run_L9 {p : Program} {l : Launch} {e : Env} {R : Room} {s : State} {m : MethodId} {args : Array Value} {below : List Frame} {meth : Method} {c : Code} {V : zm_V} {mc ms d rc rs : Nat} (hX : zm_X p R s m args meth c RX15 "run" cX15_run 4 zk_E V mc ms) (hr : meth.sig.returnType = (some .int)) (hR : R.frames = d ∧ R.locals = 64 * d) (hd : 7 ≤ d) {N : Nat} {res : (Int32 × zm_S) ⊕ ((Int32) × zm_S)} {out : (Int32 × zm_S)} (a0 : Nat) (i1 : Int32) (hf : ∀ o, res = .inl o → o = out) (hk : ∀ (x2 : Int32) (S' : zm_S), res = .inr (x2, S') → zw p l e R s m args below meth c (vx_MQ below (zm_Qc zk_E V (zo_i out)) (zm_XC zk_E V zo_x) args s mc ms (fun q => V.2.2.2.1 ≤ q)) 4 zk_E V mc ms 102 [(2, .int x2)] [] S' rc rs) : ∀ (n : Nat) (i2 : Int32) (i3 : Int32) (S : zm_S), zf_X15_run_L9 N n a0 i1 i2 i3 S = some res → zw p l e R s m args below meth c (vx_MQ below (zm_Qc zk_E V (zo_i out)) (zm_XC zk_E V zo_x) args s mc ms (fun q => V.2.2.2.1 ≤ q)) 4 zk_E V mc ms 9 [(0, .ref a0), (1, .int i1), (2, .int i2), (3, .int i3)] [] S rc rs := by
  intro n
  induction n with
  | zero => intro i2 i3 S h; cases h
  | succ n ih =>
    intro i2 i3 S h
    rw [zf_X15_run_L9] at h
    refine zw_iload_n hX dX15_run_9 rfl ?_
    refine zw_aload_n hX dX15_run_10 rfl ?_
    obtain ⟨v2, g, h⟩ := zb_some h
    refine zw_geti hX zl_X15_174 dX15_run_11 g ?_
    refine zw_icmp_ge (tgt := 102) hX dX15_run_14 (by decide) (fun c14 => ?_) (fun c14 => ?_)
    · rw [if_pos c14] at h
      refine zw_sub (lv' := [(2, .int i2)]) (List.forall_mem_cons.mpr ⟨rfl, zs_nil⟩) ?_
      exact hk _ _ (Option.some.inj h).symm
    · rw [if_neg c14] at h
      refine zw_aload_n hX dX15_run_17 rfl ?_
      obtain ⟨b3, g, h⟩ := zb_some h
      refine zw_getr hX zl_X15_57 dX15_run_18 g ?_
      refine zw_iload_n hX dX15_run_21 rfl ?_
      refine zw_lconst (v := (0 : Int64)) hX dX15_run_22 (by decide) ?_
      obtain ⟨S4, g, h⟩ := zb_some h
      refine zw_sl hX dX15_run_23 g ?_
      refine zw_aload_n hX dX15_run_24 rfl ?_
      obtain ⟨b5, g, h⟩ := zb_some h
      refine zw_getr hX zl_X15_60 dX15_run_25 g ?_
      refine zw_iload_n hX dX15_run_28 rfl ?_
      refine zw_lconst (v := (0 : Int64)) hX dX15_run_29 (by decide) ?_
      obtain ⟨S6, g, h⟩ := zb_some h
      refine zw_sl hX dX15_run_30 g ?_
      refine zw_aload_n hX dX15_run_31 rfl ?_
      obtain ⟨b7, g, h⟩ := zb_some h
      refine zw_getr hX zl_X15_63 dX15_run_32 g ?_
      refine zw_iload_n hX dX15_run_35 rfl ?_
      refine zw_lconst (v := (0 : Int64)) hX dX15_run_36 (by decide) ?_
      obtain ⟨S8, g, h⟩ := zb_some h
      refine zw_sl hX dX15_run_37 g ?_
      refine zw_aload_n hX dX15_run_38 rfl ?_
      obtain ⟨b9, g, h⟩ := zb_some h
      refine zw_getr hX zl_X15_66 dX15_run_39 g ?_
      refine zw_iload_n hX dX15_run_42 rfl ?_
      refine zw_lconst (v := (0 : Int64)) hX dX15_run_43 (by decide) ?_
      obtain ⟨S10, g, h⟩ := zb_some h
      refine zw_sl hX dX15_run_44 g ?_
      refine zw_aload_n hX dX15_run_45 rfl ?_
      obtain ⟨b11, g, h⟩ := zb_some h
      refine zw_getr hX zl_X15_54 dX15_run_46 g ?_
      refine zw_iload_n hX dX15_run_49 rfl ?_
      refine zw_aload_n hX dX15_run_50 rfl ?_
      refine zw_iload_n hX dX15_run_51 rfl ?_
      refine zw_iload_n hX dX15_run_52 rfl ?_
      refine zw_iconst (v := (1 : Int32)) hX dX15_run_53 (by decide) ?_
      obtain ⟨_, gi, h⟩ := zb_some h
      obtain ⟨r14, g, h⟩ := zb_some h
      refine zc_Vi (as := [.int i3, .int i1, .int (1 : Int32)]) hX gi (zt_X15_ask (d := d - 1) (by omega) g) zl_X15_241 rfl dX15_run_54 ⟨rfl, rfl, Nat.le_of_ble_eq_true rfl⟩ ⟨by omega, by omega⟩ ?_
      obtain ⟨S15, g, h⟩ := zb_some h
      refine zw_si hX dX15_run_57 g ?_
      refine zw_aload_n hX dX15_run_58 rfl ?_
      obtain ⟨b16, g, h⟩ := zb_some h
      refine zw_getr hX zl_X15_69 dX15_run_59 g ?_
      refine zw_iload_n hX dX15_run_62 rfl ?_
      refine zw_aload_n hX dX15_run_63 rfl ?_
      obtain ⟨v17, g, h⟩ := zb_some h
      refine zw_geti hX zl_X15_198 dX15_run_64 g ?_
      obtain ⟨S18, g, h⟩ := zb_some h
      refine zw_si hX dX15_run_67 g ?_
      refine zw_aload_n hX dX15_run_68 rfl ?_
      obtain ⟨b19, g, h⟩ := zb_some h
      refine zw_getr hX zl_X15_72 dX15_run_69 g ?_
      refine zw_iload_n hX dX15_run_72 rfl ?_
      refine zw_aload_n hX dX15_run_73 rfl ?_
      obtain ⟨w20, g, h⟩ := zb_some h
      refine zw_getl hX zl_X15_201 dX15_run_74 g ?_
      obtain ⟨S21, g, h⟩ := zb_some h
      refine zw_sl hX dX15_run_77 g ?_
      refine zw_iload_n hX dX15_run_78 rfl ?_
      refine zw_aload_n hX dX15_run_79 rfl ?_
      obtain ⟨b22, g, h⟩ := zb_some h
      refine zw_getr hX zl_X15_54 dX15_run_80 g ?_
      refine zw_iload_n hX dX15_run_83 rfl ?_
      obtain ⟨v23, g, h⟩ := zb_some h
      refine zw_xi hX dX15_run_84 g ?_
      refine zw_iconst (v := (1 : Int32)) hX dX15_run_85 (by decide) ?_
      refine zw_icmp_ne (tgt := 93) hX dX15_run_86 (by decide) (fun c86 => ?_) (fun c86 => ?_)
      · rw [if_neg c86] at h
        refine zw_iconst (v := (0 : Int32)) hX dX15_run_93 (by decide) ?_
        refine zw_sub (lv' := [(0, .ref a0), (1, .int i1), (3, .int i3)]) (List.forall_mem_cons.mpr ⟨rfl, (List.forall_mem_cons.mpr ⟨rfl, (List.forall_mem_cons.mpr ⟨rfl, zs_nil⟩)⟩)⟩) ?_
        exact zt_X15_run_J94 hX hr hR hd hf hk ih h
      · rw [if_pos c86] at h
        refine zw_iconst (v := (1 : Int32)) hX dX15_run_89 (by decide) ?_
        refine zw_goto (tgt := 94) hX dX15_run_90 (by decide) ?_
        refine zw_sub (lv' := [(0, .ref a0), (1, .int i1), (3, .int i3)]) (List.forall_mem_cons.mpr ⟨rfl, (List.forall_mem_cons.mpr ⟨rfl, (List.forall_mem_cons.mpr ⟨rfl, zs_nil⟩)⟩)⟩) ?_
        exact zt_X15_run_J94 hX hr hR hd hf hk ih h
def zf_X15_run (N : Nat) (a0 : Nat) (i1 : Int32) (S : zm_S) : Option (Int32 × zm_S) := (zp S a0 15 18 (.int i1)).bind (fun S1 => (zf_X15_run_L9 N N a0 i1 (0 : Int32) (0 : Int32) S1).bind (fun r => match r with | .inl o => some o | .inr (v25, S24) => some (v25, S24)))
set_option maxHeartbeats 4000000 in
set_option maxRecDepth 100000 in
theorem zt_X15_run {l : Launch} {V : zm_V} {N : Nat} {S : zm_S} {out : (Int32 × zm_S)} {d : Nat} {a0 : Nat} {i1 : Int32} (hd : 7 ≤ d) (h : zf_X15_run N a0 i1 S = some out) : zm_Met l zk_E V yX15_run (.code yX15_run cX15_run 4 (some .int)) d [.ref a0, .int i1] S 0 0 (zo_i out) zo_x := by
  refine zm_of (by decide +kernel) (Nat.le_of_ble_eq_true rfl) ?_
  intro p e R s m args below meth c hRR hX hr hxt
  have hR : R.frames = d ∧ R.locals = 64 * d := by rw [hRR]; exact ⟨rfl, rfl⟩
  have hX : zm_X p R s m args meth c RX15 "run" cX15_run 4 zk_E V 0 0 := hX
  unfold zf_X15_run at h
  refine zw_sub (lv' := [(0, .ref a0), (1, .int i1)]) (List.forall_mem_cons.mpr ⟨rfl, (List.forall_mem_cons.mpr ⟨rfl, zs_nil⟩)⟩) ?_
  refine zw_aload_n hX dX15_run_0 rfl ?_
  refine zw_iload_n hX dX15_run_1 rfl ?_
  obtain ⟨S1, g, h⟩ := zb_some h
  refine zw_putv hX zl_X15_50 zt_15_18 dX15_run_2 rfl rfl g ?_
  refine zw_iconst (v := (0 : Int32)) hX dX15_run_5 (by decide) ?_
  refine zw_istore_n hX dX15_run_6 (by decide) ?_
  refine zw_iconst (v := (0 : Int32)) hX dX15_run_7 (by decide) ?_
  refine zw_istore_n hX dX15_run_8 (by decide) ?_
  obtain ⟨r, g, h⟩ := zb_some h
  refine zw_sub (lv' := [(0, .ref a0), (1, .int i1), (2, .int (0 : Int32)), (3, .int (0 : Int32))]) (List.forall_mem_cons.mpr ⟨rfl, (List.forall_mem_cons.mpr ⟨rfl, (List.forall_mem_cons.mpr ⟨rfl, (List.forall_mem_cons.mpr ⟨rfl, zs_nil⟩)⟩)⟩)⟩) ?_
  refine zt_X15_run_L9 hX hr hR hd (res := r) (out := out) a0 i1 ?_ ?_ N _ _ _ g
  · intro o ho
    subst ho
    exact Option.some.inj h
  · intro v25 S24 hx
    subst hx
    try dsimp only at h
    refine zw_iload_n hX dX15_run_102 rfl ?_
    obtain rfl := Option.some.inj h
    exact zw_iret hX hr dX15_run_103 rfl ⟨rfl, rfl⟩
def zf_X15_told (N : Nat) (a0 : Nat) (i1 : Int32) (i2 : Int32) (S : zm_S) : Option (Int64 × zm_S) := if (i2).toInt = 0 then (zg_r S a0 15 19).bind (fun b3 => (za_x S 0 b3 i1).bind (fun v4 => some ((v4).toInt64, S))) else if (i2).toInt = 1 then (zg_r S a0 15 20).bind (fun b5 => (za_l S b5 i1).bind (fun w6 => some (w6, S))) else if (i2).toInt = 2 then (zg_r S a0 15 21).bind (fun b7 => (za_l S b7 i1).bind (fun w8 => some (w8, S))) else if (i2).toInt = 3 then (zg_r S a0 15 22).bind (fun b9 => (za_l S b9 i1).bind (fun w10 => some (w10, S))) else if (i2).toInt = 4 then (zg_r S a0 15 23).bind (fun b11 => (za_l S b11 i1).bind (fun w12 => some (w12, S))) else if (i2).toInt = 5 then (zg_r S a0 15 24).bind (fun b13 => (za_x S 0 b13 i1).bind (fun v14 => some ((v14).toInt64, S))) else (zg_r S a0 15 25).bind (fun b1 => (za_l S b1 i1).bind (fun w2 => some (w2, S)))
set_option maxHeartbeats 4000000 in
set_option maxRecDepth 100000 in
theorem zt_X15_told {l : Launch} {V : zm_V} {N : Nat} {S : zm_S} {out : (Int64 × zm_S)} {d : Nat} {a0 : Nat} {i1 : Int32} {i2 : Int32} (hd : 1 ≤ d) (h : zf_X15_told N a0 i1 i2 S = some out) : zm_Met l zk_E V yX15_told (.code yX15_told cX15_told 3 (some .long)) d [.ref a0, .int i1, .int i2] S 0 0 (zo_l out) zo_x := by
  refine zm_of (by decide +kernel) (Nat.le_of_ble_eq_true rfl) ?_
  intro p e R s m args below meth c hRR hX hr hxt
  have hR : R.frames = d ∧ R.locals = 64 * d := by rw [hRR]; exact ⟨rfl, rfl⟩
  have hX : zm_X p R s m args meth c RX15 "told" cX15_told 3 zk_E V 0 0 := hX
  unfold zf_X15_told at h
  refine zw_sub (lv' := [(0, .ref a0), (1, .int i1), (2, .int i2)]) (List.forall_mem_cons.mpr ⟨rfl, (List.forall_mem_cons.mpr ⟨rfl, (List.forall_mem_cons.mpr ⟨rfl, zs_nil⟩)⟩)⟩) ?_
  refine zw_iload_n hX dX15_told_0 rfl ?_
  by_cases c1_0 : (i2).toInt = 0
  · rw [if_pos c1_0] at h
    refine zw_tableIn (off := 39) (tgt := 40) hX dX15_told_1 (by rw [c1_0]; decide) (by rw [c1_0]; decide) (by rw [c1_0]; decide) (by decide) ?_
    refine zw_aload_n hX dX15_told_40 rfl ?_
    obtain ⟨b3, g, h⟩ := zb_some h
    refine zw_getr hX zl_X15_54 dX15_told_41 g ?_
    refine zw_iload_n hX dX15_told_44 rfl ?_
    obtain ⟨v4, g, h⟩ := zb_some h
    refine zw_xi hX dX15_told_45 g ?_
    refine zw_i2l hX dX15_told_46 ?_
    obtain rfl := Option.some.inj h
    exact zw_lret hX hr dX15_told_47 ⟨rfl, rfl⟩
  rw [if_neg c1_0] at h
  by_cases c1_1 : (i2).toInt = 1
  · rw [if_pos c1_1] at h
    refine zw_tableIn (off := 47) (tgt := 48) hX dX15_told_1 (by rw [c1_1]; decide) (by rw [c1_1]; decide) (by rw [c1_1]; decide) (by decide) ?_
    refine zw_aload_n hX dX15_told_48 rfl ?_
    obtain ⟨b5, g, h⟩ := zb_some h
    refine zw_getr hX zl_X15_57 dX15_told_49 g ?_
    refine zw_iload_n hX dX15_told_52 rfl ?_
    obtain ⟨w6, g, h⟩ := zb_some h
    refine zw_xl hX dX15_told_53 g ?_
    obtain rfl := Option.some.inj h
    exact zw_lret hX hr dX15_told_54 ⟨rfl, rfl⟩
  rw [if_neg c1_1] at h
  by_cases c1_2 : (i2).toInt = 2
  · rw [if_pos c1_2] at h
    refine zw_tableIn (off := 54) (tgt := 55) hX dX15_told_1 (by rw [c1_2]; decide) (by rw [c1_2]; decide) (by rw [c1_2]; decide) (by decide) ?_
    refine zw_aload_n hX dX15_told_55 rfl ?_
    obtain ⟨b7, g, h⟩ := zb_some h
    refine zw_getr hX zl_X15_60 dX15_told_56 g ?_
    refine zw_iload_n hX dX15_told_59 rfl ?_
    obtain ⟨w8, g, h⟩ := zb_some h
    refine zw_xl hX dX15_told_60 g ?_
    obtain rfl := Option.some.inj h
    exact zw_lret hX hr dX15_told_61 ⟨rfl, rfl⟩
  rw [if_neg c1_2] at h
  by_cases c1_3 : (i2).toInt = 3
  · rw [if_pos c1_3] at h
    refine zw_tableIn (off := 61) (tgt := 62) hX dX15_told_1 (by rw [c1_3]; decide) (by rw [c1_3]; decide) (by rw [c1_3]; decide) (by decide) ?_
    refine zw_aload_n hX dX15_told_62 rfl ?_
    obtain ⟨b9, g, h⟩ := zb_some h
    refine zw_getr hX zl_X15_63 dX15_told_63 g ?_
    refine zw_iload_n hX dX15_told_66 rfl ?_
    obtain ⟨w10, g, h⟩ := zb_some h
    refine zw_xl hX dX15_told_67 g ?_
    obtain rfl := Option.some.inj h
    exact zw_lret hX hr dX15_told_68 ⟨rfl, rfl⟩
  rw [if_neg c1_3] at h
  by_cases c1_4 : (i2).toInt = 4
  · rw [if_pos c1_4] at h
    refine zw_tableIn (off := 68) (tgt := 69) hX dX15_told_1 (by rw [c1_4]; decide) (by rw [c1_4]; decide) (by rw [c1_4]; decide) (by decide) ?_
    refine zw_aload_n hX dX15_told_69 rfl ?_
    obtain ⟨b11, g, h⟩ := zb_some h
    refine zw_getr hX zl_X15_66 dX15_told_70 g ?_
    refine zw_iload_n hX dX15_told_73 rfl ?_
    obtain ⟨w12, g, h⟩ := zb_some h
    refine zw_xl hX dX15_told_74 g ?_
    obtain rfl := Option.some.inj h
    exact zw_lret hX hr dX15_told_75 ⟨rfl, rfl⟩
  rw [if_neg c1_4] at h
  by_cases c1_5 : (i2).toInt = 5
  · rw [if_pos c1_5] at h
    refine zw_tableIn (off := 75) (tgt := 76) hX dX15_told_1 (by rw [c1_5]; decide) (by rw [c1_5]; decide) (by rw [c1_5]; decide) (by decide) ?_
    refine zw_aload_n hX dX15_told_76 rfl ?_
    obtain ⟨b13, g, h⟩ := zb_some h
    refine zw_getr hX zl_X15_69 dX15_told_77 g ?_
    refine zw_iload_n hX dX15_told_80 rfl ?_
    obtain ⟨v14, g, h⟩ := zb_some h
    refine zw_xi hX dX15_told_81 g ?_
    refine zw_i2l hX dX15_told_82 ?_
    obtain rfl := Option.some.inj h
    exact zw_lret hX hr dX15_told_83 ⟨rfl, rfl⟩
  rw [if_neg c1_5] at h
  refine zw_tableOut (tgt := 84) hX dX15_told_1 (by omega) (by decide) ?_
  refine zw_aload_n hX dX15_told_84 rfl ?_
  obtain ⟨b1, g, h⟩ := zb_some h
  refine zw_getr hX zl_X15_72 dX15_told_85 g ?_
  refine zw_iload_n hX dX15_told_88 rfl ?_
  obtain ⟨w2, g, h⟩ := zb_some h
  refine zw_xl hX dX15_told_89 g ?_
  obtain rfl := Option.some.inj h
  exact zw_lret hX hr dX15_told_90 ⟨rfl, rfl⟩
def zf_X16_highX (N : Nat) (a0 : Nat) (i1 : Int32) (S : zm_S) : Option (Int32 × zm_S) := (zg_r S a0 16 1).bind (fun b1 => (za_x S 0 b1 i1).bind (fun v2 => (zg_r S a0 16 3).bind (fun b3 => (za_x S 2 b3 i1).bind (fun v4 => if v4 = 0 then some ((v2 + (0 : Int32)), S) else (zg_r S a0 16 4).bind (fun b5 => (za_x S 0 b5 i1).bind (fun v6 => some ((v2 + v6), S)))))))
set_option maxHeartbeats 4000000 in
set_option maxRecDepth 100000 in
theorem zt_X16_highX {l : Launch} {V : zm_V} {N : Nat} {S : zm_S} {out : (Int32 × zm_S)} {d : Nat} {a0 : Nat} {i1 : Int32} (hd : 1 ≤ d) (h : zf_X16_highX N a0 i1 S = some out) : zm_Met l zk_E V yX16_highX (.code yX16_highX cX16_highX 2 (some .int)) d [.ref a0, .int i1] S 0 0 (zo_i out) zo_x := by
  refine zm_of (by decide +kernel) (Nat.le_of_ble_eq_true rfl) ?_
  intro p e R s m args below meth c hRR hX hr hxt
  have hR : R.frames = d ∧ R.locals = 64 * d := by rw [hRR]; exact ⟨rfl, rfl⟩
  have hX : zm_X p R s m args meth c RX16 "highX" cX16_highX 2 zk_E V 0 0 := hX
  unfold zf_X16_highX at h
  refine zw_sub (lv' := [(0, .ref a0), (1, .int i1)]) (List.forall_mem_cons.mpr ⟨rfl, (List.forall_mem_cons.mpr ⟨rfl, zs_nil⟩)⟩) ?_
  refine zw_aload_n hX dX16_highX_0 rfl ?_
  obtain ⟨b1, g, h⟩ := zb_some h
  refine zw_getr hX zl_X16_7 dX16_highX_1 g ?_
  refine zw_iload_n hX dX16_highX_4 rfl ?_
  obtain ⟨v2, g, h⟩ := zb_some h
  refine zw_xi hX dX16_highX_5 g ?_
  refine zw_aload_n hX dX16_highX_6 rfl ?_
  obtain ⟨b3, g, h⟩ := zb_some h
  refine zw_getr hX zl_X16_16 dX16_highX_7 g ?_
  refine zw_iload_n hX dX16_highX_10 rfl ?_
  obtain ⟨v4, g, h⟩ := zb_some h
  refine zw_xz hX dX16_highX_11 g ?_
  refine zw_if_eq (tgt := 24) hX dX16_highX_12 (by decide) (fun c12 => ?_) (fun c12 => ?_)
  · rw [if_pos c12] at h
    refine zw_iconst (v := (0 : Int32)) hX dX16_highX_24 (by decide) ?_
    refine zw_iadd hX dX16_highX_25 ?_
    obtain rfl := Option.some.inj h
    exact zw_iret hX hr dX16_highX_26 rfl ⟨rfl, rfl⟩
  · rw [if_neg c12] at h
    refine zw_aload_n hX dX16_highX_15 rfl ?_
    obtain ⟨b5, g, h⟩ := zb_some h
    refine zw_getr hX zl_X16_20 dX16_highX_16 g ?_
    refine zw_iload_n hX dX16_highX_19 rfl ?_
    obtain ⟨v6, g, h⟩ := zb_some h
    refine zw_xi hX dX16_highX_20 g ?_
    refine zw_goto (tgt := 25) hX dX16_highX_21 (by decide) ?_
    refine zw_iadd hX dX16_highX_25 ?_
    obtain rfl := Option.some.inj h
    exact zw_iret hX hr dX16_highX_26 rfl ⟨rfl, rfl⟩
def zf_X16_highY (N : Nat) (a0 : Nat) (i1 : Int32) (S : zm_S) : Option (Int32 × zm_S) := (zg_r S a0 16 2).bind (fun b1 => (za_x S 0 b1 i1).bind (fun v2 => (zg_r S a0 16 3).bind (fun b3 => (za_x S 2 b3 i1).bind (fun v4 => if v4 = 0 then (zg_r S a0 16 4).bind (fun b5 => (za_x S 0 b5 i1).bind (fun v6 => some ((v2 + v6), S))) else some ((v2 + (0 : Int32)), S)))))
set_option maxHeartbeats 4000000 in
set_option maxRecDepth 100000 in
theorem zt_X16_highY {l : Launch} {V : zm_V} {N : Nat} {S : zm_S} {out : (Int32 × zm_S)} {d : Nat} {a0 : Nat} {i1 : Int32} (hd : 1 ≤ d) (h : zf_X16_highY N a0 i1 S = some out) : zm_Met l zk_E V yX16_highY (.code yX16_highY cX16_highY 2 (some .int)) d [.ref a0, .int i1] S 0 0 (zo_i out) zo_x := by
  refine zm_of (by decide +kernel) (Nat.le_of_ble_eq_true rfl) ?_
  intro p e R s m args below meth c hRR hX hr hxt
  have hR : R.frames = d ∧ R.locals = 64 * d := by rw [hRR]; exact ⟨rfl, rfl⟩
  have hX : zm_X p R s m args meth c RX16 "highY" cX16_highY 2 zk_E V 0 0 := hX
  unfold zf_X16_highY at h
  refine zw_sub (lv' := [(0, .ref a0), (1, .int i1)]) (List.forall_mem_cons.mpr ⟨rfl, (List.forall_mem_cons.mpr ⟨rfl, zs_nil⟩)⟩) ?_
  refine zw_aload_n hX dX16_highY_0 rfl ?_
  obtain ⟨b1, g, h⟩ := zb_some h
  refine zw_getr hX zl_X16_13 dX16_highY_1 g ?_
  refine zw_iload_n hX dX16_highY_4 rfl ?_
  obtain ⟨v2, g, h⟩ := zb_some h
  refine zw_xi hX dX16_highY_5 g ?_
  refine zw_aload_n hX dX16_highY_6 rfl ?_
  obtain ⟨b3, g, h⟩ := zb_some h
  refine zw_getr hX zl_X16_16 dX16_highY_7 g ?_
  refine zw_iload_n hX dX16_highY_10 rfl ?_
  obtain ⟨v4, g, h⟩ := zb_some h
  refine zw_xz hX dX16_highY_11 g ?_
  refine zw_if_eq (tgt := 19) hX dX16_highY_12 (by decide) (fun c12 => ?_) (fun c12 => ?_)
  · rw [if_pos c12] at h
    refine zw_aload_n hX dX16_highY_19 rfl ?_
    obtain ⟨b5, g, h⟩ := zb_some h
    refine zw_getr hX zl_X16_20 dX16_highY_20 g ?_
    refine zw_iload_n hX dX16_highY_23 rfl ?_
    obtain ⟨v6, g, h⟩ := zb_some h
    refine zw_xi hX dX16_highY_24 g ?_
    refine zw_iadd hX dX16_highY_25 ?_
    obtain rfl := Option.some.inj h
    exact zw_iret hX hr dX16_highY_26 rfl ⟨rfl, rfl⟩
  · rw [if_neg c12] at h
    refine zw_iconst (v := (0 : Int32)) hX dX16_highY_15 (by decide) ?_
    refine zw_goto (tgt := 25) hX dX16_highY_16 (by decide) ?_
    refine zw_iadd hX dX16_highY_25 ?_
    obtain rfl := Option.some.inj h
    exact zw_iret hX hr dX16_highY_26 rfl ⟨rfl, rfl⟩
def zf_X16_isOn (N : Nat) (a0 : Nat) (i1 : Int32) (i2 : Int32) (i3 : Int32) (S : zm_S) : Option (Int32 × zm_S) := (zg_r S a0 16 1).bind (fun b1 => (za_x S 0 b1 i1).bind (fun v2 => if i2 < v2 then some ((0 : Int32), S) else (zi S a0 16).bind (fun _ => (zf_X16_highX N a0 i1 S).bind (fun r5 => if r5.1 < i2 then some ((0 : Int32), r5.2) else (zg_r r5.2 a0 16 2).bind (fun b6 => (za_x r5.2 0 b6 i1).bind (fun v7 => if i3 < v7 then some ((0 : Int32), r5.2) else (zi r5.2 a0 16).bind (fun _ => (zf_X16_highY N a0 i1 r5.2).bind (fun r10 => if r10.1 < i3 then some ((0 : Int32), r10.2) else some ((1 : Int32), r10.2)))))))))
set_option maxHeartbeats 4000000 in
set_option maxRecDepth 100000 in
theorem zt_X16_isOn {l : Launch} {V : zm_V} {N : Nat} {S : zm_S} {out : (Int32 × zm_S)} {d : Nat} {a0 : Nat} {i1 : Int32} {i2 : Int32} {i3 : Int32} (hd : 2 ≤ d) (h : zf_X16_isOn N a0 i1 i2 i3 S = some out) : zm_Met l zk_E V yX16_isOn (.code yX16_isOn cX16_isOn 4 (some .boolean)) d [.ref a0, .int i1, .int i2, .int i3] S 0 0 (zo_i out) zo_x := by
  refine zm_of (by decide +kernel) (Nat.le_of_ble_eq_true rfl) ?_
  intro p e R s m args below meth c hRR hX hr hxt
  have hR : R.frames = d ∧ R.locals = 64 * d := by rw [hRR]; exact ⟨rfl, rfl⟩
  have hX : zm_X p R s m args meth c RX16 "isOn" cX16_isOn 4 zk_E V 0 0 := hX
  unfold zf_X16_isOn at h
  refine zw_sub (lv' := [(0, .ref a0), (1, .int i1), (2, .int i2), (3, .int i3)]) (List.forall_mem_cons.mpr ⟨rfl, (List.forall_mem_cons.mpr ⟨rfl, (List.forall_mem_cons.mpr ⟨rfl, (List.forall_mem_cons.mpr ⟨rfl, zs_nil⟩)⟩)⟩)⟩) ?_
  refine zw_iload_n hX dX16_isOn_0 rfl ?_
  refine zw_aload_n hX dX16_isOn_1 rfl ?_
  obtain ⟨b1, g, h⟩ := zb_some h
  refine zw_getr hX zl_X16_7 dX16_isOn_2 g ?_
  refine zw_iload_n hX dX16_isOn_5 rfl ?_
  obtain ⟨v2, g, h⟩ := zb_some h
  refine zw_xi hX dX16_isOn_6 g ?_
  refine zw_icmp_lt (tgt := 42) hX dX16_isOn_7 (by decide) (fun c7 => ?_) (fun c7 => ?_)
  · rw [if_pos c7] at h
    refine zw_iconst (v := (0 : Int32)) hX dX16_isOn_42 (by decide) ?_
    obtain rfl := Option.some.inj h
    exact zw_iret hX hr dX16_isOn_43 rfl ⟨rfl, rfl⟩
  · rw [if_neg c7] at h
    refine zw_iload_n hX dX16_isOn_10 rfl ?_
    refine zw_aload_n hX dX16_isOn_11 rfl ?_
    refine zw_iload_n hX dX16_isOn_12 rfl ?_
    obtain ⟨_, gi, h⟩ := zb_some h
    obtain ⟨r5, g, h⟩ := zb_some h
    refine zc_Vi (as := [.int i1]) hX gi (zt_X16_highX (d := d - 1) (by omega) g) zl_X16_89 rfl dX16_isOn_13 ⟨rfl, rfl, Nat.le_of_ble_eq_true rfl⟩ ⟨by omega, by omega⟩ ?_
    refine zw_icmp_gt (tgt := 42) hX dX16_isOn_16 (by decide) (fun c16 => ?_) (fun c16 => ?_)
    · rw [if_pos c16] at h
      refine zw_iconst (v := (0 : Int32)) hX dX16_isOn_42 (by decide) ?_
      obtain rfl := Option.some.inj h
      exact zw_iret hX hr dX16_isOn_43 rfl ⟨rfl, rfl⟩
    · rw [if_neg c16] at h
      refine zw_iload_n hX dX16_isOn_19 rfl ?_
      refine zw_aload_n hX dX16_isOn_20 rfl ?_
      obtain ⟨b6, g, h⟩ := zb_some h
      refine zw_getr hX zl_X16_13 dX16_isOn_21 g ?_
      refine zw_iload_n hX dX16_isOn_24 rfl ?_
      obtain ⟨v7, g, h⟩ := zb_some h
      refine zw_xi hX dX16_isOn_25 g ?_
      refine zw_icmp_lt (tgt := 42) hX dX16_isOn_26 (by decide) (fun c26 => ?_) (fun c26 => ?_)
      · rw [if_pos c26] at h
        refine zw_iconst (v := (0 : Int32)) hX dX16_isOn_42 (by decide) ?_
        obtain rfl := Option.some.inj h
        exact zw_iret hX hr dX16_isOn_43 rfl ⟨rfl, rfl⟩
      · rw [if_neg c26] at h
        refine zw_iload_n hX dX16_isOn_29 rfl ?_
        refine zw_aload_n hX dX16_isOn_30 rfl ?_
        refine zw_iload_n hX dX16_isOn_31 rfl ?_
        obtain ⟨_, gi, h⟩ := zb_some h
        obtain ⟨r10, g, h⟩ := zb_some h
        refine zc_Vi (as := [.int i1]) hX gi (zt_X16_highY (d := d - 1) (by omega) g) zl_X16_93 rfl dX16_isOn_32 ⟨rfl, rfl, Nat.le_of_ble_eq_true rfl⟩ ⟨by omega, by omega⟩ ?_
        refine zw_icmp_gt (tgt := 42) hX dX16_isOn_35 (by decide) (fun c35 => ?_) (fun c35 => ?_)
        · rw [if_pos c35] at h
          refine zw_iconst (v := (0 : Int32)) hX dX16_isOn_42 (by decide) ?_
          obtain rfl := Option.some.inj h
          exact zw_iret hX hr dX16_isOn_43 rfl ⟨rfl, rfl⟩
        · rw [if_neg c35] at h
          refine zw_iconst (v := (1 : Int32)) hX dX16_isOn_38 (by decide) ?_
          refine zw_goto (tgt := 43) hX dX16_isOn_39 (by decide) ?_
          obtain rfl := Option.some.inj h
          exact zw_iret hX hr dX16_isOn_43 rfl ⟨rfl, rfl⟩
def zf_X16_along_J196 (N : Nat) (i3 : Int32) (t0 : Int32) (S : zm_S) : Option (Int32 × zm_S) := some ((t0 - i3), S)
set_option maxHeartbeats 4000000 in
set_option maxRecDepth 100000 in
theorem zt_X16_along_J196 {p : Program} {l : Launch} {e : Env} {R : Room} {s : State} {m : MethodId} {args : Array Value} {below : List Frame} {meth : Method} {c : Code} {V : zm_V} {mc ms d rc rs : Nat} (hX : zm_X p R s m args meth c RX16 "along" cX16_along 5 zk_E V mc ms) (hr : meth.sig.returnType = (some .int)) (hR : R.frames = d ∧ R.locals = 64 * d) (hd : 2 ≤ d) {N : Nat} {i3 : Int32} {t0 : Int32} {out : (Int32 × zm_S)} {S : zm_S} (h : zf_X16_along_J196 N i3 t0 S = some out) : zw p l e R s m args below meth c (vx_MQ below (zm_Qc zk_E V (zo_i out)) (zm_XC zk_E V zo_x) args s mc ms (fun q => V.2.2.2.1 ≤ q)) 5 zk_E V mc ms 196 [(3, .int i3)] [.int t0] S rc rs := by
  unfold zf_X16_along_J196 at h
  refine zw_istore hX dX16_along_196 (by decide) ?_
  refine zw_iload hX dX16_along_198 rfl ?_
  refine zw_iload_n hX dX16_along_200 rfl ?_
  refine zw_isub hX dX16_along_201 ?_
  obtain rfl := Option.some.inj h
  exact zw_iret hX hr dX16_along_202 rfl ⟨rfl, rfl⟩
def zf_X16_along_J131 (N : Nat) (a0 : Nat) (i1 : Int32) (i2 : Int32) (t0 : Int32) (S : zm_S) : Option (Int32 × zm_S) := (zg_r S a0 16 3).bind (fun b19 => (za_x S 2 b19 i1).bind (fun v20 => if v20 = 0 then (zi S a0 16).bind (fun _ => (zf_X16_highY N a0 i1 S).bind (fun r23 => (zi r23.2 a0 16).bind (fun _ => (zf_X16_highY N a0 i2 r23.2).bind (fun r26 => if r26.1 ≤ r23.1 then (zi r26.2 a0 16).bind (fun _ => (zf_X16_highY N a0 i2 r26.2).bind (fun r29 => zf_X16_along_J196 N t0 r29.1 r29.2)) else (zi r26.2 a0 16).bind (fun _ => (zf_X16_highY N a0 i1 r26.2).bind (fun r32 => zf_X16_along_J196 N t0 r32.1 r32.2)))))) else (zi S a0 16).bind (fun _ => (zf_X16_highX N a0 i1 S).bind (fun r35 => (zi r35.2 a0 16).bind (fun _ => (zf_X16_highX N a0 i2 r35.2).bind (fun r38 => if r38.1 ≤ r35.1 then (zi r38.2 a0 16).bind (fun _ => (zf_X16_highX N a0 i2 r38.2).bind (fun r41 => zf_X16_along_J196 N t0 r41.1 r41.2)) else (zi r38.2 a0 16).bind (fun _ => (zf_X16_highX N a0 i1 r38.2).bind (fun r44 => zf_X16_along_J196 N t0 r44.1 r44.2))))))))
set_option maxHeartbeats 4000000 in
set_option maxRecDepth 100000 in
theorem zt_X16_along_J131 {p : Program} {l : Launch} {e : Env} {R : Room} {s : State} {m : MethodId} {args : Array Value} {below : List Frame} {meth : Method} {c : Code} {V : zm_V} {mc ms d rc rs : Nat} (hX : zm_X p R s m args meth c RX16 "along" cX16_along 5 zk_E V mc ms) (hr : meth.sig.returnType = (some .int)) (hR : R.frames = d ∧ R.locals = 64 * d) (hd : 2 ≤ d) {N : Nat} {a0 : Nat} {i1 : Int32} {i2 : Int32} {t0 : Int32} {out : (Int32 × zm_S)} {S : zm_S} (h : zf_X16_along_J131 N a0 i1 i2 t0 S = some out) : zw p l e R s m args below meth c (vx_MQ below (zm_Qc zk_E V (zo_i out)) (zm_XC zk_E V zo_x) args s mc ms (fun q => V.2.2.2.1 ≤ q)) 5 zk_E V mc ms 131 [(0, .ref a0), (1, .int i1), (2, .int i2)] [.int t0] S rc rs := by
  unfold zf_X16_along_J131 at h
  refine zw_istore_n hX dX16_along_131 (by decide) ?_
  refine zw_aload_n hX dX16_along_132 rfl ?_
  obtain ⟨b19, g, h⟩ := zb_some h
  refine zw_getr hX zl_X16_16 dX16_along_133 g ?_
  refine zw_iload_n hX dX16_along_136 rfl ?_
  obtain ⟨v20, g, h⟩ := zb_some h
  refine zw_xz hX dX16_along_137 g ?_
  refine zw_if_eq (tgt := 170) hX dX16_along_138 (by decide) (fun c138 => ?_) (fun c138 => ?_)
  · rw [if_pos c138] at h
    refine zw_aload_n hX dX16_along_170 rfl ?_
    refine zw_iload_n hX dX16_along_171 rfl ?_
    obtain ⟨_, gi, h⟩ := zb_some h
    obtain ⟨r23, g, h⟩ := zb_some h
    refine zc_Vi (as := [.int i1]) hX gi (zt_X16_highY (d := d - 1) (by omega) g) zl_X16_93 rfl dX16_along_172 ⟨rfl, rfl, Nat.le_of_ble_eq_true rfl⟩ ⟨by omega, by omega⟩ ?_
    refine zw_aload_n hX dX16_along_175 rfl ?_
    refine zw_iload_n hX dX16_along_176 rfl ?_
    obtain ⟨_, gi, h⟩ := zb_some h
    obtain ⟨r26, g, h⟩ := zb_some h
    refine zc_Vi (as := [.int i2]) hX gi (zt_X16_highY (d := d - 1) (by omega) g) zl_X16_93 rfl dX16_along_177 ⟨rfl, rfl, Nat.le_of_ble_eq_true rfl⟩ ⟨by omega, by omega⟩ ?_
    refine zw_icmp_ge (tgt := 191) hX dX16_along_180 (by decide) (fun c180 => ?_) (fun c180 => ?_)
    · rw [if_pos c180] at h
      refine zw_aload_n hX dX16_along_191 rfl ?_
      refine zw_iload_n hX dX16_along_192 rfl ?_
      obtain ⟨_, gi, h⟩ := zb_some h
      obtain ⟨r29, g, h⟩ := zb_some h
      refine zc_Vi (as := [.int i2]) hX gi (zt_X16_highY (d := d - 1) (by omega) g) zl_X16_93 rfl dX16_along_193 ⟨rfl, rfl, Nat.le_of_ble_eq_true rfl⟩ ⟨by omega, by omega⟩ ?_
      refine zw_sub (lv' := [(3, .int t0)]) (List.forall_mem_cons.mpr ⟨rfl, zs_nil⟩) ?_
      exact zt_X16_along_J196 hX hr hR hd h
    · rw [if_neg c180] at h
      refine zw_aload_n hX dX16_along_183 rfl ?_
      refine zw_iload_n hX dX16_along_184 rfl ?_
      obtain ⟨_, gi, h⟩ := zb_some h
      obtain ⟨r32, g, h⟩ := zb_some h
      refine zc_Vi (as := [.int i1]) hX gi (zt_X16_highY (d := d - 1) (by omega) g) zl_X16_93 rfl dX16_along_185 ⟨rfl, rfl, Nat.le_of_ble_eq_true rfl⟩ ⟨by omega, by omega⟩ ?_
      refine zw_goto (tgt := 196) hX dX16_along_188 (by decide) ?_
      refine zw_sub (lv' := [(3, .int t0)]) (List.forall_mem_cons.mpr ⟨rfl, zs_nil⟩) ?_
      exact zt_X16_along_J196 hX hr hR hd h
  · rw [if_neg c138] at h
    refine zw_aload_n hX dX16_along_141 rfl ?_
    refine zw_iload_n hX dX16_along_142 rfl ?_
    obtain ⟨_, gi, h⟩ := zb_some h
    obtain ⟨r35, g, h⟩ := zb_some h
    refine zc_Vi (as := [.int i1]) hX gi (zt_X16_highX (d := d - 1) (by omega) g) zl_X16_89 rfl dX16_along_143 ⟨rfl, rfl, Nat.le_of_ble_eq_true rfl⟩ ⟨by omega, by omega⟩ ?_
    refine zw_aload_n hX dX16_along_146 rfl ?_
    refine zw_iload_n hX dX16_along_147 rfl ?_
    obtain ⟨_, gi, h⟩ := zb_some h
    obtain ⟨r38, g, h⟩ := zb_some h
    refine zc_Vi (as := [.int i2]) hX gi (zt_X16_highX (d := d - 1) (by omega) g) zl_X16_89 rfl dX16_along_148 ⟨rfl, rfl, Nat.le_of_ble_eq_true rfl⟩ ⟨by omega, by omega⟩ ?_
    refine zw_icmp_ge (tgt := 162) hX dX16_along_151 (by decide) (fun c151 => ?_) (fun c151 => ?_)
    · rw [if_pos c151] at h
      refine zw_aload_n hX dX16_along_162 rfl ?_
      refine zw_iload_n hX dX16_along_163 rfl ?_
      obtain ⟨_, gi, h⟩ := zb_some h
      obtain ⟨r41, g, h⟩ := zb_some h
      refine zc_Vi (as := [.int i2]) hX gi (zt_X16_highX (d := d - 1) (by omega) g) zl_X16_89 rfl dX16_along_164 ⟨rfl, rfl, Nat.le_of_ble_eq_true rfl⟩ ⟨by omega, by omega⟩ ?_
      refine zw_goto (tgt := 196) hX dX16_along_167 (by decide) ?_
      refine zw_sub (lv' := [(3, .int t0)]) (List.forall_mem_cons.mpr ⟨rfl, zs_nil⟩) ?_
      exact zt_X16_along_J196 hX hr hR hd h
    · rw [if_neg c151] at h
      refine zw_aload_n hX dX16_along_154 rfl ?_
      refine zw_iload_n hX dX16_along_155 rfl ?_
      obtain ⟨_, gi, h⟩ := zb_some h
      obtain ⟨r44, g, h⟩ := zb_some h
      refine zc_Vi (as := [.int i1]) hX gi (zt_X16_highX (d := d - 1) (by omega) g) zl_X16_89 rfl dX16_along_156 ⟨rfl, rfl, Nat.le_of_ble_eq_true rfl⟩ ⟨by omega, by omega⟩ ?_
      refine zw_goto (tgt := 196) hX dX16_along_159 (by decide) ?_
      refine zw_sub (lv' := [(3, .int t0)]) (List.forall_mem_cons.mpr ⟨rfl, zs_nil⟩) ?_
      exact zt_X16_along_J196 hX hr hR hd h
def zf_X16_along_J59 (N : Nat) (a0 : Nat) (i1 : Int32) (i2 : Int32) (S : zm_S) : Option (Int32 × zm_S) := (zg_r S a0 16 3).bind (fun b11 => (za_x S 2 b11 i1).bind (fun v12 => if v12 = 0 then (zg_r S a0 16 2).bind (fun b13 => (za_x S 0 b13 i1).bind (fun v14 => (zg_r S a0 16 2).bind (fun b15 => (za_x S 0 b15 i2).bind (fun v16 => if v14 ≤ v16 then (zg_r S a0 16 2).bind (fun b17 => (za_x S 0 b17 i2).bind (fun v18 => zf_X16_along_J131 N a0 i1 i2 v18 S)) else (zg_r S a0 16 2).bind (fun b45 => (za_x S 0 b45 i1).bind (fun v46 => zf_X16_along_J131 N a0 i1 i2 v46 S)))))) else (zg_r S a0 16 1).bind (fun b47 => (za_x S 0 b47 i1).bind (fun v48 => (zg_r S a0 16 1).bind (fun b49 => (za_x S 0 b49 i2).bind (fun v50 => if v48 ≤ v50 then (zg_r S a0 16 1).bind (fun b51 => (za_x S 0 b51 i2).bind (fun v52 => zf_X16_along_J131 N a0 i1 i2 v52 S)) else (zg_r S a0 16 1).bind (fun b53 => (za_x S 0 b53 i1).bind (fun v54 => zf_X16_along_J131 N a0 i1 i2 v54 S))))))))
set_option maxHeartbeats 4000000 in
set_option maxRecDepth 100000 in
theorem zt_X16_along_J59 {p : Program} {l : Launch} {e : Env} {R : Room} {s : State} {m : MethodId} {args : Array Value} {below : List Frame} {meth : Method} {c : Code} {V : zm_V} {mc ms d rc rs : Nat} (hX : zm_X p R s m args meth c RX16 "along" cX16_along 5 zk_E V mc ms) (hr : meth.sig.returnType = (some .int)) (hR : R.frames = d ∧ R.locals = 64 * d) (hd : 2 ≤ d) {N : Nat} {a0 : Nat} {i1 : Int32} {i2 : Int32} {out : (Int32 × zm_S)} {S : zm_S} (h : zf_X16_along_J59 N a0 i1 i2 S = some out) : zw p l e R s m args below meth c (vx_MQ below (zm_Qc zk_E V (zo_i out)) (zm_XC zk_E V zo_x) args s mc ms (fun q => V.2.2.2.1 ≤ q)) 5 zk_E V mc ms 59 [(0, .ref a0), (1, .int i1), (2, .int i2)] [] S rc rs := by
  unfold zf_X16_along_J59 at h
  refine zw_aload_n hX dX16_along_59 rfl ?_
  obtain ⟨b11, g, h⟩ := zb_some h
  refine zw_getr hX zl_X16_16 dX16_along_60 g ?_
  refine zw_iload_n hX dX16_along_63 rfl ?_
  obtain ⟨v12, g, h⟩ := zb_some h
  refine zw_xz hX dX16_along_64 g ?_
  refine zw_if_eq (tgt := 101) hX dX16_along_65 (by decide) (fun c65 => ?_) (fun c65 => ?_)
  · rw [if_pos c65] at h
    refine zw_aload_n hX dX16_along_101 rfl ?_
    obtain ⟨b13, g, h⟩ := zb_some h
    refine zw_getr hX zl_X16_13 dX16_along_102 g ?_
    refine zw_iload_n hX dX16_along_105 rfl ?_
    obtain ⟨v14, g, h⟩ := zb_some h
    refine zw_xi hX dX16_along_106 g ?_
    refine zw_aload_n hX dX16_along_107 rfl ?_
    obtain ⟨b15, g, h⟩ := zb_some h
    refine zw_getr hX zl_X16_13 dX16_along_108 g ?_
    refine zw_iload_n hX dX16_along_111 rfl ?_
    obtain ⟨v16, g, h⟩ := zb_some h
    refine zw_xi hX dX16_along_112 g ?_
    refine zw_icmp_le (tgt := 125) hX dX16_along_113 (by decide) (fun c113 => ?_) (fun c113 => ?_)
    · rw [if_pos c113] at h
      refine zw_aload_n hX dX16_along_125 rfl ?_
      obtain ⟨b17, g, h⟩ := zb_some h
      refine zw_getr hX zl_X16_13 dX16_along_126 g ?_
      refine zw_iload_n hX dX16_along_129 rfl ?_
      obtain ⟨v18, g, h⟩ := zb_some h
      refine zw_xi hX dX16_along_130 g ?_
      refine zw_sub (lv' := [(0, .ref a0), (1, .int i1), (2, .int i2)]) (List.forall_mem_cons.mpr ⟨rfl, (List.forall_mem_cons.mpr ⟨rfl, (List.forall_mem_cons.mpr ⟨rfl, zs_nil⟩)⟩)⟩) ?_
      exact zt_X16_along_J131 hX hr hR hd h
    · rw [if_neg c113] at h
      refine zw_aload_n hX dX16_along_116 rfl ?_
      obtain ⟨b45, g, h⟩ := zb_some h
      refine zw_getr hX zl_X16_13 dX16_along_117 g ?_
      refine zw_iload_n hX dX16_along_120 rfl ?_
      obtain ⟨v46, g, h⟩ := zb_some h
      refine zw_xi hX dX16_along_121 g ?_
      refine zw_goto (tgt := 131) hX dX16_along_122 (by decide) ?_
      refine zw_sub (lv' := [(0, .ref a0), (1, .int i1), (2, .int i2)]) (List.forall_mem_cons.mpr ⟨rfl, (List.forall_mem_cons.mpr ⟨rfl, (List.forall_mem_cons.mpr ⟨rfl, zs_nil⟩)⟩)⟩) ?_
      exact zt_X16_along_J131 hX hr hR hd h
  · rw [if_neg c65] at h
    refine zw_aload_n hX dX16_along_68 rfl ?_
    obtain ⟨b47, g, h⟩ := zb_some h
    refine zw_getr hX zl_X16_7 dX16_along_69 g ?_
    refine zw_iload_n hX dX16_along_72 rfl ?_
    obtain ⟨v48, g, h⟩ := zb_some h
    refine zw_xi hX dX16_along_73 g ?_
    refine zw_aload_n hX dX16_along_74 rfl ?_
    obtain ⟨b49, g, h⟩ := zb_some h
    refine zw_getr hX zl_X16_7 dX16_along_75 g ?_
    refine zw_iload_n hX dX16_along_78 rfl ?_
    obtain ⟨v50, g, h⟩ := zb_some h
    refine zw_xi hX dX16_along_79 g ?_
    refine zw_icmp_le (tgt := 92) hX dX16_along_80 (by decide) (fun c80 => ?_) (fun c80 => ?_)
    · rw [if_pos c80] at h
      refine zw_aload_n hX dX16_along_92 rfl ?_
      obtain ⟨b51, g, h⟩ := zb_some h
      refine zw_getr hX zl_X16_7 dX16_along_93 g ?_
      refine zw_iload_n hX dX16_along_96 rfl ?_
      obtain ⟨v52, g, h⟩ := zb_some h
      refine zw_xi hX dX16_along_97 g ?_
      refine zw_goto (tgt := 131) hX dX16_along_98 (by decide) ?_
      refine zw_sub (lv' := [(0, .ref a0), (1, .int i1), (2, .int i2)]) (List.forall_mem_cons.mpr ⟨rfl, (List.forall_mem_cons.mpr ⟨rfl, (List.forall_mem_cons.mpr ⟨rfl, zs_nil⟩)⟩)⟩) ?_
      exact zt_X16_along_J131 hX hr hR hd h
    · rw [if_neg c80] at h
      refine zw_aload_n hX dX16_along_83 rfl ?_
      obtain ⟨b53, g, h⟩ := zb_some h
      refine zw_getr hX zl_X16_7 dX16_along_84 g ?_
      refine zw_iload_n hX dX16_along_87 rfl ?_
      obtain ⟨v54, g, h⟩ := zb_some h
      refine zw_xi hX dX16_along_88 g ?_
      refine zw_goto (tgt := 131) hX dX16_along_89 (by decide) ?_
      refine zw_sub (lv' := [(0, .ref a0), (1, .int i1), (2, .int i2)]) (List.forall_mem_cons.mpr ⟨rfl, (List.forall_mem_cons.mpr ⟨rfl, (List.forall_mem_cons.mpr ⟨rfl, zs_nil⟩)⟩)⟩) ?_
      exact zt_X16_along_J131 hX hr hR hd h
def zf_X16_along (N : Nat) (a0 : Nat) (i1 : Int32) (i2 : Int32) (S : zm_S) : Option (Int32 × zm_S) := (zg_r S a0 16 3).bind (fun b1 => (za_x S 2 b1 i1).bind (fun v2 => (zg_r S a0 16 3).bind (fun b3 => (za_x S 2 b3 i2).bind (fun v4 => if v2 = v4 then (zg_r S a0 16 3).bind (fun b5 => (za_x S 2 b5 i1).bind (fun v6 => if v6 = 0 then (zg_r S a0 16 1).bind (fun b7 => (za_x S 0 b7 i1).bind (fun v8 => (zg_r S a0 16 1).bind (fun b9 => (za_x S 0 b9 i2).bind (fun v10 => if v8 = v10 then zf_X16_along_J59 N a0 i1 i2 S else some ((-1 : Int32), S))))) else (zg_r S a0 16 2).bind (fun b55 => (za_x S 0 b55 i1).bind (fun v56 => (zg_r S a0 16 2).bind (fun b57 => (za_x S 0 b57 i2).bind (fun v58 => if v56 = v58 then zf_X16_along_J59 N a0 i1 i2 S else some ((-1 : Int32), S))))))) else some ((-1 : Int32), S)))))
set_option maxHeartbeats 4000000 in
set_option maxRecDepth 100000 in
theorem zt_X16_along {l : Launch} {V : zm_V} {N : Nat} {S : zm_S} {out : (Int32 × zm_S)} {d : Nat} {a0 : Nat} {i1 : Int32} {i2 : Int32} (hd : 2 ≤ d) (h : zf_X16_along N a0 i1 i2 S = some out) : zm_Met l zk_E V yX16_along (.code yX16_along cX16_along 5 (some .int)) d [.ref a0, .int i1, .int i2] S 0 0 (zo_i out) zo_x := by
  refine zm_of (by decide +kernel) (Nat.le_of_ble_eq_true rfl) ?_
  intro p e R s m args below meth c hRR hX hr hxt
  have hR : R.frames = d ∧ R.locals = 64 * d := by rw [hRR]; exact ⟨rfl, rfl⟩
  have hX : zm_X p R s m args meth c RX16 "along" cX16_along 5 zk_E V 0 0 := hX
  unfold zf_X16_along at h
  refine zw_sub (lv' := [(0, .ref a0), (1, .int i1), (2, .int i2)]) (List.forall_mem_cons.mpr ⟨rfl, (List.forall_mem_cons.mpr ⟨rfl, (List.forall_mem_cons.mpr ⟨rfl, zs_nil⟩)⟩)⟩) ?_
  refine zw_aload_n hX dX16_along_0 rfl ?_
  obtain ⟨b1, g, h⟩ := zb_some h
  refine zw_getr hX zl_X16_16 dX16_along_1 g ?_
  refine zw_iload_n hX dX16_along_4 rfl ?_
  obtain ⟨v2, g, h⟩ := zb_some h
  refine zw_xz hX dX16_along_5 g ?_
  refine zw_aload_n hX dX16_along_6 rfl ?_
  obtain ⟨b3, g, h⟩ := zb_some h
  refine zw_getr hX zl_X16_16 dX16_along_7 g ?_
  refine zw_iload_n hX dX16_along_10 rfl ?_
  obtain ⟨v4, g, h⟩ := zb_some h
  refine zw_xz hX dX16_along_11 g ?_
  refine zw_icmp_ne (tgt := 57) hX dX16_along_12 (by decide) (fun c12 => ?_) (fun c12 => ?_)
  · rw [if_neg c12] at h
    refine zw_iconst (v := (-1 : Int32)) hX dX16_along_57 (by decide) ?_
    obtain rfl := Option.some.inj h
    exact zw_iret hX hr dX16_along_58 rfl ⟨rfl, rfl⟩
  · rw [if_pos c12] at h
    refine zw_aload_n hX dX16_along_15 rfl ?_
    obtain ⟨b5, g, h⟩ := zb_some h
    refine zw_getr hX zl_X16_16 dX16_along_16 g ?_
    refine zw_iload_n hX dX16_along_19 rfl ?_
    obtain ⟨v6, g, h⟩ := zb_some h
    refine zw_xz hX dX16_along_20 g ?_
    refine zw_if_eq (tgt := 42) hX dX16_along_21 (by decide) (fun c21 => ?_) (fun c21 => ?_)
    · rw [if_pos c21] at h
      refine zw_aload_n hX dX16_along_42 rfl ?_
      obtain ⟨b7, g, h⟩ := zb_some h
      refine zw_getr hX zl_X16_7 dX16_along_43 g ?_
      refine zw_iload_n hX dX16_along_46 rfl ?_
      obtain ⟨v8, g, h⟩ := zb_some h
      refine zw_xi hX dX16_along_47 g ?_
      refine zw_aload_n hX dX16_along_48 rfl ?_
      obtain ⟨b9, g, h⟩ := zb_some h
      refine zw_getr hX zl_X16_7 dX16_along_49 g ?_
      refine zw_iload_n hX dX16_along_52 rfl ?_
      obtain ⟨v10, g, h⟩ := zb_some h
      refine zw_xi hX dX16_along_53 g ?_
      refine zw_icmp_eq (tgt := 59) hX dX16_along_54 (by decide) (fun c54 => ?_) (fun c54 => ?_)
      · rw [if_pos c54] at h
        refine zw_sub (lv' := [(0, .ref a0), (1, .int i1), (2, .int i2)]) (List.forall_mem_cons.mpr ⟨rfl, (List.forall_mem_cons.mpr ⟨rfl, (List.forall_mem_cons.mpr ⟨rfl, zs_nil⟩)⟩)⟩) ?_
        exact zt_X16_along_J59 hX hr hR hd h
      · rw [if_neg c54] at h
        refine zw_iconst (v := (-1 : Int32)) hX dX16_along_57 (by decide) ?_
        obtain rfl := Option.some.inj h
        exact zw_iret hX hr dX16_along_58 rfl ⟨rfl, rfl⟩
    · rw [if_neg c21] at h
      refine zw_aload_n hX dX16_along_24 rfl ?_
      obtain ⟨b55, g, h⟩ := zb_some h
      refine zw_getr hX zl_X16_13 dX16_along_25 g ?_
      refine zw_iload_n hX dX16_along_28 rfl ?_
      obtain ⟨v56, g, h⟩ := zb_some h
      refine zw_xi hX dX16_along_29 g ?_
      refine zw_aload_n hX dX16_along_30 rfl ?_
      obtain ⟨b57, g, h⟩ := zb_some h
      refine zw_getr hX zl_X16_13 dX16_along_31 g ?_
      refine zw_iload_n hX dX16_along_34 rfl ?_
      obtain ⟨v58, g, h⟩ := zb_some h
      refine zw_xi hX dX16_along_35 g ?_
      refine zw_icmp_eq (tgt := 59) hX dX16_along_36 (by decide) (fun c36 => ?_) (fun c36 => ?_)
      · rw [if_pos c36] at h
        refine zw_sub (lv' := [(0, .ref a0), (1, .int i1), (2, .int i2)]) (List.forall_mem_cons.mpr ⟨rfl, (List.forall_mem_cons.mpr ⟨rfl, (List.forall_mem_cons.mpr ⟨rfl, zs_nil⟩)⟩)⟩) ?_
        exact zt_X16_along_J59 hX hr hR hd h
      · rw [if_neg c36] at h
        refine zw_goto (tgt := 57) hX dX16_along_39 (by decide) ?_
        refine zw_iconst (v := (-1 : Int32)) hX dX16_along_57 (by decide) ?_
        obtain rfl := Option.some.inj h
        exact zw_iret hX hr dX16_along_58 rfl ⟨rfl, rfl⟩
def zf_X16_isAlone_J35 (N : Nat) (k : Nat → Int32 → Int32 → Int32 → zm_S → Option ((Int32 × zm_S) ⊕ ((Int32) × zm_S))) (a0 : Nat) (i1 : Int32) (i3 : Int32) (S : zm_S) : Option ((Int32 × zm_S) ⊕ ((Int32) × zm_S)) := k a0 i1 (0 : Int32) (i3 + (1 : Int32)) S
set_option maxHeartbeats 4000000 in
set_option maxRecDepth 100000 in
theorem zt_X16_isAlone_J35 {p : Program} {l : Launch} {e : Env} {R : Room} {s : State} {m : MethodId} {args : Array Value} {below : List Frame} {meth : Method} {c : Code} {V : zm_V} {mc ms d rc rs : Nat} (hX : zm_X p R s m args meth c RX16 "isAlone" cX16_isAlone 4 zk_E V mc ms) (hr : meth.sig.returnType = (some .boolean)) (hR : R.frames = d ∧ R.locals = 64 * d) (hd : 3 ≤ d) {N : Nat} {k : Nat → Int32 → Int32 → Int32 → zm_S → Option ((Int32 × zm_S) ⊕ ((Int32) × zm_S))} {a0 : Nat} {i1 : Int32} {i3 : Int32} {res : (Int32 × zm_S) ⊕ ((Int32) × zm_S)} {out : (Int32 × zm_S)}   (hf : ∀ o, res = .inl o → o = out) (hk : ∀ (x2 : Int32) (S' : zm_S), res = .inr (x2, S') → zw p l e R s m args below meth c (vx_MQ below (zm_Qc zk_E V (zo_i out)) (zm_XC zk_E V zo_x) args s mc ms (fun q => V.2.2.2.1 ≤ q)) 4 zk_E V mc ms 43 [(2, .int x2)] [] S' rc rs) (hrec : ∀ (i2' : Int32) (i3' : Int32) (S : zm_S), k a0 i1 i2' i3' S = some res → zw p l e R s m args below meth c (vx_MQ below (zm_Qc zk_E V (zo_i out)) (zm_XC zk_E V zo_x) args s mc ms (fun q => V.2.2.2.1 ≤ q)) 4 zk_E V mc ms 4 [(0, .ref a0), (1, .int i1), (2, .int i2'), (3, .int i3')] [] S rc rs) {S : zm_S} (h : zf_X16_isAlone_J35 N k a0 i1 i3 S = some res) : zw p l e R s m args below meth c (vx_MQ below (zm_Qc zk_E V (zo_i out)) (zm_XC zk_E V zo_x) args s mc ms (fun q => V.2.2.2.1 ≤ q)) 4 zk_E V mc ms 35 [(0, .ref a0), (1, .int i1), (3, .int i3)] [] S rc rs := by
  unfold zf_X16_isAlone_J35 at h
  refine zw_iconst (v := (0 : Int32)) hX dX16_isAlone_35 (by decide) ?_
  refine zw_istore_n hX dX16_isAlone_36 (by decide) ?_
  refine zw_iinc (v := (i3 + (1 : Int32))) hX dX16_isAlone_37 rfl rfl (by decide) ?_
  refine zw_goto (tgt := 4) hX dX16_isAlone_40 (by decide) ?_
  refine zw_sub (lv' := [(0, .ref a0), (1, .int i1), (2, .int (0 : Int32)), (3, .int (i3 + (1 : Int32)))]) (List.forall_mem_cons.mpr ⟨rfl, (List.forall_mem_cons.mpr ⟨rfl, (List.forall_mem_cons.mpr ⟨rfl, (List.forall_mem_cons.mpr ⟨rfl, zs_nil⟩)⟩)⟩)⟩) ?_
  exact hrec _ _ _ h
def zf_X16_isAlone_J31 (N : Nat) (k : Nat → Int32 → Int32 → Int32 → zm_S → Option ((Int32 × zm_S) ⊕ ((Int32) × zm_S))) (a0 : Nat) (i1 : Int32) (i3 : Int32) (S : zm_S) : Option ((Int32 × zm_S) ⊕ ((Int32) × zm_S)) := k a0 i1 (1 : Int32) (i3 + (1 : Int32)) S
set_option maxHeartbeats 4000000 in
set_option maxRecDepth 100000 in
theorem zt_X16_isAlone_J31 {p : Program} {l : Launch} {e : Env} {R : Room} {s : State} {m : MethodId} {args : Array Value} {below : List Frame} {meth : Method} {c : Code} {V : zm_V} {mc ms d rc rs : Nat} (hX : zm_X p R s m args meth c RX16 "isAlone" cX16_isAlone 4 zk_E V mc ms) (hr : meth.sig.returnType = (some .boolean)) (hR : R.frames = d ∧ R.locals = 64 * d) (hd : 3 ≤ d) {N : Nat} {k : Nat → Int32 → Int32 → Int32 → zm_S → Option ((Int32 × zm_S) ⊕ ((Int32) × zm_S))} {a0 : Nat} {i1 : Int32} {i3 : Int32} {res : (Int32 × zm_S) ⊕ ((Int32) × zm_S)} {out : (Int32 × zm_S)}   (hf : ∀ o, res = .inl o → o = out) (hk : ∀ (x2 : Int32) (S' : zm_S), res = .inr (x2, S') → zw p l e R s m args below meth c (vx_MQ below (zm_Qc zk_E V (zo_i out)) (zm_XC zk_E V zo_x) args s mc ms (fun q => V.2.2.2.1 ≤ q)) 4 zk_E V mc ms 43 [(2, .int x2)] [] S' rc rs) (hrec : ∀ (i2' : Int32) (i3' : Int32) (S : zm_S), k a0 i1 i2' i3' S = some res → zw p l e R s m args below meth c (vx_MQ below (zm_Qc zk_E V (zo_i out)) (zm_XC zk_E V zo_x) args s mc ms (fun q => V.2.2.2.1 ≤ q)) 4 zk_E V mc ms 4 [(0, .ref a0), (1, .int i1), (2, .int i2'), (3, .int i3')] [] S rc rs) {S : zm_S} (h : zf_X16_isAlone_J31 N k a0 i1 i3 S = some res) : zw p l e R s m args below meth c (vx_MQ below (zm_Qc zk_E V (zo_i out)) (zm_XC zk_E V zo_x) args s mc ms (fun q => V.2.2.2.1 ≤ q)) 4 zk_E V mc ms 31 [(0, .ref a0), (1, .int i1), (3, .int i3)] [] S rc rs := by
  unfold zf_X16_isAlone_J31 at h
  refine zw_iconst (v := (1 : Int32)) hX dX16_isAlone_31 (by decide) ?_
  refine zw_goto (tgt := 36) hX dX16_isAlone_32 (by decide) ?_
  refine zw_istore_n hX dX16_isAlone_36 (by decide) ?_
  refine zw_iinc (v := (i3 + (1 : Int32))) hX dX16_isAlone_37 rfl rfl (by decide) ?_
  refine zw_goto (tgt := 4) hX dX16_isAlone_40 (by decide) ?_
  refine zw_sub (lv' := [(0, .ref a0), (1, .int i1), (2, .int (1 : Int32)), (3, .int (i3 + (1 : Int32)))]) (List.forall_mem_cons.mpr ⟨rfl, (List.forall_mem_cons.mpr ⟨rfl, (List.forall_mem_cons.mpr ⟨rfl, (List.forall_mem_cons.mpr ⟨rfl, zs_nil⟩)⟩)⟩)⟩) ?_
  exact hrec _ _ _ h
def zf_X16_isAlone_L4 (N : Nat) : Nat → Nat → Int32 → Int32 → Int32 → zm_S → Option ((Int32 × zm_S) ⊕ ((Int32) × zm_S))
  | 0, _, _, _, _, _ => none
  | n + 1, a0, i1, i2, i3, S => (zg_i S a0 16 0).bind (fun v1 => if v1 ≤ i3 then some (.inr (i2, S)) else if i2 = 0 then zf_X16_isAlone_J35 N (zf_X16_isAlone_L4 N n) a0 i1 i3 S else if i3 = i1 then zf_X16_isAlone_J31 N (zf_X16_isAlone_L4 N n) a0 i1 i3 S else (zi S a0 16).bind (fun _ => (zf_X16_along N a0 i3 i1 S).bind (fun r4 => if (1 : Int32) ≤ r4.1 then zf_X16_isAlone_J35 N (zf_X16_isAlone_L4 N n) a0 i1 i3 r4.2 else zf_X16_isAlone_J31 N (zf_X16_isAlone_L4 N n) a0 i1 i3 r4.2)))
set_option maxHeartbeats 4000000 in
set_option maxRecDepth 100000 in
theorem zt_X16_isAlone_L4 {p : Program} {l : Launch} {e : Env} {R : Room} {s : State} {m : MethodId} {args : Array Value} {below : List Frame} {meth : Method} {c : Code} {V : zm_V} {mc ms d rc rs : Nat} (hX : zm_X p R s m args meth c RX16 "isAlone" cX16_isAlone 4 zk_E V mc ms) (hr : meth.sig.returnType = (some .boolean)) (hR : R.frames = d ∧ R.locals = 64 * d) (hd : 3 ≤ d) {N : Nat} {res : (Int32 × zm_S) ⊕ ((Int32) × zm_S)} {out : (Int32 × zm_S)} (a0 : Nat) (i1 : Int32) (hf : ∀ o, res = .inl o → o = out) (hk : ∀ (x2 : Int32) (S' : zm_S), res = .inr (x2, S') → zw p l e R s m args below meth c (vx_MQ below (zm_Qc zk_E V (zo_i out)) (zm_XC zk_E V zo_x) args s mc ms (fun q => V.2.2.2.1 ≤ q)) 4 zk_E V mc ms 43 [(2, .int x2)] [] S' rc rs) : ∀ (n : Nat) (i2 : Int32) (i3 : Int32) (S : zm_S), zf_X16_isAlone_L4 N n a0 i1 i2 i3 S = some res → zw p l e R s m args below meth c (vx_MQ below (zm_Qc zk_E V (zo_i out)) (zm_XC zk_E V zo_x) args s mc ms (fun q => V.2.2.2.1 ≤ q)) 4 zk_E V mc ms 4 [(0, .ref a0), (1, .int i1), (2, .int i2), (3, .int i3)] [] S rc rs := by
  intro n
  induction n with
  | zero => intro i2 i3 S h; cases h
  | succ n ih =>
    intro i2 i3 S h
    rw [zf_X16_isAlone_L4] at h
    refine zw_iload_n hX dX16_isAlone_4 rfl ?_
    refine zw_aload_n hX dX16_isAlone_5 rfl ?_
    obtain ⟨v1, g, h⟩ := zb_some h
    refine zw_geti hX zl_X16_96 dX16_isAlone_6 g ?_
    refine zw_icmp_ge (tgt := 43) hX dX16_isAlone_9 (by decide) (fun c9 => ?_) (fun c9 => ?_)
    · rw [if_pos c9] at h
      refine zw_sub (lv' := [(2, .int i2)]) (List.forall_mem_cons.mpr ⟨rfl, zs_nil⟩) ?_
      exact hk _ _ (Option.some.inj h).symm
    · rw [if_neg c9] at h
      refine zw_iload_n hX dX16_isAlone_12 rfl ?_
      refine zw_if_eq (tgt := 35) hX dX16_isAlone_13 (by decide) (fun c13 => ?_) (fun c13 => ?_)
      · rw [if_pos c13] at h
        refine zw_sub (lv' := [(0, .ref a0), (1, .int i1), (3, .int i3)]) (List.forall_mem_cons.mpr ⟨rfl, (List.forall_mem_cons.mpr ⟨rfl, (List.forall_mem_cons.mpr ⟨rfl, zs_nil⟩)⟩)⟩) ?_
        exact zt_X16_isAlone_J35 hX hr hR hd hf hk ih h
      · rw [if_neg c13] at h
        refine zw_iload_n hX dX16_isAlone_16 rfl ?_
        refine zw_iload_n hX dX16_isAlone_17 rfl ?_
        refine zw_icmp_eq (tgt := 31) hX dX16_isAlone_18 (by decide) (fun c18 => ?_) (fun c18 => ?_)
        · rw [if_pos c18] at h
          refine zw_sub (lv' := [(0, .ref a0), (1, .int i1), (3, .int i3)]) (List.forall_mem_cons.mpr ⟨rfl, (List.forall_mem_cons.mpr ⟨rfl, (List.forall_mem_cons.mpr ⟨rfl, zs_nil⟩)⟩)⟩) ?_
          exact zt_X16_isAlone_J31 hX hr hR hd hf hk ih h
        · rw [if_neg c18] at h
          refine zw_aload_n hX dX16_isAlone_21 rfl ?_
          refine zw_iload_n hX dX16_isAlone_22 rfl ?_
          refine zw_iload_n hX dX16_isAlone_23 rfl ?_
          obtain ⟨_, gi, h⟩ := zb_some h
          obtain ⟨r4, g, h⟩ := zb_some h
          refine zc_Vi (as := [.int i3, .int i1]) hX gi (zt_X16_along (d := d - 1) (by omega) g) zl_X16_100 rfl dX16_isAlone_24 ⟨rfl, rfl, Nat.le_of_ble_eq_true rfl⟩ ⟨by omega, by omega⟩ ?_
          refine zw_iconst (v := (1 : Int32)) hX dX16_isAlone_27 (by decide) ?_
          refine zw_icmp_ge (tgt := 35) hX dX16_isAlone_28 (by decide) (fun c28 => ?_) (fun c28 => ?_)
          · rw [if_pos c28] at h
            refine zw_sub (lv' := [(0, .ref a0), (1, .int i1), (3, .int i3)]) (List.forall_mem_cons.mpr ⟨rfl, (List.forall_mem_cons.mpr ⟨rfl, (List.forall_mem_cons.mpr ⟨rfl, zs_nil⟩)⟩)⟩) ?_
            exact zt_X16_isAlone_J35 hX hr hR hd hf hk ih h
          · rw [if_neg c28] at h
            refine zw_sub (lv' := [(0, .ref a0), (1, .int i1), (3, .int i3)]) (List.forall_mem_cons.mpr ⟨rfl, (List.forall_mem_cons.mpr ⟨rfl, (List.forall_mem_cons.mpr ⟨rfl, zs_nil⟩)⟩)⟩) ?_
            exact zt_X16_isAlone_J31 hX hr hR hd hf hk ih h
def zf_X16_isAlone (N : Nat) (a0 : Nat) (i1 : Int32) (S : zm_S) : Option (Int32 × zm_S) := (zf_X16_isAlone_L4 N N a0 i1 (1 : Int32) (0 : Int32) S).bind (fun r => match r with | .inl o => some o | .inr (v6, S5) => if v6 = 0 ∨ v6 = 1 then some (v6, S5) else none)
set_option maxHeartbeats 4000000 in
set_option maxRecDepth 100000 in
theorem zt_X16_isAlone {l : Launch} {V : zm_V} {N : Nat} {S : zm_S} {out : (Int32 × zm_S)} {d : Nat} {a0 : Nat} {i1 : Int32} (hd : 3 ≤ d) (h : zf_X16_isAlone N a0 i1 S = some out) : zm_Met l zk_E V yX16_isAlone (.code yX16_isAlone cX16_isAlone 4 (some .boolean)) d [.ref a0, .int i1] S 0 0 (zo_i out) zo_x := by
  refine zm_of (by decide +kernel) (Nat.le_of_ble_eq_true rfl) ?_
  intro p e R s m args below meth c hRR hX hr hxt
  have hR : R.frames = d ∧ R.locals = 64 * d := by rw [hRR]; exact ⟨rfl, rfl⟩
  have hX : zm_X p R s m args meth c RX16 "isAlone" cX16_isAlone 4 zk_E V 0 0 := hX
  unfold zf_X16_isAlone at h
  refine zw_sub (lv' := [(0, .ref a0), (1, .int i1)]) (List.forall_mem_cons.mpr ⟨rfl, (List.forall_mem_cons.mpr ⟨rfl, zs_nil⟩)⟩) ?_
  refine zw_iconst (v := (1 : Int32)) hX dX16_isAlone_0 (by decide) ?_
  refine zw_istore_n hX dX16_isAlone_1 (by decide) ?_
  refine zw_iconst (v := (0 : Int32)) hX dX16_isAlone_2 (by decide) ?_
  refine zw_istore_n hX dX16_isAlone_3 (by decide) ?_
  obtain ⟨r, g, h⟩ := zb_some h
  refine zw_sub (lv' := [(0, .ref a0), (1, .int i1), (2, .int (1 : Int32)), (3, .int (0 : Int32))]) (List.forall_mem_cons.mpr ⟨rfl, (List.forall_mem_cons.mpr ⟨rfl, (List.forall_mem_cons.mpr ⟨rfl, (List.forall_mem_cons.mpr ⟨rfl, zs_nil⟩)⟩)⟩)⟩) ?_
  refine zt_X16_isAlone_L4 hX hr hR hd (res := r) (out := out) a0 i1 ?_ ?_ N _ _ _ g
  · intro o ho
    subst ho
    exact Option.some.inj h
  · intro v6 S5 hx
    subst hx
    try dsimp only at h
    refine zw_iload_n hX dX16_isAlone_43 rfl ?_
    by_cases cz : v6 = 0 ∨ v6 = 1
    · rw [if_pos cz] at h
      obtain rfl := Option.some.inj h
      exact zw_iret hX hr dX16_isAlone_44 (zn_z cz) ⟨rfl, rfl⟩
    · rw [if_neg cz] at h
      cases h
def zf_X16_isIn (N : Nat) (i0 : Int32) (S : zm_S) : Option (Int32 × zm_S) := if i0 < 0 then some ((0 : Int32), S) else if (24 : Int32) < i0 then some ((0 : Int32), S) else some ((1 : Int32), S)
set_option maxHeartbeats 4000000 in
set_option maxRecDepth 100000 in
theorem zt_X16_isIn {l : Launch} {V : zm_V} {N : Nat} {S : zm_S} {out : (Int32 × zm_S)} {d : Nat} {i0 : Int32} (hd : 1 ≤ d) (h : zf_X16_isIn N i0 S = some out) : zm_Met l zk_E V yX16_isIn (.code yX16_isIn cX16_isIn 1 (some .boolean)) d [.int i0] S 0 0 (zo_i out) zo_x := by
  refine zm_of (by decide +kernel) (Nat.le_of_ble_eq_true rfl) ?_
  intro p e R s m args below meth c hRR hX hr hxt
  have hR : R.frames = d ∧ R.locals = 64 * d := by rw [hRR]; exact ⟨rfl, rfl⟩
  have hX : zm_X p R s m args meth c RX16 "isIn" cX16_isIn 1 zk_E V 0 0 := hX
  unfold zf_X16_isIn at h
  refine zw_sub (lv' := [(0, .int i0)]) (List.forall_mem_cons.mpr ⟨rfl, zs_nil⟩) ?_
  refine zw_iload_n hX dX16_isIn_0 rfl ?_
  refine zw_if_lt (tgt := 14) hX dX16_isIn_1 (by decide) (fun c1 => ?_) (fun c1 => ?_)
  · rw [if_pos c1] at h
    refine zw_iconst (v := (0 : Int32)) hX dX16_isIn_14 (by decide) ?_
    obtain rfl := Option.some.inj h
    exact zw_iret hX hr dX16_isIn_15 rfl ⟨rfl, rfl⟩
  · rw [if_neg c1] at h
    refine zw_iload_n hX dX16_isIn_4 rfl ?_
    refine zw_bipush (v := (24 : Int32)) hX dX16_isIn_5 (by decide) ?_
    refine zw_icmp_gt (tgt := 14) hX dX16_isIn_7 (by decide) (fun c7 => ?_) (fun c7 => ?_)
    · rw [if_pos c7] at h
      refine zw_iconst (v := (0 : Int32)) hX dX16_isIn_14 (by decide) ?_
      obtain rfl := Option.some.inj h
      exact zw_iret hX hr dX16_isIn_15 rfl ⟨rfl, rfl⟩
    · rw [if_neg c7] at h
      refine zw_iconst (v := (1 : Int32)) hX dX16_isIn_10 (by decide) ?_
      refine zw_goto (tgt := 15) hX dX16_isIn_11 (by decide) ?_
      obtain rfl := Option.some.inj h
      exact zw_iret hX hr dX16_isIn_15 rfl ⟨rfl, rfl⟩
def zf_X16_lengthOf (N : Nat) (a0 : Nat) (i1 : Int32) (S : zm_S) : Option (Int32 × zm_S) := (zg_r S a0 16 4).bind (fun b1 => (za_x S 0 b1 i1).bind (fun v2 => some (v2, S)))
set_option maxHeartbeats 4000000 in
set_option maxRecDepth 100000 in
theorem zt_X16_lengthOf {l : Launch} {V : zm_V} {N : Nat} {S : zm_S} {out : (Int32 × zm_S)} {d : Nat} {a0 : Nat} {i1 : Int32} (hd : 1 ≤ d) (h : zf_X16_lengthOf N a0 i1 S = some out) : zm_Met l zk_E V yX16_lengthOf (.code yX16_lengthOf cX16_lengthOf 2 (some .int)) d [.ref a0, .int i1] S 0 0 (zo_i out) zo_x := by
  refine zm_of (by decide +kernel) (Nat.le_of_ble_eq_true rfl) ?_
  intro p e R s m args below meth c hRR hX hr hxt
  have hR : R.frames = d ∧ R.locals = 64 * d := by rw [hRR]; exact ⟨rfl, rfl⟩
  have hX : zm_X p R s m args meth c RX16 "lengthOf" cX16_lengthOf 2 zk_E V 0 0 := hX
  unfold zf_X16_lengthOf at h
  refine zw_sub (lv' := [(0, .ref a0), (1, .int i1)]) (List.forall_mem_cons.mpr ⟨rfl, (List.forall_mem_cons.mpr ⟨rfl, zs_nil⟩)⟩) ?_
  refine zw_aload_n hX dX16_lengthOf_0 rfl ?_
  obtain ⟨b1, g, h⟩ := zb_some h
  refine zw_getr hX zl_X16_20 dX16_lengthOf_1 g ?_
  refine zw_iload_n hX dX16_lengthOf_4 rfl ?_
  obtain ⟨v2, g, h⟩ := zb_some h
  refine zw_xi hX dX16_lengthOf_5 g ?_
  obtain rfl := Option.some.inj h
  exact zw_iret hX hr dX16_lengthOf_6 rfl ⟨rfl, rfl⟩
def zf_X16_line_J59 (N : Nat) (a0 : Nat) (i1 : Int32) (i2 : Int32) (i3 : Int32) (i4 : Int32) (t0 : Nat) (t1 : Int32) (t2 : Int32) (S : zm_S) : Option (Int32 × zm_S) := (zs_z S t0 t1 t2).bind (fun S9 => (zg_r S9 a0 16 4).bind (fun b10 => (zg_i S9 a0 16 0).bind (fun v11 => (zg_r S9 a0 16 1).bind (fun b12 => (zg_i S9 a0 16 0).bind (fun v13 => (za_x S9 0 b12 v13).bind (fun v14 => (zg_r S9 a0 16 2).bind (fun b15 => (zg_i S9 a0 16 0).bind (fun v16 => (za_x S9 0 b15 v16).bind (fun v17 => (zs_i S9 b10 v11 (((((i1 + i3) - ((2 : Int32) * v14)) + i2) + i4) - ((2 : Int32) * v17))).bind (fun S18 => (zg_r S18 a0 16 5).bind (fun b19 => (zg_i S18 a0 16 0).bind (fun v20 => (zs_i S18 b19 v20 (0 : Int32)).bind (fun S21 => (zg_i S21 a0 16 0).bind (fun v22 => (zi S21 a0 16).bind (fun _ => (zf_X16_isAlone N a0 v22 S21).bind (fun r25 => if r25.1 = 0 then some ((-1 : Int32), r25.2) else (zg_i r25.2 a0 16 0).bind (fun v26 => (zp r25.2 a0 16 0 (.int (v26 + (1 : Int32)))).bind (fun S27 => (zp S27 a0 16 10 (.int (0 : Int32))).bind (fun S28 => (zg_i S28 a0 16 0).bind (fun v29 => some ((v29 - (1 : Int32)), S28)))))))))))))))))))))
set_option maxHeartbeats 4000000 in
set_option maxRecDepth 100000 in
theorem zt_X16_line_J59 {p : Program} {l : Launch} {e : Env} {R : Room} {s : State} {m : MethodId} {args : Array Value} {below : List Frame} {meth : Method} {c : Code} {V : zm_V} {mc ms d rc rs : Nat} (hX : zm_X p R s m args meth c RX16 "line" cX16_line 5 zk_E V mc ms) (hr : meth.sig.returnType = (some .int)) (hR : R.frames = d ∧ R.locals = 64 * d) (hd : 4 ≤ d) {N : Nat} {a0 : Nat} {i1 : Int32} {i2 : Int32} {i3 : Int32} {i4 : Int32} {t0 : Nat} {t1 : Int32} {t2 : Int32} {out : (Int32 × zm_S)} {S : zm_S} (h : zf_X16_line_J59 N a0 i1 i2 i3 i4 t0 t1 t2 S = some out) : zw p l e R s m args below meth c (vx_MQ below (zm_Qc zk_E V (zo_i out)) (zm_XC zk_E V zo_x) args s mc ms (fun q => V.2.2.2.1 ≤ q)) 5 zk_E V mc ms 59 [(0, .ref a0), (1, .int i1), (2, .int i2), (3, .int i3), (4, .int i4)] [.int t2, .int t1, .ref t0] S rc rs := by
  unfold zf_X16_line_J59 at h
  obtain ⟨S9, g, h⟩ := zb_some h
  refine zw_sz hX dX16_line_59 g ?_
  refine zw_aload_n hX dX16_line_60 rfl ?_
  obtain ⟨b10, g, h⟩ := zb_some h
  refine zw_getr hX zl_X16_20 dX16_line_61 g ?_
  refine zw_aload_n hX dX16_line_64 rfl ?_
  obtain ⟨v11, g, h⟩ := zb_some h
  refine zw_geti hX zl_X16_96 dX16_line_65 g ?_
  refine zw_iload_n hX dX16_line_68 rfl ?_
  refine zw_iload_n hX dX16_line_69 rfl ?_
  refine zw_iadd hX dX16_line_70 ?_
  refine zw_iconst (v := (2 : Int32)) hX dX16_line_71 (by decide) ?_
  refine zw_aload_n hX dX16_line_72 rfl ?_
  obtain ⟨b12, g, h⟩ := zb_some h
  refine zw_getr hX zl_X16_7 dX16_line_73 g ?_
  refine zw_aload_n hX dX16_line_76 rfl ?_
  obtain ⟨v13, g, h⟩ := zb_some h
  refine zw_geti hX zl_X16_96 dX16_line_77 g ?_
  obtain ⟨v14, g, h⟩ := zb_some h
  refine zw_xi hX dX16_line_80 g ?_
  refine zw_imul hX dX16_line_81 ?_
  refine zw_isub hX dX16_line_82 ?_
  refine zw_iload_n hX dX16_line_83 rfl ?_
  refine zw_iadd hX dX16_line_84 ?_
  refine zw_iload hX dX16_line_85 rfl ?_
  refine zw_iadd hX dX16_line_87 ?_
  refine zw_iconst (v := (2 : Int32)) hX dX16_line_88 (by decide) ?_
  refine zw_aload_n hX dX16_line_89 rfl ?_
  obtain ⟨b15, g, h⟩ := zb_some h
  refine zw_getr hX zl_X16_13 dX16_line_90 g ?_
  refine zw_aload_n hX dX16_line_93 rfl ?_
  obtain ⟨v16, g, h⟩ := zb_some h
  refine zw_geti hX zl_X16_96 dX16_line_94 g ?_
  obtain ⟨v17, g, h⟩ := zb_some h
  refine zw_xi hX dX16_line_97 g ?_
  refine zw_imul hX dX16_line_98 ?_
  refine zw_isub hX dX16_line_99 ?_
  obtain ⟨S18, g, h⟩ := zb_some h
  refine zw_si hX dX16_line_100 g ?_
  refine zw_aload_n hX dX16_line_101 rfl ?_
  obtain ⟨b19, g, h⟩ := zb_some h
  refine zw_getr hX zl_X16_23 dX16_line_102 g ?_
  refine zw_aload_n hX dX16_line_105 rfl ?_
  obtain ⟨v20, g, h⟩ := zb_some h
  refine zw_geti hX zl_X16_96 dX16_line_106 g ?_
  refine zw_iconst (v := (0 : Int32)) hX dX16_line_109 (by decide) ?_
  obtain ⟨S21, g, h⟩ := zb_some h
  refine zw_si hX dX16_line_110 g ?_
  refine zw_aload_n hX dX16_line_111 rfl ?_
  refine zw_aload_n hX dX16_line_112 rfl ?_
  obtain ⟨v22, g, h⟩ := zb_some h
  refine zw_geti hX zl_X16_96 dX16_line_113 g ?_
  obtain ⟨_, gi, h⟩ := zb_some h
  obtain ⟨r25, g, h⟩ := zb_some h
  refine zc_Vi (as := [.int v22]) hX gi (zt_X16_isAlone (d := d - 1) (by omega) g) zl_X16_104 rfl dX16_line_116 ⟨rfl, rfl, Nat.le_of_ble_eq_true rfl⟩ ⟨by omega, by omega⟩ ?_
  refine zw_if_ne (tgt := 124) hX dX16_line_119 (by decide) (fun c119 => ?_) (fun c119 => ?_)
  · rw [if_neg c119] at h
    refine zw_aload_n hX dX16_line_124 rfl ?_
    refine zw_dup hX dX16_line_125 rfl ?_
    obtain ⟨v26, g, h⟩ := zb_some h
    refine zw_geti hX zl_X16_96 dX16_line_126 g ?_
    refine zw_iconst (v := (1 : Int32)) hX dX16_line_129 (by decide) ?_
    refine zw_iadd hX dX16_line_130 ?_
    obtain ⟨S27, g, h⟩ := zb_some h
    refine zw_putv hX zl_X16_96 zt_16_0 dX16_line_131 rfl rfl g ?_
    refine zw_aload_n hX dX16_line_134 rfl ?_
    refine zw_iconst (v := (0 : Int32)) hX dX16_line_135 (by decide) ?_
    obtain ⟨S28, g, h⟩ := zb_some h
    refine zw_putv hX zl_X16_108 zt_16_10 dX16_line_136 rfl (by decide) g ?_
    refine zw_aload_n hX dX16_line_139 rfl ?_
    obtain ⟨v29, g, h⟩ := zb_some h
    refine zw_geti hX zl_X16_96 dX16_line_140 g ?_
    refine zw_iconst (v := (1 : Int32)) hX dX16_line_143 (by decide) ?_
    refine zw_isub hX dX16_line_144 ?_
    obtain rfl := Option.some.inj h
    exact zw_iret hX hr dX16_line_145 rfl ⟨rfl, rfl⟩
  · rw [if_pos c119] at h
    refine zw_iconst (v := (-1 : Int32)) hX dX16_line_122 (by decide) ?_
    obtain rfl := Option.some.inj h
    exact zw_iret hX hr dX16_line_123 rfl ⟨rfl, rfl⟩
def zf_X16_line_J39 (N : Nat) (a0 : Nat) (i1 : Int32) (i2 : Int32) (i3 : Int32) (i4 : Int32) (t0 : Nat) (t1 : Int32) (t2 : Int32) (S : zm_S) : Option (Int32 × zm_S) := (zs_i S t0 t1 t2).bind (fun S6 => (zg_r S6 a0 16 3).bind (fun b7 => (zg_i S6 a0 16 0).bind (fun v8 => if i2 = i4 then zf_X16_line_J59 N a0 i1 i2 i3 i4 b7 v8 (1 : Int32) S6 else zf_X16_line_J59 N a0 i1 i2 i3 i4 b7 v8 (0 : Int32) S6)))
set_option maxHeartbeats 4000000 in
set_option maxRecDepth 100000 in
theorem zt_X16_line_J39 {p : Program} {l : Launch} {e : Env} {R : Room} {s : State} {m : MethodId} {args : Array Value} {below : List Frame} {meth : Method} {c : Code} {V : zm_V} {mc ms d rc rs : Nat} (hX : zm_X p R s m args meth c RX16 "line" cX16_line 5 zk_E V mc ms) (hr : meth.sig.returnType = (some .int)) (hR : R.frames = d ∧ R.locals = 64 * d) (hd : 4 ≤ d) {N : Nat} {a0 : Nat} {i1 : Int32} {i2 : Int32} {i3 : Int32} {i4 : Int32} {t0 : Nat} {t1 : Int32} {t2 : Int32} {out : (Int32 × zm_S)} {S : zm_S} (h : zf_X16_line_J39 N a0 i1 i2 i3 i4 t0 t1 t2 S = some out) : zw p l e R s m args below meth c (vx_MQ below (zm_Qc zk_E V (zo_i out)) (zm_XC zk_E V zo_x) args s mc ms (fun q => V.2.2.2.1 ≤ q)) 5 zk_E V mc ms 39 [(0, .ref a0), (1, .int i1), (2, .int i2), (3, .int i3), (4, .int i4)] [.int t2, .int t1, .ref t0] S rc rs := by
  unfold zf_X16_line_J39 at h
  obtain ⟨S6, g, h⟩ := zb_some h
  refine zw_si hX dX16_line_39 g ?_
  refine zw_aload_n hX dX16_line_40 rfl ?_
  obtain ⟨b7, g, h⟩ := zb_some h
  refine zw_getr hX zl_X16_16 dX16_line_41 g ?_
  refine zw_aload_n hX dX16_line_44 rfl ?_
  obtain ⟨v8, g, h⟩ := zb_some h
  refine zw_geti hX zl_X16_96 dX16_line_45 g ?_
  refine zw_iload_n hX dX16_line_48 rfl ?_
  refine zw_iload hX dX16_line_49 rfl ?_
  refine zw_icmp_ne (tgt := 58) hX dX16_line_51 (by decide) (fun c51 => ?_) (fun c51 => ?_)
  · rw [if_neg c51] at h
    refine zw_iconst (v := (0 : Int32)) hX dX16_line_58 (by decide) ?_
    refine zw_sub (lv' := [(0, .ref a0), (1, .int i1), (2, .int i2), (3, .int i3), (4, .int i4)]) (List.forall_mem_cons.mpr ⟨rfl, (List.forall_mem_cons.mpr ⟨rfl, (List.forall_mem_cons.mpr ⟨rfl, (List.forall_mem_cons.mpr ⟨rfl, (List.forall_mem_cons.mpr ⟨rfl, zs_nil⟩)⟩)⟩)⟩)⟩) ?_
    exact zt_X16_line_J59 hX hr hR hd h
  · rw [if_pos c51] at h
    refine zw_iconst (v := (1 : Int32)) hX dX16_line_54 (by decide) ?_
    refine zw_goto (tgt := 59) hX dX16_line_55 (by decide) ?_
    refine zw_sub (lv' := [(0, .ref a0), (1, .int i1), (2, .int i2), (3, .int i3), (4, .int i4)]) (List.forall_mem_cons.mpr ⟨rfl, (List.forall_mem_cons.mpr ⟨rfl, (List.forall_mem_cons.mpr ⟨rfl, (List.forall_mem_cons.mpr ⟨rfl, (List.forall_mem_cons.mpr ⟨rfl, zs_nil⟩)⟩)⟩)⟩)⟩) ?_
    exact zt_X16_line_J59 hX hr hR hd h
def zf_X16_line_J18 (N : Nat) (a0 : Nat) (i1 : Int32) (i2 : Int32) (i3 : Int32) (i4 : Int32) (t0 : Nat) (t1 : Int32) (t2 : Int32) (S : zm_S) : Option (Int32 × zm_S) := (zs_i S t0 t1 t2).bind (fun S3 => (zg_r S3 a0 16 2).bind (fun b4 => (zg_i S3 a0 16 0).bind (fun v5 => if i4 ≤ i2 then zf_X16_line_J39 N a0 i1 i2 i3 i4 b4 v5 i4 S3 else zf_X16_line_J39 N a0 i1 i2 i3 i4 b4 v5 i2 S3)))
set_option maxHeartbeats 4000000 in
set_option maxRecDepth 100000 in
theorem zt_X16_line_J18 {p : Program} {l : Launch} {e : Env} {R : Room} {s : State} {m : MethodId} {args : Array Value} {below : List Frame} {meth : Method} {c : Code} {V : zm_V} {mc ms d rc rs : Nat} (hX : zm_X p R s m args meth c RX16 "line" cX16_line 5 zk_E V mc ms) (hr : meth.sig.returnType = (some .int)) (hR : R.frames = d ∧ R.locals = 64 * d) (hd : 4 ≤ d) {N : Nat} {a0 : Nat} {i1 : Int32} {i2 : Int32} {i3 : Int32} {i4 : Int32} {t0 : Nat} {t1 : Int32} {t2 : Int32} {out : (Int32 × zm_S)} {S : zm_S} (h : zf_X16_line_J18 N a0 i1 i2 i3 i4 t0 t1 t2 S = some out) : zw p l e R s m args below meth c (vx_MQ below (zm_Qc zk_E V (zo_i out)) (zm_XC zk_E V zo_x) args s mc ms (fun q => V.2.2.2.1 ≤ q)) 5 zk_E V mc ms 18 [(0, .ref a0), (1, .int i1), (2, .int i2), (3, .int i3), (4, .int i4)] [.int t2, .int t1, .ref t0] S rc rs := by
  unfold zf_X16_line_J18 at h
  obtain ⟨S3, g, h⟩ := zb_some h
  refine zw_si hX dX16_line_18 g ?_
  refine zw_aload_n hX dX16_line_19 rfl ?_
  obtain ⟨b4, g, h⟩ := zb_some h
  refine zw_getr hX zl_X16_13 dX16_line_20 g ?_
  refine zw_aload_n hX dX16_line_23 rfl ?_
  obtain ⟨v5, g, h⟩ := zb_some h
  refine zw_geti hX zl_X16_96 dX16_line_24 g ?_
  refine zw_iload_n hX dX16_line_27 rfl ?_
  refine zw_iload hX dX16_line_28 rfl ?_
  refine zw_icmp_ge (tgt := 37) hX dX16_line_30 (by decide) (fun c30 => ?_) (fun c30 => ?_)
  · rw [if_pos c30] at h
    refine zw_iload hX dX16_line_37 rfl ?_
    refine zw_sub (lv' := [(0, .ref a0), (1, .int i1), (2, .int i2), (3, .int i3), (4, .int i4)]) (List.forall_mem_cons.mpr ⟨rfl, (List.forall_mem_cons.mpr ⟨rfl, (List.forall_mem_cons.mpr ⟨rfl, (List.forall_mem_cons.mpr ⟨rfl, (List.forall_mem_cons.mpr ⟨rfl, zs_nil⟩)⟩)⟩)⟩)⟩) ?_
    exact zt_X16_line_J39 hX hr hR hd h
  · rw [if_neg c30] at h
    refine zw_iload_n hX dX16_line_33 rfl ?_
    refine zw_goto (tgt := 39) hX dX16_line_34 (by decide) ?_
    refine zw_sub (lv' := [(0, .ref a0), (1, .int i1), (2, .int i2), (3, .int i3), (4, .int i4)]) (List.forall_mem_cons.mpr ⟨rfl, (List.forall_mem_cons.mpr ⟨rfl, (List.forall_mem_cons.mpr ⟨rfl, (List.forall_mem_cons.mpr ⟨rfl, (List.forall_mem_cons.mpr ⟨rfl, zs_nil⟩)⟩)⟩)⟩)⟩) ?_
    exact zt_X16_line_J39 hX hr hR hd h
def zf_X16_line (N : Nat) (a0 : Nat) (i1 : Int32) (i2 : Int32) (i3 : Int32) (i4 : Int32) (S : zm_S) : Option (Int32 × zm_S) := (zg_r S a0 16 1).bind (fun b1 => (zg_i S a0 16 0).bind (fun v2 => if i3 ≤ i1 then zf_X16_line_J18 N a0 i1 i2 i3 i4 b1 v2 i3 S else zf_X16_line_J18 N a0 i1 i2 i3 i4 b1 v2 i1 S))
set_option maxHeartbeats 4000000 in
set_option maxRecDepth 100000 in
theorem zt_X16_line {l : Launch} {V : zm_V} {N : Nat} {S : zm_S} {out : (Int32 × zm_S)} {d : Nat} {a0 : Nat} {i1 : Int32} {i2 : Int32} {i3 : Int32} {i4 : Int32} (hd : 4 ≤ d) (h : zf_X16_line N a0 i1 i2 i3 i4 S = some out) : zm_Met l zk_E V yX16_line (.code yX16_line cX16_line 5 (some .int)) d [.ref a0, .int i1, .int i2, .int i3, .int i4] S 0 0 (zo_i out) zo_x := by
  refine zm_of (by decide +kernel) (Nat.le_of_ble_eq_true rfl) ?_
  intro p e R s m args below meth c hRR hX hr hxt
  have hR : R.frames = d ∧ R.locals = 64 * d := by rw [hRR]; exact ⟨rfl, rfl⟩
  have hX : zm_X p R s m args meth c RX16 "line" cX16_line 5 zk_E V 0 0 := hX
  unfold zf_X16_line at h
  refine zw_sub (lv' := [(0, .ref a0), (1, .int i1), (2, .int i2), (3, .int i3), (4, .int i4)]) (List.forall_mem_cons.mpr ⟨rfl, (List.forall_mem_cons.mpr ⟨rfl, (List.forall_mem_cons.mpr ⟨rfl, (List.forall_mem_cons.mpr ⟨rfl, (List.forall_mem_cons.mpr ⟨rfl, zs_nil⟩)⟩)⟩)⟩)⟩) ?_
  refine zw_aload_n hX dX16_line_0 rfl ?_
  obtain ⟨b1, g, h⟩ := zb_some h
  refine zw_getr hX zl_X16_7 dX16_line_1 g ?_
  refine zw_aload_n hX dX16_line_4 rfl ?_
  obtain ⟨v2, g, h⟩ := zb_some h
  refine zw_geti hX zl_X16_96 dX16_line_5 g ?_
  refine zw_iload_n hX dX16_line_8 rfl ?_
  refine zw_iload_n hX dX16_line_9 rfl ?_
  refine zw_icmp_ge (tgt := 17) hX dX16_line_10 (by decide) (fun c10 => ?_) (fun c10 => ?_)
  · rw [if_pos c10] at h
    refine zw_iload_n hX dX16_line_17 rfl ?_
    refine zw_sub (lv' := [(0, .ref a0), (1, .int i1), (2, .int i2), (3, .int i3), (4, .int i4)]) (List.forall_mem_cons.mpr ⟨rfl, (List.forall_mem_cons.mpr ⟨rfl, (List.forall_mem_cons.mpr ⟨rfl, (List.forall_mem_cons.mpr ⟨rfl, (List.forall_mem_cons.mpr ⟨rfl, zs_nil⟩)⟩)⟩)⟩)⟩) ?_
    exact zt_X16_line_J18 hX hr hR hd h
  · rw [if_neg c10] at h
    refine zw_iload_n hX dX16_line_13 rfl ?_
    refine zw_goto (tgt := 18) hX dX16_line_14 (by decide) ?_
    refine zw_sub (lv' := [(0, .ref a0), (1, .int i1), (2, .int i2), (3, .int i3), (4, .int i4)]) (List.forall_mem_cons.mpr ⟨rfl, (List.forall_mem_cons.mpr ⟨rfl, (List.forall_mem_cons.mpr ⟨rfl, (List.forall_mem_cons.mpr ⟨rfl, (List.forall_mem_cons.mpr ⟨rfl, zs_nil⟩)⟩)⟩)⟩)⟩) ?_
    exact zt_X16_line_J18 hX hr hR hd h
def zf_X16_mayGo (N : Nat) (a0 : Nat) (i1 : Int32) (i2 : Int32) (i3 : Int32) (S : zm_S) : Option (Int32 × zm_S) := if i2 < (-24 : Int32) then some ((0 : Int32), S) else if (24 : Int32) < i2 then some ((0 : Int32), S) else if i3 < (-24 : Int32) then some ((0 : Int32), S) else if (24 : Int32) < i3 then some ((0 : Int32), S) else (zg_r S a0 16 1).bind (fun b1 => (za_x S 0 b1 i1).bind (fun v2 => (zf_X16_isIn N (v2 + i2) S).bind (fun r5 => if r5.1 = 0 then some ((0 : Int32), r5.2) else (zg_r r5.2 a0 16 2).bind (fun b6 => (za_x r5.2 0 b6 i1).bind (fun v7 => (zf_X16_isIn N (v7 + i3) r5.2).bind (fun r10 => if r10.1 = 0 then some ((0 : Int32), r10.2) else (zi r10.2 a0 16).bind (fun _ => (zf_X16_highX N a0 i1 r10.2).bind (fun r13 => (zf_X16_isIn N (r13.1 + i2) r13.2).bind (fun r16 => if r16.1 = 0 then some ((0 : Int32), r16.2) else (zi r16.2 a0 16).bind (fun _ => (zf_X16_highY N a0 i1 r16.2).bind (fun r19 => (zf_X16_isIn N (r19.1 + i3) r19.2).bind (fun r22 => if r22.1 = 0 then some ((0 : Int32), r22.2) else some ((1 : Int32), r22.2)))))))))))))
set_option maxHeartbeats 4000000 in
set_option maxRecDepth 100000 in
theorem zt_X16_mayGo {l : Launch} {V : zm_V} {N : Nat} {S : zm_S} {out : (Int32 × zm_S)} {d : Nat} {a0 : Nat} {i1 : Int32} {i2 : Int32} {i3 : Int32} (hd : 2 ≤ d) (h : zf_X16_mayGo N a0 i1 i2 i3 S = some out) : zm_Met l zk_E V yX16_mayGo (.code yX16_mayGo cX16_mayGo 4 (some .boolean)) d [.ref a0, .int i1, .int i2, .int i3] S 0 0 (zo_i out) zo_x := by
  refine zm_of (by decide +kernel) (Nat.le_of_ble_eq_true rfl) ?_
  intro p e R s m args below meth c hRR hX hr hxt
  have hR : R.frames = d ∧ R.locals = 64 * d := by rw [hRR]; exact ⟨rfl, rfl⟩
  have hX : zm_X p R s m args meth c RX16 "mayGo" cX16_mayGo 4 zk_E V 0 0 := hX
  unfold zf_X16_mayGo at h
  refine zw_sub (lv' := [(0, .ref a0), (1, .int i1), (2, .int i2), (3, .int i3)]) (List.forall_mem_cons.mpr ⟨rfl, (List.forall_mem_cons.mpr ⟨rfl, (List.forall_mem_cons.mpr ⟨rfl, (List.forall_mem_cons.mpr ⟨rfl, zs_nil⟩)⟩)⟩)⟩) ?_
  refine zw_iload_n hX dX16_mayGo_0 rfl ?_
  refine zw_bipush (v := (-24 : Int32)) hX dX16_mayGo_1 (by decide) ?_
  refine zw_icmp_lt (tgt := 82) hX dX16_mayGo_3 (by decide) (fun c3 => ?_) (fun c3 => ?_)
  · rw [if_pos c3] at h
    refine zw_iconst (v := (0 : Int32)) hX dX16_mayGo_82 (by decide) ?_
    obtain rfl := Option.some.inj h
    exact zw_iret hX hr dX16_mayGo_83 rfl ⟨rfl, rfl⟩
  · rw [if_neg c3] at h
    refine zw_iload_n hX dX16_mayGo_6 rfl ?_
    refine zw_bipush (v := (24 : Int32)) hX dX16_mayGo_7 (by decide) ?_
    refine zw_icmp_gt (tgt := 82) hX dX16_mayGo_9 (by decide) (fun c9 => ?_) (fun c9 => ?_)
    · rw [if_pos c9] at h
      refine zw_iconst (v := (0 : Int32)) hX dX16_mayGo_82 (by decide) ?_
      obtain rfl := Option.some.inj h
      exact zw_iret hX hr dX16_mayGo_83 rfl ⟨rfl, rfl⟩
    · rw [if_neg c9] at h
      refine zw_iload_n hX dX16_mayGo_12 rfl ?_
      refine zw_bipush (v := (-24 : Int32)) hX dX16_mayGo_13 (by decide) ?_
      refine zw_icmp_lt (tgt := 82) hX dX16_mayGo_15 (by decide) (fun c15 => ?_) (fun c15 => ?_)
      · rw [if_pos c15] at h
        refine zw_iconst (v := (0 : Int32)) hX dX16_mayGo_82 (by decide) ?_
        obtain rfl := Option.some.inj h
        exact zw_iret hX hr dX16_mayGo_83 rfl ⟨rfl, rfl⟩
      · rw [if_neg c15] at h
        refine zw_iload_n hX dX16_mayGo_18 rfl ?_
        refine zw_bipush (v := (24 : Int32)) hX dX16_mayGo_19 (by decide) ?_
        refine zw_icmp_gt (tgt := 82) hX dX16_mayGo_21 (by decide) (fun c21 => ?_) (fun c21 => ?_)
        · rw [if_pos c21] at h
          refine zw_iconst (v := (0 : Int32)) hX dX16_mayGo_82 (by decide) ?_
          obtain rfl := Option.some.inj h
          exact zw_iret hX hr dX16_mayGo_83 rfl ⟨rfl, rfl⟩
        · rw [if_neg c21] at h
          refine zw_aload_n hX dX16_mayGo_24 rfl ?_
          obtain ⟨b1, g, h⟩ := zb_some h
          refine zw_getr hX zl_X16_7 dX16_mayGo_25 g ?_
          refine zw_iload_n hX dX16_mayGo_28 rfl ?_
          obtain ⟨v2, g, h⟩ := zb_some h
          refine zw_xi hX dX16_mayGo_29 g ?_
          refine zw_iload_n hX dX16_mayGo_30 rfl ?_
          refine zw_iadd hX dX16_mayGo_31 ?_
          obtain ⟨r5, g, h⟩ := zb_some h
          refine zc_Si (as := [.int (v2 + i2)]) hX (zt_X16_isIn (d := d - 1) (by omega) g) zl_X16_112 dX16_mayGo_32 ⟨rfl, rfl, Nat.le_of_ble_eq_true rfl⟩ ⟨by omega, by omega⟩ ?_
          refine zw_if_eq (tgt := 82) hX dX16_mayGo_35 (by decide) (fun c35 => ?_) (fun c35 => ?_)
          · rw [if_pos c35] at h
            refine zw_iconst (v := (0 : Int32)) hX dX16_mayGo_82 (by decide) ?_
            obtain rfl := Option.some.inj h
            exact zw_iret hX hr dX16_mayGo_83 rfl ⟨rfl, rfl⟩
          · rw [if_neg c35] at h
            refine zw_aload_n hX dX16_mayGo_38 rfl ?_
            obtain ⟨b6, g, h⟩ := zb_some h
            refine zw_getr hX zl_X16_13 dX16_mayGo_39 g ?_
            refine zw_iload_n hX dX16_mayGo_42 rfl ?_
            obtain ⟨v7, g, h⟩ := zb_some h
            refine zw_xi hX dX16_mayGo_43 g ?_
            refine zw_iload_n hX dX16_mayGo_44 rfl ?_
            refine zw_iadd hX dX16_mayGo_45 ?_
            obtain ⟨r10, g, h⟩ := zb_some h
            refine zc_Si (as := [.int (v7 + i3)]) hX (zt_X16_isIn (d := d - 1) (by omega) g) zl_X16_112 dX16_mayGo_46 ⟨rfl, rfl, Nat.le_of_ble_eq_true rfl⟩ ⟨by omega, by omega⟩ ?_
            refine zw_if_eq (tgt := 82) hX dX16_mayGo_49 (by decide) (fun c49 => ?_) (fun c49 => ?_)
            · rw [if_pos c49] at h
              refine zw_iconst (v := (0 : Int32)) hX dX16_mayGo_82 (by decide) ?_
              obtain rfl := Option.some.inj h
              exact zw_iret hX hr dX16_mayGo_83 rfl ⟨rfl, rfl⟩
            · rw [if_neg c49] at h
              refine zw_aload_n hX dX16_mayGo_52 rfl ?_
              refine zw_iload_n hX dX16_mayGo_53 rfl ?_
              obtain ⟨_, gi, h⟩ := zb_some h
              obtain ⟨r13, g, h⟩ := zb_some h
              refine zc_Vi (as := [.int i1]) hX gi (zt_X16_highX (d := d - 1) (by omega) g) zl_X16_89 rfl dX16_mayGo_54 ⟨rfl, rfl, Nat.le_of_ble_eq_true rfl⟩ ⟨by omega, by omega⟩ ?_
              refine zw_iload_n hX dX16_mayGo_57 rfl ?_
              refine zw_iadd hX dX16_mayGo_58 ?_
              obtain ⟨r16, g, h⟩ := zb_some h
              refine zc_Si (as := [.int (r13.1 + i2)]) hX (zt_X16_isIn (d := d - 1) (by omega) g) zl_X16_112 dX16_mayGo_59 ⟨rfl, rfl, Nat.le_of_ble_eq_true rfl⟩ ⟨by omega, by omega⟩ ?_
              refine zw_if_eq (tgt := 82) hX dX16_mayGo_62 (by decide) (fun c62 => ?_) (fun c62 => ?_)
              · rw [if_pos c62] at h
                refine zw_iconst (v := (0 : Int32)) hX dX16_mayGo_82 (by decide) ?_
                obtain rfl := Option.some.inj h
                exact zw_iret hX hr dX16_mayGo_83 rfl ⟨rfl, rfl⟩
              · rw [if_neg c62] at h
                refine zw_aload_n hX dX16_mayGo_65 rfl ?_
                refine zw_iload_n hX dX16_mayGo_66 rfl ?_
                obtain ⟨_, gi, h⟩ := zb_some h
                obtain ⟨r19, g, h⟩ := zb_some h
                refine zc_Vi (as := [.int i1]) hX gi (zt_X16_highY (d := d - 1) (by omega) g) zl_X16_93 rfl dX16_mayGo_67 ⟨rfl, rfl, Nat.le_of_ble_eq_true rfl⟩ ⟨by omega, by omega⟩ ?_
                refine zw_iload_n hX dX16_mayGo_70 rfl ?_
                refine zw_iadd hX dX16_mayGo_71 ?_
                obtain ⟨r22, g, h⟩ := zb_some h
                refine zc_Si (as := [.int (r19.1 + i3)]) hX (zt_X16_isIn (d := d - 1) (by omega) g) zl_X16_112 dX16_mayGo_72 ⟨rfl, rfl, Nat.le_of_ble_eq_true rfl⟩ ⟨by omega, by omega⟩ ?_
                refine zw_if_eq (tgt := 82) hX dX16_mayGo_75 (by decide) (fun c75 => ?_) (fun c75 => ?_)
                · rw [if_pos c75] at h
                  refine zw_iconst (v := (0 : Int32)) hX dX16_mayGo_82 (by decide) ?_
                  obtain rfl := Option.some.inj h
                  exact zw_iret hX hr dX16_mayGo_83 rfl ⟨rfl, rfl⟩
                · rw [if_neg c75] at h
                  refine zw_iconst (v := (1 : Int32)) hX dX16_mayGo_78 (by decide) ?_
                  refine zw_goto (tgt := 83) hX dX16_mayGo_79 (by decide) ?_
                  obtain rfl := Option.some.inj h
                  exact zw_iret hX hr dX16_mayGo_83 rfl ⟨rfl, rfl⟩
def zf_X16_move_J82 (N : Nat) (i4 : Int32) (t0 : Nat) (S : zm_S) : Option (Int32 × zm_S) := (zp S t0 16 10 (.int (0 : Int32))).bind (fun S17 => if i4 = 0 ∨ i4 = 1 then some (i4, S17) else none)
set_option maxHeartbeats 4000000 in
set_option maxRecDepth 100000 in
theorem zt_X16_move_J82 {p : Program} {l : Launch} {e : Env} {R : Room} {s : State} {m : MethodId} {args : Array Value} {below : List Frame} {meth : Method} {c : Code} {V : zm_V} {mc ms d rc rs : Nat} (hX : zm_X p R s m args meth c RX16 "move" cX16_move 5 zk_E V mc ms) (hr : meth.sig.returnType = (some .boolean)) (hR : R.frames = d ∧ R.locals = 64 * d) (hd : 4 ≤ d) {N : Nat} {i4 : Int32} {t0 : Nat} {out : (Int32 × zm_S)} {S : zm_S} (h : zf_X16_move_J82 N i4 t0 S = some out) : zw p l e R s m args below meth c (vx_MQ below (zm_Qc zk_E V (zo_i out)) (zm_XC zk_E V zo_x) args s mc ms (fun q => V.2.2.2.1 ≤ q)) 5 zk_E V mc ms 82 [(4, .int i4)] [.ref t0] S rc rs := by
  unfold zf_X16_move_J82 at h
  refine zw_iconst (v := (0 : Int32)) hX dX16_move_82 (by decide) ?_
  obtain ⟨S17, g, h⟩ := zb_some h
  refine zw_putv hX zl_X16_108 zt_16_10 dX16_move_83 rfl (by decide) g ?_
  refine zw_iload hX dX16_move_86 rfl ?_
  by_cases cz : i4 = 0 ∨ i4 = 1
  · rw [if_pos cz] at h
    obtain rfl := Option.some.inj h
    exact zw_iret hX hr dX16_move_88 (zn_z cz) ⟨rfl, rfl⟩
  · rw [if_neg cz] at h
    cases h
def zf_X16_move_J63 (N : Nat) (a0 : Nat) (i4 : Int32) (t0 : Nat) (t1 : Int32) (t2 : Int32) (t3 : Int32) (S : zm_S) : Option (Int32 × zm_S) := (zs_i S t0 t1 (t2 - t3)).bind (fun S15 => (zg_i S15 a0 16 10).bind (fun v16 => if v16 = 0 then zf_X16_move_J82 N i4 a0 S15 else if i4 = 0 then (zp S15 a0 16 10 (.int (1 : Int32))).bind (fun S18 => if i4 = 0 ∨ i4 = 1 then some (i4, S18) else none) else zf_X16_move_J82 N i4 a0 S15))
set_option maxHeartbeats 4000000 in
set_option maxRecDepth 100000 in
theorem zt_X16_move_J63 {p : Program} {l : Launch} {e : Env} {R : Room} {s : State} {m : MethodId} {args : Array Value} {below : List Frame} {meth : Method} {c : Code} {V : zm_V} {mc ms d rc rs : Nat} (hX : zm_X p R s m args meth c RX16 "move" cX16_move 5 zk_E V mc ms) (hr : meth.sig.returnType = (some .boolean)) (hR : R.frames = d ∧ R.locals = 64 * d) (hd : 4 ≤ d) {N : Nat} {a0 : Nat} {i4 : Int32} {t0 : Nat} {t1 : Int32} {t2 : Int32} {t3 : Int32} {out : (Int32 × zm_S)} {S : zm_S} (h : zf_X16_move_J63 N a0 i4 t0 t1 t2 t3 S = some out) : zw p l e R s m args below meth c (vx_MQ below (zm_Qc zk_E V (zo_i out)) (zm_XC zk_E V zo_x) args s mc ms (fun q => V.2.2.2.1 ≤ q)) 5 zk_E V mc ms 63 [(0, .ref a0), (4, .int i4)] [.int t3, .int t2, .int t1, .ref t0] S rc rs := by
  unfold zf_X16_move_J63 at h
  refine zw_isub hX dX16_move_63 ?_
  obtain ⟨S15, g, h⟩ := zb_some h
  refine zw_si hX dX16_move_64 g ?_
  refine zw_aload_n hX dX16_move_65 rfl ?_
  refine zw_aload_n hX dX16_move_66 rfl ?_
  obtain ⟨v16, g, h⟩ := zb_some h
  refine zw_geti hX zl_X16_108 dX16_move_67 g ?_
  refine zw_if_eq (tgt := 82) hX dX16_move_70 (by decide) (fun c70 => ?_) (fun c70 => ?_)
  · rw [if_pos c70] at h
    refine zw_sub (lv' := [(4, .int i4)]) (List.forall_mem_cons.mpr ⟨rfl, zs_nil⟩) ?_
    exact zt_X16_move_J82 hX hr hR hd h
  · rw [if_neg c70] at h
    refine zw_iload hX dX16_move_73 rfl ?_
    refine zw_if_ne (tgt := 82) hX dX16_move_75 (by decide) (fun c75 => ?_) (fun c75 => ?_)
    · rw [if_neg c75] at h
      refine zw_sub (lv' := [(4, .int i4)]) (List.forall_mem_cons.mpr ⟨rfl, zs_nil⟩) ?_
      exact zt_X16_move_J82 hX hr hR hd h
    · rw [if_pos c75] at h
      refine zw_iconst (v := (1 : Int32)) hX dX16_move_78 (by decide) ?_
      refine zw_goto (tgt := 83) hX dX16_move_79 (by decide) ?_
      obtain ⟨S18, g, h⟩ := zb_some h
      refine zw_putv hX zl_X16_108 zt_16_10 dX16_move_83 rfl (by decide) g ?_
      refine zw_iload hX dX16_move_86 rfl ?_
      by_cases cz : i4 = 0 ∨ i4 = 1
      · rw [if_pos cz] at h
        obtain rfl := Option.some.inj h
        exact zw_iret hX hr dX16_move_88 (zn_z cz) ⟨rfl, rfl⟩
      · rw [if_neg cz] at h
        cases h
def zf_X16_move_J44 (N : Nat) (a0 : Nat) (i1 : Int32) (i3 : Int32) (i4 : Int32) (t0 : Nat) (t1 : Int32) (t2 : Int32) (t3 : Int32) (S : zm_S) : Option (Int32 × zm_S) := (zs_i S t0 t1 (t2 - t3)).bind (fun S12 => (zg_r S12 a0 16 2).bind (fun b13 => (za_x S12 0 b13 i1).bind (fun v14 => if i4 = 0 then zf_X16_move_J63 N a0 i4 b13 i1 v14 i3 S12 else zf_X16_move_J63 N a0 i4 b13 i1 v14 (0 : Int32) S12)))
set_option maxHeartbeats 4000000 in
set_option maxRecDepth 100000 in
theorem zt_X16_move_J44 {p : Program} {l : Launch} {e : Env} {R : Room} {s : State} {m : MethodId} {args : Array Value} {below : List Frame} {meth : Method} {c : Code} {V : zm_V} {mc ms d rc rs : Nat} (hX : zm_X p R s m args meth c RX16 "move" cX16_move 5 zk_E V mc ms) (hr : meth.sig.returnType = (some .boolean)) (hR : R.frames = d ∧ R.locals = 64 * d) (hd : 4 ≤ d) {N : Nat} {a0 : Nat} {i1 : Int32} {i3 : Int32} {i4 : Int32} {t0 : Nat} {t1 : Int32} {t2 : Int32} {t3 : Int32} {out : (Int32 × zm_S)} {S : zm_S} (h : zf_X16_move_J44 N a0 i1 i3 i4 t0 t1 t2 t3 S = some out) : zw p l e R s m args below meth c (vx_MQ below (zm_Qc zk_E V (zo_i out)) (zm_XC zk_E V zo_x) args s mc ms (fun q => V.2.2.2.1 ≤ q)) 5 zk_E V mc ms 44 [(0, .ref a0), (1, .int i1), (3, .int i3), (4, .int i4)] [.int t3, .int t2, .int t1, .ref t0] S rc rs := by
  unfold zf_X16_move_J44 at h
  refine zw_isub hX dX16_move_44 ?_
  obtain ⟨S12, g, h⟩ := zb_some h
  refine zw_si hX dX16_move_45 g ?_
  refine zw_aload_n hX dX16_move_46 rfl ?_
  obtain ⟨b13, g, h⟩ := zb_some h
  refine zw_getr hX zl_X16_13 dX16_move_47 g ?_
  refine zw_iload_n hX dX16_move_50 rfl ?_
  refine zw_dup2 hX dX16_move_51 rfl rfl ?_
  obtain ⟨v14, g, h⟩ := zb_some h
  refine zw_xi hX dX16_move_52 g ?_
  refine zw_iload hX dX16_move_53 rfl ?_
  refine zw_if_eq (tgt := 62) hX dX16_move_55 (by decide) (fun c55 => ?_) (fun c55 => ?_)
  · rw [if_pos c55] at h
    refine zw_iload_n hX dX16_move_62 rfl ?_
    refine zw_sub (lv' := [(0, .ref a0), (4, .int i4)]) (List.forall_mem_cons.mpr ⟨rfl, (List.forall_mem_cons.mpr ⟨rfl, zs_nil⟩)⟩) ?_
    exact zt_X16_move_J63 hX hr hR hd h
  · rw [if_neg c55] at h
    refine zw_iconst (v := (0 : Int32)) hX dX16_move_58 (by decide) ?_
    refine zw_goto (tgt := 63) hX dX16_move_59 (by decide) ?_
    refine zw_sub (lv' := [(0, .ref a0), (4, .int i4)]) (List.forall_mem_cons.mpr ⟨rfl, (List.forall_mem_cons.mpr ⟨rfl, zs_nil⟩)⟩) ?_
    exact zt_X16_move_J63 hX hr hR hd h
def zf_X16_move (N : Nat) (a0 : Nat) (i1 : Int32) (i2 : Int32) (i3 : Int32) (S : zm_S) : Option (Int32 × zm_S) := (zg_r S a0 16 1).bind (fun b1 => (za_x S 0 b1 i1).bind (fun v2 => (zs_i S b1 i1 (v2 + i2)).bind (fun S3 => (zg_r S3 a0 16 2).bind (fun b4 => (za_x S3 0 b4 i1).bind (fun v5 => (zs_i S3 b4 i1 (v5 + i3)).bind (fun S6 => (zi S6 a0 16).bind (fun _ => (zf_X16_isAlone N a0 i1 S6).bind (fun r9 => (zg_r r9.2 a0 16 1).bind (fun b10 => (za_x r9.2 0 b10 i1).bind (fun v11 => if r9.1 = 0 then zf_X16_move_J44 N a0 i1 i3 r9.1 b10 i1 v11 i2 r9.2 else zf_X16_move_J44 N a0 i1 i3 r9.1 b10 i1 v11 (0 : Int32) r9.2))))))))))
set_option maxHeartbeats 4000000 in
set_option maxRecDepth 100000 in
theorem zt_X16_move {l : Launch} {V : zm_V} {N : Nat} {S : zm_S} {out : (Int32 × zm_S)} {d : Nat} {a0 : Nat} {i1 : Int32} {i2 : Int32} {i3 : Int32} (hd : 4 ≤ d) (h : zf_X16_move N a0 i1 i2 i3 S = some out) : zm_Met l zk_E V yX16_move (.code yX16_move cX16_move 5 (some .boolean)) d [.ref a0, .int i1, .int i2, .int i3] S 0 0 (zo_i out) zo_x := by
  refine zm_of (by decide +kernel) (Nat.le_of_ble_eq_true rfl) ?_
  intro p e R s m args below meth c hRR hX hr hxt
  have hR : R.frames = d ∧ R.locals = 64 * d := by rw [hRR]; exact ⟨rfl, rfl⟩
  have hX : zm_X p R s m args meth c RX16 "move" cX16_move 5 zk_E V 0 0 := hX
  unfold zf_X16_move at h
  refine zw_sub (lv' := [(0, .ref a0), (1, .int i1), (2, .int i2), (3, .int i3)]) (List.forall_mem_cons.mpr ⟨rfl, (List.forall_mem_cons.mpr ⟨rfl, (List.forall_mem_cons.mpr ⟨rfl, (List.forall_mem_cons.mpr ⟨rfl, zs_nil⟩)⟩)⟩)⟩) ?_
  refine zw_aload_n hX dX16_move_0 rfl ?_
  obtain ⟨b1, g, h⟩ := zb_some h
  refine zw_getr hX zl_X16_7 dX16_move_1 g ?_
  refine zw_iload_n hX dX16_move_4 rfl ?_
  refine zw_dup2 hX dX16_move_5 rfl rfl ?_
  obtain ⟨v2, g, h⟩ := zb_some h
  refine zw_xi hX dX16_move_6 g ?_
  refine zw_iload_n hX dX16_move_7 rfl ?_
  refine zw_iadd hX dX16_move_8 ?_
  obtain ⟨S3, g, h⟩ := zb_some h
  refine zw_si hX dX16_move_9 g ?_
  refine zw_aload_n hX dX16_move_10 rfl ?_
  obtain ⟨b4, g, h⟩ := zb_some h
  refine zw_getr hX zl_X16_13 dX16_move_11 g ?_
  refine zw_iload_n hX dX16_move_14 rfl ?_
  refine zw_dup2 hX dX16_move_15 rfl rfl ?_
  obtain ⟨v5, g, h⟩ := zb_some h
  refine zw_xi hX dX16_move_16 g ?_
  refine zw_iload_n hX dX16_move_17 rfl ?_
  refine zw_iadd hX dX16_move_18 ?_
  obtain ⟨S6, g, h⟩ := zb_some h
  refine zw_si hX dX16_move_19 g ?_
  refine zw_aload_n hX dX16_move_20 rfl ?_
  refine zw_iload_n hX dX16_move_21 rfl ?_
  obtain ⟨_, gi, h⟩ := zb_some h
  obtain ⟨r9, g, h⟩ := zb_some h
  refine zc_Vi (as := [.int i1]) hX gi (zt_X16_isAlone (d := d - 1) (by omega) g) zl_X16_104 rfl dX16_move_22 ⟨rfl, rfl, Nat.le_of_ble_eq_true rfl⟩ ⟨by omega, by omega⟩ ?_
  refine zw_istore hX dX16_move_25 (by decide) ?_
  refine zw_aload_n hX dX16_move_27 rfl ?_
  obtain ⟨b10, g, h⟩ := zb_some h
  refine zw_getr hX zl_X16_7 dX16_move_28 g ?_
  refine zw_iload_n hX dX16_move_31 rfl ?_
  refine zw_dup2 hX dX16_move_32 rfl rfl ?_
  obtain ⟨v11, g, h⟩ := zb_some h
  refine zw_xi hX dX16_move_33 g ?_
  refine zw_iload hX dX16_move_34 rfl ?_
  refine zw_if_eq (tgt := 43) hX dX16_move_36 (by decide) (fun c36 => ?_) (fun c36 => ?_)
  · rw [if_pos c36] at h
    refine zw_iload_n hX dX16_move_43 rfl ?_
    refine zw_sub (lv' := [(0, .ref a0), (1, .int i1), (3, .int i3), (4, .int r9.1)]) (List.forall_mem_cons.mpr ⟨rfl, (List.forall_mem_cons.mpr ⟨rfl, (List.forall_mem_cons.mpr ⟨rfl, (List.forall_mem_cons.mpr ⟨rfl, zs_nil⟩)⟩)⟩)⟩) ?_
    exact zt_X16_move_J44 hX hr hR hd h
  · rw [if_neg c36] at h
    refine zw_iconst (v := (0 : Int32)) hX dX16_move_39 (by decide) ?_
    refine zw_goto (tgt := 44) hX dX16_move_40 (by decide) ?_
    refine zw_sub (lv' := [(0, .ref a0), (1, .int i1), (3, .int i3), (4, .int r9.1)]) (List.forall_mem_cons.mpr ⟨rfl, (List.forall_mem_cons.mpr ⟨rfl, (List.forall_mem_cons.mpr ⟨rfl, (List.forall_mem_cons.mpr ⟨rfl, zs_nil⟩)⟩)⟩)⟩) ?_
    exact zt_X16_move_J44 hX hr hR hd h
def zf_X16_door (N : Nat) (a0 : Nat) (i1 : Int32) (i2 : Int32) (i3 : Int32) (i4 : Int32) (S : zm_S) : Option (Int32 × zm_S) := (zg_r S a0 16 6).bind (fun b1 => (zg_r S a0 16 5).bind (fun b2 => (za_x S 0 b2 i1).bind (fun v3 => (zs_i S b1 (((6 : Int32) * i1) + v3) i2).bind (fun S4 => (zg_r S4 a0 16 7).bind (fun b5 => (zg_r S4 a0 16 5).bind (fun b6 => (za_x S4 0 b6 i1).bind (fun v7 => (zs_i S4 b5 (((6 : Int32) * i1) + v7) i3).bind (fun S8 => (zg_r S8 a0 16 8).bind (fun b9 => (zg_r S8 a0 16 5).bind (fun b10 => (za_x S8 0 b10 i1).bind (fun v11 => (zs_i S8 b9 (((6 : Int32) * i1) + v11) i4).bind (fun S12 => (zg_r S12 a0 16 5).bind (fun b13 => (za_x S12 0 b13 i1).bind (fun v14 => (zs_i S12 b13 i1 (v14 + (1 : Int32))).bind (fun S15 => (zg_r S15 a0 16 5).bind (fun b16 => (za_x S15 0 b16 i1).bind (fun v17 => some (v17, S15))))))))))))))))))
set_option maxHeartbeats 4000000 in
set_option maxRecDepth 100000 in
theorem zt_X16_door {l : Launch} {V : zm_V} {N : Nat} {S : zm_S} {out : (Int32 × zm_S)} {d : Nat} {a0 : Nat} {i1 : Int32} {i2 : Int32} {i3 : Int32} {i4 : Int32} (hd : 1 ≤ d) (h : zf_X16_door N a0 i1 i2 i3 i4 S = some out) : zm_Met l zk_E V yX16_door (.code yX16_door cX16_door 5 (some .int)) d [.ref a0, .int i1, .int i2, .int i3, .int i4] S 0 0 (zo_i out) zo_x := by
  refine zm_of (by decide +kernel) (Nat.le_of_ble_eq_true rfl) ?_
  intro p e R s m args below meth c hRR hX hr hxt
  have hR : R.frames = d ∧ R.locals = 64 * d := by rw [hRR]; exact ⟨rfl, rfl⟩
  have hX : zm_X p R s m args meth c RX16 "door" cX16_door 5 zk_E V 0 0 := hX
  unfold zf_X16_door at h
  refine zw_sub (lv' := [(0, .ref a0), (1, .int i1), (2, .int i2), (3, .int i3), (4, .int i4)]) (List.forall_mem_cons.mpr ⟨rfl, (List.forall_mem_cons.mpr ⟨rfl, (List.forall_mem_cons.mpr ⟨rfl, (List.forall_mem_cons.mpr ⟨rfl, (List.forall_mem_cons.mpr ⟨rfl, zs_nil⟩)⟩)⟩)⟩)⟩) ?_
  refine zw_aload_n hX dX16_door_0 rfl ?_
  obtain ⟨b1, g, h⟩ := zb_some h
  refine zw_getr hX zl_X16_26 dX16_door_1 g ?_
  refine zw_bipush (v := (6 : Int32)) hX dX16_door_4 (by decide) ?_
  refine zw_iload_n hX dX16_door_6 rfl ?_
  refine zw_imul hX dX16_door_7 ?_
  refine zw_aload_n hX dX16_door_8 rfl ?_
  obtain ⟨b2, g, h⟩ := zb_some h
  refine zw_getr hX zl_X16_23 dX16_door_9 g ?_
  refine zw_iload_n hX dX16_door_12 rfl ?_
  obtain ⟨v3, g, h⟩ := zb_some h
  refine zw_xi hX dX16_door_13 g ?_
  refine zw_iadd hX dX16_door_14 ?_
  refine zw_iload_n hX dX16_door_15 rfl ?_
  obtain ⟨S4, g, h⟩ := zb_some h
  refine zw_si hX dX16_door_16 g ?_
  refine zw_aload_n hX dX16_door_17 rfl ?_
  obtain ⟨b5, g, h⟩ := zb_some h
  refine zw_getr hX zl_X16_29 dX16_door_18 g ?_
  refine zw_bipush (v := (6 : Int32)) hX dX16_door_21 (by decide) ?_
  refine zw_iload_n hX dX16_door_23 rfl ?_
  refine zw_imul hX dX16_door_24 ?_
  refine zw_aload_n hX dX16_door_25 rfl ?_
  obtain ⟨b6, g, h⟩ := zb_some h
  refine zw_getr hX zl_X16_23 dX16_door_26 g ?_
  refine zw_iload_n hX dX16_door_29 rfl ?_
  obtain ⟨v7, g, h⟩ := zb_some h
  refine zw_xi hX dX16_door_30 g ?_
  refine zw_iadd hX dX16_door_31 ?_
  refine zw_iload_n hX dX16_door_32 rfl ?_
  obtain ⟨S8, g, h⟩ := zb_some h
  refine zw_si hX dX16_door_33 g ?_
  refine zw_aload_n hX dX16_door_34 rfl ?_
  obtain ⟨b9, g, h⟩ := zb_some h
  refine zw_getr hX zl_X16_32 dX16_door_35 g ?_
  refine zw_bipush (v := (6 : Int32)) hX dX16_door_38 (by decide) ?_
  refine zw_iload_n hX dX16_door_40 rfl ?_
  refine zw_imul hX dX16_door_41 ?_
  refine zw_aload_n hX dX16_door_42 rfl ?_
  obtain ⟨b10, g, h⟩ := zb_some h
  refine zw_getr hX zl_X16_23 dX16_door_43 g ?_
  refine zw_iload_n hX dX16_door_46 rfl ?_
  obtain ⟨v11, g, h⟩ := zb_some h
  refine zw_xi hX dX16_door_47 g ?_
  refine zw_iadd hX dX16_door_48 ?_
  refine zw_iload hX dX16_door_49 rfl ?_
  obtain ⟨S12, g, h⟩ := zb_some h
  refine zw_si hX dX16_door_51 g ?_
  refine zw_aload_n hX dX16_door_52 rfl ?_
  obtain ⟨b13, g, h⟩ := zb_some h
  refine zw_getr hX zl_X16_23 dX16_door_53 g ?_
  refine zw_iload_n hX dX16_door_56 rfl ?_
  refine zw_dup2 hX dX16_door_57 rfl rfl ?_
  obtain ⟨v14, g, h⟩ := zb_some h
  refine zw_xi hX dX16_door_58 g ?_
  refine zw_iconst (v := (1 : Int32)) hX dX16_door_59 (by decide) ?_
  refine zw_iadd hX dX16_door_60 ?_
  obtain ⟨S15, g, h⟩ := zb_some h
  refine zw_si hX dX16_door_61 g ?_
  refine zw_aload_n hX dX16_door_62 rfl ?_
  obtain ⟨b16, g, h⟩ := zb_some h
  refine zw_getr hX zl_X16_23 dX16_door_63 g ?_
  refine zw_iload_n hX dX16_door_66 rfl ?_
  obtain ⟨v17, g, h⟩ := zb_some h
  refine zw_xi hX dX16_door_67 g ?_
  obtain rfl := Option.some.inj h
  exact zw_iret hX hr dX16_door_68 rfl ⟨rfl, rfl⟩
