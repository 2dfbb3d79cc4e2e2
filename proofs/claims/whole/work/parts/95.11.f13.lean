/-! ===== functions of methods, by program (wip/whole/tools/gen11.py) ===== -/
theorem dX14_read_0 : decode cX14_read 0 = .ok (.aload_n 0, 1) := by decide +kernel
theorem dX14_read_1 : decode cX14_read 1 = .ok (.invokevirtual 187, 3) := by decide +kernel
theorem dX14_read_4 : decode cX14_read 4 = .ok (.aload_n 0, 1) := by decide +kernel
theorem dX14_read_5 : decode cX14_read 5 = .ok (.iconst 0, 1) := by decide +kernel
theorem dX14_read_6 : decode cX14_read 6 = .ok (.putfield 131, 3) := by decide +kernel
theorem dX14_read_9 : decode cX14_read 9 = .ok (.aload_n 0, 1) := by decide +kernel
theorem dX14_read_10 : decode cX14_read 10 = .ok (.iconst (-1), 1) := by decide +kernel
theorem dX14_read_11 : decode cX14_read 11 = .ok (.putfield 134, 3) := by decide +kernel
theorem dX14_read_14 : decode cX14_read 14 = .ok (.aload_n 0, 1) := by decide +kernel
theorem dX14_read_15 : decode cX14_read 15 = .ok (.iconst 0, 1) := by decide +kernel
theorem dX14_read_16 : decode cX14_read 16 = .ok (.putfield 172, 3) := by decide +kernel
theorem dX14_read_19 : decode cX14_read 19 = .ok (.bipush 20, 2) := by decide +kernel
theorem dX14_read_21 : decode cX14_read 21 = .ok (.istore_n 1, 1) := by decide +kernel
theorem dX14_read_22 : decode cX14_read 22 = .ok (.iload_n 1, 1) := by decide +kernel
theorem dX14_read_23 : decode cX14_read 23 = .ok (.bipush 40, 2) := by decide +kernel
theorem dX14_read_25 : decode cX14_read 25 = .ok (.if_icmp .ge 23, 3) := by decide +kernel
theorem dX14_read_28 : decode cX14_read 28 = .ok (.aload_n 0, 1) := by decide +kernel
theorem dX14_read_29 : decode cX14_read 29 = .ok (.getfield 29, 3) := by decide +kernel
theorem dX14_read_32 : decode cX14_read 32 = .ok (.iload_n 1, 1) := by decide +kernel
theorem dX14_read_33 : decode cX14_read 33 = .ok (.iconst 0, 1) := by decide +kernel
theorem dX14_read_34 : decode cX14_read 34 = .ok (.bastore, 1) := by decide +kernel
theorem dX14_read_35 : decode cX14_read 35 = .ok (.aload_n 0, 1) := by decide +kernel
theorem dX14_read_36 : decode cX14_read 36 = .ok (.getfield 41, 3) := by decide +kernel
theorem dX14_read_39 : decode cX14_read 39 = .ok (.iload_n 1, 1) := by decide +kernel
theorem dX14_read_40 : decode cX14_read 40 = .ok (.iconst 0, 1) := by decide +kernel
theorem dX14_read_41 : decode cX14_read 41 = .ok (.bastore, 1) := by decide +kernel
theorem dX14_read_42 : decode cX14_read 42 = .ok (.iinc 1 1, 3) := by decide +kernel
theorem dX14_read_45 : decode cX14_read 45 = .ok (.goto (-23), 3) := by decide +kernel
theorem dX14_read_48 : decode cX14_read 48 = .ok (.aload_n 0, 1) := by decide +kernel
theorem dX14_read_49 : decode cX14_read 49 = .ok (.getfield 131, 3) := by decide +kernel
theorem dX14_read_52 : decode cX14_read 52 = .ok (.aload_n 0, 1) := by decide +kernel
theorem dX14_read_53 : decode cX14_read 53 = .ok (.getfield 125, 3) := by decide +kernel
theorem dX14_read_56 : decode cX14_read 56 = .ok (.if_icmp .ge 17, 3) := by decide +kernel
theorem dX14_read_59 : decode cX14_read 59 = .ok (.aload_n 0, 1) := by decide +kernel
theorem dX14_read_60 : decode cX14_read 60 = .ok (.getfield 134, 3) := by decide +kernel
theorem dX14_read_63 : decode cX14_read 63 = .ok (.ifCond .ge 10, 3) := by decide +kernel
theorem dX14_read_66 : decode cX14_read 66 = .ok (.aload_n 0, 1) := by decide +kernel
theorem dX14_read_67 : decode cX14_read 67 = .ok (.invokevirtual 190, 3) := by decide +kernel
theorem dX14_read_70 : decode cX14_read 70 = .ok (.goto (-22), 3) := by decide +kernel
theorem dX14_read_73 : decode cX14_read 73 = .ok (.aload_n 0, 1) := by decide +kernel
theorem dX14_read_74 : decode cX14_read 74 = .ok (.getfield 134, 3) := by decide +kernel
theorem dX14_read_77 : decode cX14_read 77 = .ok (.ifCond .lt 10, 3) := by decide +kernel
theorem dX14_read_87 : decode cX14_read 87 = .ok (.aload_n 0, 1) := by decide +kernel
theorem dX14_read_88 : decode cX14_read 88 = .ok (.invokevirtual 193, 3) := by decide +kernel
theorem dX14_read_91 : decode cX14_read 91 = .ok (.aload_n 0, 1) := by decide +kernel
theorem dX14_read_92 : decode cX14_read 92 = .ok (.getfield 196, 3) := by decide +kernel
theorem dX14_read_95 : decode cX14_read 95 = .ok (.ireturn, 1) := by decide +kernel
theorem dX14_read_80 : decode cX14_read 80 = .ok (.iconst (-1), 1) := by decide +kernel
theorem dX14_read_81 : decode cX14_read 81 = .ok (.aload_n 0, 1) := by decide +kernel
theorem dX14_read_82 : decode cX14_read 82 = .ok (.getfield 134, 3) := by decide +kernel
theorem dX14_read_85 : decode cX14_read 85 = .ok (.isub, 1) := by decide +kernel
theorem dX14_read_86 : decode cX14_read 86 = .ok (.ireturn, 1) := by decide +kernel
theorem dX14_counts_0 : decode cX14_counts 0 = .ok (.aload_n 0, 1) := by decide +kernel
theorem dX14_counts_1 : decode cX14_counts 1 = .ok (.getfield 13, 3) := by decide +kernel
theorem dX14_counts_4 : decode cX14_counts 4 = .ok (.iload_n 1, 1) := by decide +kernel
theorem dX14_counts_5 : decode cX14_counts 5 = .ok (.baload, 1) := by decide +kernel
theorem dX14_counts_6 : decode cX14_counts 6 = .ok (.ifCond .ne 20, 3) := by decide +kernel
theorem dX14_counts_26 : decode cX14_counts 26 = .ok (.iconst 0, 1) := by decide +kernel
theorem dX14_counts_27 : decode cX14_counts 27 = .ok (.ireturn, 1) := by decide +kernel
theorem dX14_counts_9 : decode cX14_counts 9 = .ok (.aload_n 0, 1) := by decide +kernel
theorem dX14_counts_10 : decode cX14_counts 10 = .ok (.getfield 202, 3) := by decide +kernel
theorem dX14_counts_13 : decode cX14_counts 13 = .ok (.aload_n 0, 1) := by decide +kernel
theorem dX14_counts_14 : decode cX14_counts 14 = .ok (.getfield 17, 3) := by decide +kernel
theorem dX14_counts_17 : decode cX14_counts 17 = .ok (.iload_n 1, 1) := by decide +kernel
theorem dX14_counts_18 : decode cX14_counts 18 = .ok (.iaload, 1) := by decide +kernel
theorem dX14_counts_19 : decode cX14_counts 19 = .ok (.if_icmp .lt 7, 3) := by decide +kernel
theorem dX14_counts_22 : decode cX14_counts 22 = .ok (.iconst 1, 1) := by decide +kernel
theorem dX14_counts_23 : decode cX14_counts 23 = .ok (.goto 4, 3) := by decide +kernel
theorem dX14_ofZone_0 : decode cX14_ofZone 0 = .ok (.iconst 0, 1) := by decide +kernel
theorem dX14_ofZone_1 : decode cX14_ofZone 1 = .ok (.istore_n 3, 1) := by decide +kernel
theorem dX14_ofZone_2 : decode cX14_ofZone 2 = .ok (.iconst 0, 1) := by decide +kernel
theorem dX14_ofZone_3 : decode cX14_ofZone 3 = .ok (.istore 4, 2) := by decide +kernel
theorem dX14_ofZone_5 : decode cX14_ofZone 5 = .ok (.iload 4, 2) := by decide +kernel
theorem dX14_ofZone_7 : decode cX14_ofZone 7 = .ok (.aload_n 0, 1) := by decide +kernel
theorem dX14_ofZone_8 : decode cX14_ofZone 8 = .ok (.getfield 35, 3) := by decide +kernel
theorem dX14_ofZone_11 : decode cX14_ofZone 11 = .ok (.iload_n 1, 1) := by decide +kernel
theorem dX14_ofZone_12 : decode cX14_ofZone 12 = .ok (.iaload, 1) := by decide +kernel
theorem dX14_ofZone_13 : decode cX14_ofZone 13 = .ok (.if_icmp .ge 56, 3) := by decide +kernel
theorem dX14_ofZone_16 : decode cX14_ofZone 16 = .ok (.aload_n 0, 1) := by decide +kernel
theorem dX14_ofZone_17 : decode cX14_ofZone 17 = .ok (.getfield 38, 3) := by decide +kernel
theorem dX14_ofZone_20 : decode cX14_ofZone 20 = .ok (.bipush 12, 2) := by decide +kernel
theorem dX14_ofZone_22 : decode cX14_ofZone 22 = .ok (.iload_n 1, 1) := by decide +kernel
theorem dX14_ofZone_23 : decode cX14_ofZone 23 = .ok (.imul, 1) := by decide +kernel
theorem dX14_ofZone_24 : decode cX14_ofZone 24 = .ok (.iload 4, 2) := by decide +kernel
theorem dX14_ofZone_26 : decode cX14_ofZone 26 = .ok (.iadd, 1) := by decide +kernel
theorem dX14_ofZone_27 : decode cX14_ofZone 27 = .ok (.iaload, 1) := by decide +kernel
theorem dX14_ofZone_28 : decode cX14_ofZone 28 = .ok (.istore 5, 2) := by decide +kernel
theorem dX14_ofZone_30 : decode cX14_ofZone 30 = .ok (.iload_n 3, 1) := by decide +kernel
theorem dX14_ofZone_31 : decode cX14_ofZone 31 = .ok (.aload_n 0, 1) := by decide +kernel
theorem dX14_ofZone_32 : decode cX14_ofZone 32 = .ok (.iload 5, 2) := by decide +kernel
theorem dX14_ofZone_34 : decode cX14_ofZone 34 = .ok (.invokevirtual 205, 3) := by decide +kernel
theorem dX14_ofZone_37 : decode cX14_ofZone 37 = .ok (.ifCond .eq 23, 3) := by decide +kernel
theorem dX14_ofZone_60 : decode cX14_ofZone 60 = .ok (.iconst 0, 1) := by decide +kernel
theorem dX14_ofZone_61 : decode cX14_ofZone 61 = .ok (.iadd, 1) := by decide +kernel
theorem dX14_ofZone_62 : decode cX14_ofZone 62 = .ok (.istore_n 3, 1) := by decide +kernel
theorem dX14_ofZone_63 : decode cX14_ofZone 63 = .ok (.iinc 4 1, 3) := by decide +kernel
theorem dX14_ofZone_66 : decode cX14_ofZone 66 = .ok (.goto (-61), 3) := by decide +kernel
theorem dX14_ofZone_40 : decode cX14_ofZone 40 = .ok (.iload_n 2, 1) := by decide +kernel
theorem dX14_ofZone_41 : decode cX14_ofZone 41 = .ok (.ifCond .eq 15, 3) := by decide +kernel
theorem dX14_ofZone_56 : decode cX14_ofZone 56 = .ok (.iconst 1, 1) := by decide +kernel
theorem dX14_ofZone_57 : decode cX14_ofZone 57 = .ok (.goto 4, 3) := by decide +kernel
theorem dX14_ofZone_44 : decode cX14_ofZone 44 = .ok (.aload_n 0, 1) := by decide +kernel
theorem dX14_ofZone_45 : decode cX14_ofZone 45 = .ok (.getfield 7, 3) := by decide +kernel
theorem dX14_ofZone_48 : decode cX14_ofZone 48 = .ok (.iload 5, 2) := by decide +kernel
theorem dX14_ofZone_50 : decode cX14_ofZone 50 = .ok (.iaload, 1) := by decide +kernel
theorem dX14_ofZone_51 : decode cX14_ofZone 51 = .ok (.bipush 50, 2) := by decide +kernel
theorem dX14_ofZone_53 : decode cX14_ofZone 53 = .ok (.if_icmp .lt 7, 3) := by decide +kernel
theorem dX14_ofZone_69 : decode cX14_ofZone 69 = .ok (.iload_n 3, 1) := by decide +kernel
theorem dX14_ofZone_70 : decode cX14_ofZone 70 = .ok (.ireturn, 1) := by decide +kernel
theorem dX14_isOn_0 : decode cX14_isOn 0 = .ok (.aload_n 0, 1) := by decide +kernel
theorem dX14_isOn_1 : decode cX14_isOn 1 = .ok (.iload_n 1, 1) := by decide +kernel
theorem dX14_isOn_2 : decode cX14_isOn 2 = .ok (.iconst 1, 1) := by decide +kernel
theorem dX14_isOn_3 : decode cX14_isOn 3 = .ok (.invokevirtual 208, 3) := by decide +kernel
theorem dX14_isOn_6 : decode cX14_isOn 6 = .ok (.aload_n 0, 1) := by decide +kernel
theorem dX14_isOn_7 : decode cX14_isOn 7 = .ok (.getfield 32, 3) := by decide +kernel
theorem dX14_isOn_10 : decode cX14_isOn 10 = .ok (.iload_n 1, 1) := by decide +kernel
theorem dX14_isOn_11 : decode cX14_isOn 11 = .ok (.iaload, 1) := by decide +kernel
theorem dX14_isOn_12 : decode cX14_isOn 12 = .ok (.if_icmp .lt 7, 3) := by decide +kernel
theorem dX14_isOn_19 : decode cX14_isOn 19 = .ok (.iconst 0, 1) := by decide +kernel
theorem dX14_isOn_20 : decode cX14_isOn 20 = .ok (.ireturn, 1) := by decide +kernel
theorem dX14_isOn_15 : decode cX14_isOn 15 = .ok (.iconst 1, 1) := by decide +kernel
theorem dX14_isOn_16 : decode cX14_isOn 16 = .ok (.goto 4, 3) := by decide +kernel
theorem dX14_isSure_0 : decode cX14_isSure 0 = .ok (.aload_n 0, 1) := by decide +kernel
theorem dX14_isSure_1 : decode cX14_isSure 1 = .ok (.iload_n 1, 1) := by decide +kernel
theorem dX14_isSure_2 : decode cX14_isSure 2 = .ok (.iconst 0, 1) := by decide +kernel
theorem dX14_isSure_3 : decode cX14_isSure 3 = .ok (.invokevirtual 208, 3) := by decide +kernel
theorem dX14_isSure_6 : decode cX14_isSure 6 = .ok (.istore_n 2, 1) := by decide +kernel
theorem dX14_isSure_7 : decode cX14_isSure 7 = .ok (.iload_n 2, 1) := by decide +kernel
theorem dX14_isSure_8 : decode cX14_isSure 8 = .ok (.ifCond .le 17, 3) := by decide +kernel
theorem dX14_isSure_25 : decode cX14_isSure 25 = .ok (.iconst 0, 1) := by decide +kernel
theorem dX14_isSure_26 : decode cX14_isSure 26 = .ok (.ireturn, 1) := by decide +kernel
theorem dX14_isSure_11 : decode cX14_isSure 11 = .ok (.aload_n 0, 1) := by decide +kernel
theorem dX14_isSure_12 : decode cX14_isSure 12 = .ok (.iload_n 1, 1) := by decide +kernel
theorem dX14_isSure_13 : decode cX14_isSure 13 = .ok (.iconst 1, 1) := by decide +kernel
theorem dX14_isSure_14 : decode cX14_isSure 14 = .ok (.invokevirtual 208, 3) := by decide +kernel
theorem dX14_isSure_17 : decode cX14_isSure 17 = .ok (.iload_n 2, 1) := by decide +kernel
theorem dX14_isSure_18 : decode cX14_isSure 18 = .ok (.if_icmp .ne 7, 3) := by decide +kernel
theorem dX14_isSure_21 : decode cX14_isSure 21 = .ok (.iconst 1, 1) := by decide +kernel
theorem dX14_isSure_22 : decode cX14_isSure 22 = .ok (.goto 4, 3) := by decide +kernel
theorem dX14_isMet_0 : decode cX14_isMet 0 = .ok (.aload_n 0, 1) := by decide +kernel
theorem dX14_isMet_1 : decode cX14_isMet 1 = .ok (.aload_n 0, 1) := by decide +kernel
theorem dX14_isMet_2 : decode cX14_isMet 2 = .ok (.getfield 56, 3) := by decide +kernel
theorem dX14_isMet_5 : decode cX14_isMet 5 = .ok (.iload_n 1, 1) := by decide +kernel
theorem dX14_isMet_6 : decode cX14_isMet 6 = .ok (.iaload, 1) := by decide +kernel
theorem dX14_isMet_7 : decode cX14_isMet 7 = .ok (.invokevirtual 212, 3) := by decide +kernel
theorem dX14_isMet_10 : decode cX14_isMet 10 = .ok (.ifCond .eq 29, 3) := by decide +kernel
theorem dX14_isMet_39 : decode cX14_isMet 39 = .ok (.iconst 0, 1) := by decide +kernel
theorem dX14_isMet_40 : decode cX14_isMet 40 = .ok (.ireturn, 1) := by decide +kernel
theorem dX14_isMet_13 : decode cX14_isMet 13 = .ok (.aload_n 0, 1) := by decide +kernel
theorem dX14_isMet_14 : decode cX14_isMet 14 = .ok (.getfield 59, 3) := by decide +kernel
theorem dX14_isMet_17 : decode cX14_isMet 17 = .ok (.iload_n 1, 1) := by decide +kernel
theorem dX14_isMet_18 : decode cX14_isMet 18 = .ok (.iaload, 1) := by decide +kernel
theorem dX14_isMet_19 : decode cX14_isMet 19 = .ok (.ifCond .lt 16, 3) := by decide +kernel
theorem dX14_isMet_35 : decode cX14_isMet 35 = .ok (.iconst 1, 1) := by decide +kernel
theorem dX14_isMet_36 : decode cX14_isMet 36 = .ok (.goto 4, 3) := by decide +kernel
theorem dX14_isMet_22 : decode cX14_isMet 22 = .ok (.aload_n 0, 1) := by decide +kernel
theorem dX14_isMet_23 : decode cX14_isMet 23 = .ok (.aload_n 0, 1) := by decide +kernel
theorem dX14_isMet_24 : decode cX14_isMet 24 = .ok (.getfield 59, 3) := by decide +kernel
theorem dX14_isMet_27 : decode cX14_isMet 27 = .ok (.iload_n 1, 1) := by decide +kernel
theorem dX14_isMet_28 : decode cX14_isMet 28 = .ok (.iaload, 1) := by decide +kernel
theorem dX14_isMet_29 : decode cX14_isMet 29 = .ok (.invokevirtual 212, 3) := by decide +kernel
theorem dX14_isMet_32 : decode cX14_isMet 32 = .ok (.ifCond .eq 7, 3) := by decide +kernel
theorem dX14_isCalled_0 : decode cX14_isCalled 0 = .ok (.iconst 0, 1) := by decide +kernel
theorem dX14_isCalled_1 : decode cX14_isCalled 1 = .ok (.istore_n 3, 1) := by decide +kernel
theorem dX14_isCalled_2 : decode cX14_isCalled 2 = .ok (.iconst 0, 1) := by decide +kernel
theorem dX14_isCalled_3 : decode cX14_isCalled 3 = .ok (.istore 4, 2) := by decide +kernel
theorem dX14_isCalled_5 : decode cX14_isCalled 5 = .ok (.iload 4, 2) := by decide +kernel
theorem dX14_isCalled_7 : decode cX14_isCalled 7 = .ok (.aload_n 0, 1) := by decide +kernel
theorem dX14_isCalled_8 : decode cX14_isCalled 8 = .ok (.getfield 196, 3) := by decide +kernel
theorem dX14_isCalled_11 : decode cX14_isCalled 11 = .ok (.if_icmp .ge 113, 3) := by decide +kernel
theorem dX14_isCalled_14 : decode cX14_isCalled 14 = .ok (.aload_n 0, 1) := by decide +kernel
theorem dX14_isCalled_15 : decode cX14_isCalled 15 = .ok (.getfield 62, 3) := by decide +kernel
theorem dX14_isCalled_18 : decode cX14_isCalled 18 = .ok (.iload 4, 2) := by decide +kernel
theorem dX14_isCalled_20 : decode cX14_isCalled 20 = .ok (.iaload, 1) := by decide +kernel
theorem dX14_isCalled_21 : decode cX14_isCalled 21 = .ok (.iload_n 1, 1) := by decide +kernel
theorem dX14_isCalled_22 : decode cX14_isCalled 22 = .ok (.if_icmp .ne 16, 3) := by decide +kernel
theorem dX14_isCalled_38 : decode cX14_isCalled 38 = .ok (.iconst 0, 1) := by decide +kernel
theorem dX14_isCalled_39 : decode cX14_isCalled 39 = .ok (.istore 5, 2) := by decide +kernel
theorem dX14_isCalled_41 : decode cX14_isCalled 41 = .ok (.iload 5, 2) := by decide +kernel
theorem dX14_isCalled_43 : decode cX14_isCalled 43 = .ok (.ifCond .eq 45, 3) := by decide +kernel
theorem dX14_isCalled_88 : decode cX14_isCalled 88 = .ok (.iconst 0, 1) := by decide +kernel
theorem dX14_isCalled_89 : decode cX14_isCalled 89 = .ok (.istore 6, 2) := by decide +kernel
theorem dX14_isCalled_91 : decode cX14_isCalled 91 = .ok (.iload_n 3, 1) := by decide +kernel
theorem dX14_isCalled_92 : decode cX14_isCalled 92 = .ok (.ifCond .ne 20, 3) := by decide +kernel
theorem dX14_isCalled_112 : decode cX14_isCalled 112 = .ok (.iconst 1, 1) := by decide +kernel
theorem dX14_isCalled_113 : decode cX14_isCalled 113 = .ok (.goto 4, 3) := by decide +kernel
theorem dX14_isCalled_117 : decode cX14_isCalled 117 = .ok (.istore_n 3, 1) := by decide +kernel
theorem dX14_isCalled_118 : decode cX14_isCalled 118 = .ok (.iinc 4 1, 3) := by decide +kernel
theorem dX14_isCalled_121 : decode cX14_isCalled 121 = .ok (.goto (-116), 3) := by decide +kernel
theorem dX14_isCalled_95 : decode cX14_isCalled 95 = .ok (.iload_n 2, 1) := by decide +kernel
theorem dX14_isCalled_96 : decode cX14_isCalled 96 = .ok (.ifCond .eq 11, 3) := by decide +kernel
theorem dX14_isCalled_107 : decode cX14_isCalled 107 = .ok (.iload 5, 2) := by decide +kernel
theorem dX14_isCalled_109 : decode cX14_isCalled 109 = .ok (.ifCond .eq 7, 3) := by decide +kernel
theorem dX14_isCalled_116 : decode cX14_isCalled 116 = .ok (.iconst 0, 1) := by decide +kernel
theorem dX14_isCalled_99 : decode cX14_isCalled 99 = .ok (.iload 6, 2) := by decide +kernel
theorem dX14_isCalled_101 : decode cX14_isCalled 101 = .ok (.ifCond .eq 15, 3) := by decide +kernel
theorem dX14_isCalled_104 : decode cX14_isCalled 104 = .ok (.goto 8, 3) := by decide +kernel
theorem dX14_isCalled_46 : decode cX14_isCalled 46 = .ok (.aload_n 0, 1) := by decide +kernel
theorem dX14_isCalled_47 : decode cX14_isCalled 47 = .ok (.aload_n 0, 1) := by decide +kernel
theorem dX14_isCalled_48 : decode cX14_isCalled 48 = .ok (.getfield 56, 3) := by decide +kernel
theorem dX14_isCalled_51 : decode cX14_isCalled 51 = .ok (.iload 4, 2) := by decide +kernel
theorem dX14_isCalled_53 : decode cX14_isCalled 53 = .ok (.iaload, 1) := by decide +kernel
theorem dX14_isCalled_54 : decode cX14_isCalled 54 = .ok (.invokevirtual 218, 3) := by decide +kernel
theorem dX14_isCalled_57 : decode cX14_isCalled 57 = .ok (.ifCond .ne 27, 3) := by decide +kernel
theorem dX14_isCalled_84 : decode cX14_isCalled 84 = .ok (.iconst 1, 1) := by decide +kernel
theorem dX14_isCalled_85 : decode cX14_isCalled 85 = .ok (.goto 4, 3) := by decide +kernel
theorem dX14_isCalled_60 : decode cX14_isCalled 60 = .ok (.aload_n 0, 1) := by decide +kernel
theorem dX14_isCalled_61 : decode cX14_isCalled 61 = .ok (.getfield 59, 3) := by decide +kernel
theorem dX14_isCalled_64 : decode cX14_isCalled 64 = .ok (.iload 4, 2) := by decide +kernel
theorem dX14_isCalled_66 : decode cX14_isCalled 66 = .ok (.iaload, 1) := by decide +kernel
theorem dX14_isCalled_67 : decode cX14_isCalled 67 = .ok (.ifCond .lt 21, 3) := by decide +kernel
theorem dX14_isCalled_70 : decode cX14_isCalled 70 = .ok (.aload_n 0, 1) := by decide +kernel
theorem dX14_isCalled_71 : decode cX14_isCalled 71 = .ok (.aload_n 0, 1) := by decide +kernel
theorem dX14_isCalled_72 : decode cX14_isCalled 72 = .ok (.getfield 59, 3) := by decide +kernel
theorem dX14_isCalled_75 : decode cX14_isCalled 75 = .ok (.iload 4, 2) := by decide +kernel
theorem dX14_isCalled_77 : decode cX14_isCalled 77 = .ok (.iaload, 1) := by decide +kernel
theorem dX14_isCalled_78 : decode cX14_isCalled 78 = .ok (.invokevirtual 218, 3) := by decide +kernel
theorem dX14_isCalled_81 : decode cX14_isCalled 81 = .ok (.ifCond .eq 7, 3) := by decide +kernel
theorem dX14_isCalled_25 : decode cX14_isCalled 25 = .ok (.aload_n 0, 1) := by decide +kernel
theorem dX14_isCalled_26 : decode cX14_isCalled 26 = .ok (.iload 4, 2) := by decide +kernel
theorem dX14_isCalled_28 : decode cX14_isCalled 28 = .ok (.invokevirtual 215, 3) := by decide +kernel
theorem dX14_isCalled_31 : decode cX14_isCalled 31 = .ok (.ifCond .eq 7, 3) := by decide +kernel
theorem dX14_isCalled_34 : decode cX14_isCalled 34 = .ok (.iconst 1, 1) := by decide +kernel
theorem dX14_isCalled_35 : decode cX14_isCalled 35 = .ok (.goto 4, 3) := by decide +kernel
theorem dX14_isCalled_124 : decode cX14_isCalled 124 = .ok (.iload_n 3, 1) := by decide +kernel
theorem dX14_isCalled_125 : decode cX14_isCalled 125 = .ok (.ireturn, 1) := by decide +kernel
theorem dX14_tell_0 : decode cX14_tell 0 = .ok (.aload_n 0, 1) := by decide +kernel
theorem dX14_tell_1 : decode cX14_tell 1 = .ok (.getfield 221, 3) := by decide +kernel
theorem dX14_tell_4 : decode cX14_tell 4 = .ok (.bipush 60, 2) := by decide +kernel
theorem dX14_tell_6 : decode cX14_tell 6 = .ok (.if_icmp .ne 69, 3) := by decide +kernel
theorem dX14_tell_75 : decode cX14_tell 75 = .ok (.aload_n 0, 1) := by decide +kernel
theorem dX14_tell_76 : decode cX14_tell 76 = .ok (.getfield 77, 3) := by decide +kernel
theorem dX14_tell_79 : decode cX14_tell 79 = .ok (.aload_n 0, 1) := by decide +kernel
theorem dX14_tell_80 : decode cX14_tell 80 = .ok (.getfield 221, 3) := by decide +kernel
theorem dX14_tell_83 : decode cX14_tell 83 = .ok (.aload_n 0, 1) := by decide +kernel
theorem dX14_tell_84 : decode cX14_tell 84 = .ok (.getfield 202, 3) := by decide +kernel
theorem dX14_tell_87 : decode cX14_tell 87 = .ok (.iastore, 1) := by decide +kernel
theorem dX14_tell_88 : decode cX14_tell 88 = .ok (.aload_n 0, 1) := by decide +kernel
theorem dX14_tell_89 : decode cX14_tell 89 = .ok (.getfield 80, 3) := by decide +kernel
theorem dX14_tell_92 : decode cX14_tell 92 = .ok (.aload_n 0, 1) := by decide +kernel
theorem dX14_tell_93 : decode cX14_tell 93 = .ok (.getfield 221, 3) := by decide +kernel
theorem dX14_tell_96 : decode cX14_tell 96 = .ok (.iload_n 1, 1) := by decide +kernel
theorem dX14_tell_97 : decode cX14_tell 97 = .ok (.iastore, 1) := by decide +kernel
theorem dX14_tell_98 : decode cX14_tell 98 = .ok (.aload_n 0, 1) := by decide +kernel
theorem dX14_tell_99 : decode cX14_tell 99 = .ok (.getfield 83, 3) := by decide +kernel
theorem dX14_tell_102 : decode cX14_tell 102 = .ok (.aload_n 0, 1) := by decide +kernel
theorem dX14_tell_103 : decode cX14_tell 103 = .ok (.getfield 221, 3) := by decide +kernel
theorem dX14_tell_106 : decode cX14_tell 106 = .ok (.iload_n 2, 1) := by decide +kernel
theorem dX14_tell_107 : decode cX14_tell 107 = .ok (.iastore, 1) := by decide +kernel
theorem dX14_tell_108 : decode cX14_tell 108 = .ok (.aload_n 0, 1) := by decide +kernel
theorem dX14_tell_109 : decode cX14_tell 109 = .ok (.dup, 1) := by decide +kernel
theorem dX14_tell_110 : decode cX14_tell 110 = .ok (.getfield 221, 3) := by decide +kernel
theorem dX14_tell_113 : decode cX14_tell 113 = .ok (.iconst 1, 1) := by decide +kernel
theorem dX14_tell_114 : decode cX14_tell 114 = .ok (.iadd, 1) := by decide +kernel
theorem dX14_tell_115 : decode cX14_tell 115 = .ok (.putfield 221, 3) := by decide +kernel
theorem dX14_tell_118 : decode cX14_tell 118 = .ok (.return_, 1) := by decide +kernel
theorem dX14_tell_9 : decode cX14_tell 9 = .ok (.iconst 1, 1) := by decide +kernel
theorem dX14_tell_10 : decode cX14_tell 10 = .ok (.istore_n 3, 1) := by decide +kernel
theorem dX14_tell_11 : decode cX14_tell 11 = .ok (.iload_n 3, 1) := by decide +kernel
theorem dX14_tell_12 : decode cX14_tell 12 = .ok (.bipush 60, 2) := by decide +kernel
theorem dX14_tell_14 : decode cX14_tell 14 = .ok (.if_icmp .ge 51, 3) := by decide +kernel
theorem dX14_tell_17 : decode cX14_tell 17 = .ok (.aload_n 0, 1) := by decide +kernel
theorem dX14_tell_18 : decode cX14_tell 18 = .ok (.getfield 77, 3) := by decide +kernel
theorem dX14_tell_21 : decode cX14_tell 21 = .ok (.iload_n 3, 1) := by decide +kernel
theorem dX14_tell_22 : decode cX14_tell 22 = .ok (.iconst 1, 1) := by decide +kernel
theorem dX14_tell_23 : decode cX14_tell 23 = .ok (.isub, 1) := by decide +kernel
theorem dX14_tell_24 : decode cX14_tell 24 = .ok (.aload_n 0, 1) := by decide +kernel
theorem dX14_tell_25 : decode cX14_tell 25 = .ok (.getfield 77, 3) := by decide +kernel
theorem dX14_tell_28 : decode cX14_tell 28 = .ok (.iload_n 3, 1) := by decide +kernel
theorem dX14_tell_29 : decode cX14_tell 29 = .ok (.iaload, 1) := by decide +kernel
theorem dX14_tell_30 : decode cX14_tell 30 = .ok (.iastore, 1) := by decide +kernel
theorem dX14_tell_31 : decode cX14_tell 31 = .ok (.aload_n 0, 1) := by decide +kernel
theorem dX14_tell_32 : decode cX14_tell 32 = .ok (.getfield 80, 3) := by decide +kernel
theorem dX14_tell_35 : decode cX14_tell 35 = .ok (.iload_n 3, 1) := by decide +kernel
theorem dX14_tell_36 : decode cX14_tell 36 = .ok (.iconst 1, 1) := by decide +kernel
theorem dX14_tell_37 : decode cX14_tell 37 = .ok (.isub, 1) := by decide +kernel
theorem dX14_tell_38 : decode cX14_tell 38 = .ok (.aload_n 0, 1) := by decide +kernel
theorem dX14_tell_39 : decode cX14_tell 39 = .ok (.getfield 80, 3) := by decide +kernel
theorem dX14_tell_42 : decode cX14_tell 42 = .ok (.iload_n 3, 1) := by decide +kernel
theorem dX14_tell_43 : decode cX14_tell 43 = .ok (.iaload, 1) := by decide +kernel
theorem dX14_tell_44 : decode cX14_tell 44 = .ok (.iastore, 1) := by decide +kernel
theorem dX14_tell_45 : decode cX14_tell 45 = .ok (.aload_n 0, 1) := by decide +kernel
theorem dX14_tell_46 : decode cX14_tell 46 = .ok (.getfield 83, 3) := by decide +kernel
theorem dX14_tell_49 : decode cX14_tell 49 = .ok (.iload_n 3, 1) := by decide +kernel
theorem dX14_tell_50 : decode cX14_tell 50 = .ok (.iconst 1, 1) := by decide +kernel
theorem dX14_tell_51 : decode cX14_tell 51 = .ok (.isub, 1) := by decide +kernel
theorem dX14_tell_52 : decode cX14_tell 52 = .ok (.aload_n 0, 1) := by decide +kernel
theorem dX14_tell_53 : decode cX14_tell 53 = .ok (.getfield 83, 3) := by decide +kernel
theorem dX14_tell_56 : decode cX14_tell 56 = .ok (.iload_n 3, 1) := by decide +kernel
theorem dX14_tell_57 : decode cX14_tell 57 = .ok (.iaload, 1) := by decide +kernel
theorem dX14_tell_58 : decode cX14_tell 58 = .ok (.iastore, 1) := by decide +kernel
theorem dX14_tell_59 : decode cX14_tell 59 = .ok (.iinc 3 1, 3) := by decide +kernel
theorem dX14_tell_62 : decode cX14_tell 62 = .ok (.goto (-51), 3) := by decide +kernel
theorem dX14_tell_65 : decode cX14_tell 65 = .ok (.aload_n 0, 1) := by decide +kernel
theorem dX14_tell_66 : decode cX14_tell 66 = .ok (.dup, 1) := by decide +kernel
theorem dX14_tell_67 : decode cX14_tell 67 = .ok (.getfield 221, 3) := by decide +kernel
theorem dX14_tell_70 : decode cX14_tell 70 = .ok (.iconst 1, 1) := by decide +kernel
theorem dX14_tell_71 : decode cX14_tell 71 = .ok (.isub, 1) := by decide +kernel
theorem dX14_tell_72 : decode cX14_tell 72 = .ok (.putfield 221, 3) := by decide +kernel
theorem dX14_rankedOne_0 : decode cX14_rankedOne 0 = .ok (.iconst 0, 1) := by decide +kernel
theorem dX14_rankedOne_1 : decode cX14_rankedOne 1 = .ok (.istore_n 2, 1) := by decide +kernel
theorem dX14_rankedOne_2 : decode cX14_rankedOne 2 = .ok (.iload_n 2, 1) := by decide +kernel
theorem dX14_rankedOne_3 : decode cX14_rankedOne 3 = .ok (.bipush 20, 2) := by decide +kernel
theorem dX14_rankedOne_5 : decode cX14_rankedOne 5 = .ok (.if_icmp .ge 111, 3) := by decide +kernel
theorem dX14_rankedOne_8 : decode cX14_rankedOne 8 = .ok (.iconst 0, 1) := by decide +kernel
theorem dX14_rankedOne_9 : decode cX14_rankedOne 9 = .ok (.istore_n 3, 1) := by decide +kernel
theorem dX14_rankedOne_10 : decode cX14_rankedOne 10 = .ok (.iconst 0, 1) := by decide +kernel
theorem dX14_rankedOne_11 : decode cX14_rankedOne 11 = .ok (.istore 4, 2) := by decide +kernel
theorem dX14_rankedOne_13 : decode cX14_rankedOne 13 = .ok (.iload 4, 2) := by decide +kernel
theorem dX14_rankedOne_15 : decode cX14_rankedOne 15 = .ok (.bipush 20, 2) := by decide +kernel
theorem dX14_rankedOne_17 : decode cX14_rankedOne 17 = .ok (.if_icmp .ge 77, 3) := by decide +kernel
theorem dX14_rankedOne_20 : decode cX14_rankedOne 20 = .ok (.aload_n 0, 1) := by decide +kernel
theorem dX14_rankedOne_21 : decode cX14_rankedOne 21 = .ok (.getfield 47, 3) := by decide +kernel
theorem dX14_rankedOne_24 : decode cX14_rankedOne 24 = .ok (.iload 4, 2) := by decide +kernel
theorem dX14_rankedOne_26 : decode cX14_rankedOne 26 = .ok (.iaload, 1) := by decide +kernel
theorem dX14_rankedOne_27 : decode cX14_rankedOne 27 = .ok (.aload_n 0, 1) := by decide +kernel
theorem dX14_rankedOne_28 : decode cX14_rankedOne 28 = .ok (.getfield 47, 3) := by decide +kernel
theorem dX14_rankedOne_31 : decode cX14_rankedOne 31 = .ok (.iload_n 2, 1) := by decide +kernel
theorem dX14_rankedOne_32 : decode cX14_rankedOne 32 = .ok (.iaload, 1) := by decide +kernel
theorem dX14_rankedOne_33 : decode cX14_rankedOne 33 = .ok (.if_icmp .gt 25, 3) := by decide +kernel
theorem dX14_rankedOne_58 : decode cX14_rankedOne 58 = .ok (.iconst 1, 1) := by decide +kernel
theorem dX14_rankedOne_59 : decode cX14_rankedOne 59 = .ok (.goto 4, 3) := by decide +kernel
theorem dX14_rankedOne_63 : decode cX14_rankedOne 63 = .ok (.istore 5, 2) := by decide +kernel
theorem dX14_rankedOne_65 : decode cX14_rankedOne 65 = .ok (.iload_n 3, 1) := by decide +kernel
theorem dX14_rankedOne_66 : decode cX14_rankedOne 66 = .ok (.aload_n 0, 1) := by decide +kernel
theorem dX14_rankedOne_67 : decode cX14_rankedOne 67 = .ok (.getfield 41, 3) := by decide +kernel
theorem dX14_rankedOne_70 : decode cX14_rankedOne 70 = .ok (.iload 4, 2) := by decide +kernel
theorem dX14_rankedOne_72 : decode cX14_rankedOne 72 = .ok (.baload, 1) := by decide +kernel
theorem dX14_rankedOne_73 : decode cX14_rankedOne 73 = .ok (.ifCond .eq 12, 3) := by decide +kernel
theorem dX14_rankedOne_85 : decode cX14_rankedOne 85 = .ok (.iconst 0, 1) := by decide +kernel
theorem dX14_rankedOne_86 : decode cX14_rankedOne 86 = .ok (.iadd, 1) := by decide +kernel
theorem dX14_rankedOne_87 : decode cX14_rankedOne 87 = .ok (.istore_n 3, 1) := by decide +kernel
theorem dX14_rankedOne_88 : decode cX14_rankedOne 88 = .ok (.iinc 4 1, 3) := by decide +kernel
theorem dX14_rankedOne_91 : decode cX14_rankedOne 91 = .ok (.goto (-78), 3) := by decide +kernel
theorem dX14_rankedOne_76 : decode cX14_rankedOne 76 = .ok (.iload 5, 2) := by decide +kernel
theorem dX14_rankedOne_78 : decode cX14_rankedOne 78 = .ok (.ifCond .eq 7, 3) := by decide +kernel
theorem dX14_rankedOne_81 : decode cX14_rankedOne 81 = .ok (.iconst 1, 1) := by decide +kernel
theorem dX14_rankedOne_82 : decode cX14_rankedOne 82 = .ok (.goto 4, 3) := by decide +kernel
theorem dX14_rankedOne_36 : decode cX14_rankedOne 36 = .ok (.aload_n 0, 1) := by decide +kernel
theorem dX14_rankedOne_37 : decode cX14_rankedOne 37 = .ok (.getfield 47, 3) := by decide +kernel
theorem dX14_rankedOne_40 : decode cX14_rankedOne 40 = .ok (.iload 4, 2) := by decide +kernel
theorem dX14_rankedOne_42 : decode cX14_rankedOne 42 = .ok (.iaload, 1) := by decide +kernel
theorem dX14_rankedOne_43 : decode cX14_rankedOne 43 = .ok (.aload_n 0, 1) := by decide +kernel
theorem dX14_rankedOne_44 : decode cX14_rankedOne 44 = .ok (.getfield 47, 3) := by decide +kernel
theorem dX14_rankedOne_47 : decode cX14_rankedOne 47 = .ok (.iload_n 2, 1) := by decide +kernel
theorem dX14_rankedOne_48 : decode cX14_rankedOne 48 = .ok (.iaload, 1) := by decide +kernel
theorem dX14_rankedOne_49 : decode cX14_rankedOne 49 = .ok (.if_icmp .ne 13, 3) := by decide +kernel
theorem dX14_rankedOne_62 : decode cX14_rankedOne 62 = .ok (.iconst 0, 1) := by decide +kernel
theorem dX14_rankedOne_52 : decode cX14_rankedOne 52 = .ok (.iload 4, 2) := by decide +kernel
theorem dX14_rankedOne_54 : decode cX14_rankedOne 54 = .ok (.iload_n 2, 1) := by decide +kernel
theorem dX14_rankedOne_55 : decode cX14_rankedOne 55 = .ok (.if_icmp .ge 7, 3) := by decide +kernel
theorem dX14_rankedOne_94 : decode cX14_rankedOne 94 = .ok (.aload_n 0, 1) := by decide +kernel
theorem dX14_rankedOne_95 : decode cX14_rankedOne 95 = .ok (.getfield 41, 3) := by decide +kernel
theorem dX14_rankedOne_98 : decode cX14_rankedOne 98 = .ok (.iload_n 2, 1) := by decide +kernel
theorem dX14_rankedOne_99 : decode cX14_rankedOne 99 = .ok (.baload, 1) := by decide +kernel
theorem dX14_rankedOne_100 : decode cX14_rankedOne 100 = .ok (.ifCond .eq 10, 3) := by decide +kernel
theorem dX14_rankedOne_110 : decode cX14_rankedOne 110 = .ok (.iinc 2 1, 3) := by decide +kernel
theorem dX14_rankedOne_113 : decode cX14_rankedOne 113 = .ok (.goto (-111), 3) := by decide +kernel
theorem dX14_rankedOne_103 : decode cX14_rankedOne 103 = .ok (.iload_n 3, 1) := by decide +kernel
theorem dX14_rankedOne_104 : decode cX14_rankedOne 104 = .ok (.iload_n 1, 1) := by decide +kernel
theorem dX14_rankedOne_105 : decode cX14_rankedOne 105 = .ok (.if_icmp .ne 5, 3) := by decide +kernel
theorem dX14_rankedOne_108 : decode cX14_rankedOne 108 = .ok (.iload_n 2, 1) := by decide +kernel
theorem dX14_rankedOne_109 : decode cX14_rankedOne 109 = .ok (.ireturn, 1) := by decide +kernel
theorem dX14_rankedOne_116 : decode cX14_rankedOne 116 = .ok (.iconst (-1), 1) := by decide +kernel
theorem dX14_rankedOne_117 : decode cX14_rankedOne 117 = .ok (.ireturn, 1) := by decide +kernel
theorem dX14_go_0 : decode cX14_go 0 = .ok (.aload_n 0, 1) := by decide +kernel
theorem dX14_go_1 : decode cX14_go 1 = .ok (.iload_n 1, 1) := by decide +kernel
theorem dX14_go_2 : decode cX14_go 2 = .ok (.iconst 0, 1) := by decide +kernel
theorem dX14_go_3 : decode cX14_go 3 = .ok (.invokevirtual 224, 3) := by decide +kernel
theorem dX14_go_6 : decode cX14_go 6 = .ok (.ifCond .ne 67, 3) := by decide +kernel
theorem dX14_go_73 : decode cX14_go 73 = .ok (.aload_n 0, 1) := by decide +kernel
theorem dX14_go_74 : decode cX14_go 74 = .ok (.getfield 65, 3) := by decide +kernel
theorem dX14_go_77 : decode cX14_go 77 = .ok (.iload_n 1, 1) := by decide +kernel
theorem dX14_go_78 : decode cX14_go 78 = .ok (.iaload, 1) := by decide +kernel
theorem dX14_go_79 : decode cX14_go 79 = .ok (.iconst 2, 1) := by decide +kernel
theorem dX14_go_80 : decode cX14_go 80 = .ok (.if_icmp .ne 5, 3) := by decide +kernel
theorem dX14_go_85 : decode cX14_go 85 = .ok (.aload_n 0, 1) := by decide +kernel
theorem dX14_go_86 : decode cX14_go 86 = .ok (.getfield 65, 3) := by decide +kernel
theorem dX14_go_89 : decode cX14_go 89 = .ok (.iload_n 1, 1) := by decide +kernel
theorem dX14_go_90 : decode cX14_go 90 = .ok (.iaload, 1) := by decide +kernel
theorem dX14_go_91 : decode cX14_go 91 = .ok (.ifCond .ne 20, 3) := by decide +kernel
theorem dX14_go_111 : decode cX14_go 111 = .ok (.aload_n 0, 1) := by decide +kernel
theorem dX14_go_112 : decode cX14_go 112 = .ok (.getfield 202, 3) := by decide +kernel
theorem dX14_go_115 : decode cX14_go 115 = .ok (.aload_n 0, 1) := by decide +kernel
theorem dX14_go_116 : decode cX14_go 116 = .ok (.getfield 68, 3) := by decide +kernel
theorem dX14_go_119 : decode cX14_go 119 = .ok (.iload_n 1, 1) := by decide +kernel
theorem dX14_go_120 : decode cX14_go 120 = .ok (.iaload, 1) := by decide +kernel
theorem dX14_go_121 : decode cX14_go 121 = .ok (.aload_n 0, 1) := by decide +kernel
theorem dX14_go_122 : decode cX14_go 122 = .ok (.getfield 50, 3) := by decide +kernel
theorem dX14_go_125 : decode cX14_go 125 = .ok (.iload_n 1, 1) := by decide +kernel
theorem dX14_go_126 : decode cX14_go 126 = .ok (.iaload, 1) := by decide +kernel
theorem dX14_go_127 : decode cX14_go 127 = .ok (.iadd, 1) := by decide +kernel
theorem dX14_go_128 : decode cX14_go 128 = .ok (.if_icmp .ge 23, 3) := by decide +kernel
theorem dX14_go_151 : decode cX14_go 151 = .ok (.aload_n 0, 1) := by decide +kernel
theorem dX14_go_152 : decode cX14_go 152 = .ok (.iload_n 1, 1) := by decide +kernel
theorem dX14_go_153 : decode cX14_go 153 = .ok (.invokevirtual 199, 3) := by decide +kernel
theorem dX14_go_156 : decode cX14_go 156 = .ok (.aload_n 0, 1) := by decide +kernel
theorem dX14_go_157 : decode cX14_go 157 = .ok (.getfield 65, 3) := by decide +kernel
theorem dX14_go_160 : decode cX14_go 160 = .ok (.iload_n 1, 1) := by decide +kernel
theorem dX14_go_161 : decode cX14_go 161 = .ok (.iconst 2, 1) := by decide +kernel
theorem dX14_go_162 : decode cX14_go 162 = .ok (.iastore, 1) := by decide +kernel
theorem dX14_go_163 : decode cX14_go 163 = .ok (.aload_n 0, 1) := by decide +kernel
theorem dX14_go_164 : decode cX14_go 164 = .ok (.iload_n 1, 1) := by decide +kernel
theorem dX14_go_165 : decode cX14_go 165 = .ok (.iconst 1, 1) := by decide +kernel
theorem dX14_go_166 : decode cX14_go 166 = .ok (.invokevirtual 228, 3) := by decide +kernel
theorem dX14_go_169 : decode cX14_go 169 = .ok (.iconst 1, 1) := by decide +kernel
theorem dX14_go_170 : decode cX14_go 170 = .ok (.ireturn, 1) := by decide +kernel
theorem dX14_go_131 : decode cX14_go 131 = .ok (.aload_n 0, 1) := by decide +kernel
theorem dX14_go_132 : decode cX14_go 132 = .ok (.getfield 74, 3) := by decide +kernel
theorem dX14_go_135 : decode cX14_go 135 = .ok (.iload_n 1, 1) := by decide +kernel
theorem dX14_go_136 : decode cX14_go 136 = .ok (.baload, 1) := by decide +kernel
theorem dX14_go_137 : decode cX14_go 137 = .ok (.ifCond .ne 14, 3) := by decide +kernel
theorem dX14_go_140 : decode cX14_go 140 = .ok (.aload_n 0, 1) := by decide +kernel
theorem dX14_go_141 : decode cX14_go 141 = .ok (.iload_n 1, 1) := by decide +kernel
theorem dX14_go_142 : decode cX14_go 142 = .ok (.iconst 1, 1) := by decide +kernel
theorem dX14_go_143 : decode cX14_go 143 = .ok (.invokevirtual 224, 3) := by decide +kernel
theorem dX14_go_146 : decode cX14_go 146 = .ok (.ifCond .ne 5, 3) := by decide +kernel
theorem dX14_go_149 : decode cX14_go 149 = .ok (.iconst (-1), 1) := by decide +kernel
theorem dX14_go_150 : decode cX14_go 150 = .ok (.ireturn, 1) := by decide +kernel
theorem dX14_go_94 : decode cX14_go 94 = .ok (.aload_n 0, 1) := by decide +kernel
theorem dX14_go_95 : decode cX14_go 95 = .ok (.getfield 65, 3) := by decide +kernel
theorem dX14_go_98 : decode cX14_go 98 = .ok (.iload_n 1, 1) := by decide +kernel
theorem dX14_go_99 : decode cX14_go 99 = .ok (.iconst 1, 1) := by decide +kernel
theorem dX14_go_100 : decode cX14_go 100 = .ok (.iastore, 1) := by decide +kernel
theorem dX14_go_101 : decode cX14_go 101 = .ok (.aload_n 0, 1) := by decide +kernel
theorem dX14_go_102 : decode cX14_go 102 = .ok (.getfield 68, 3) := by decide +kernel
theorem dX14_go_105 : decode cX14_go 105 = .ok (.iload_n 1, 1) := by decide +kernel
theorem dX14_go_106 : decode cX14_go 106 = .ok (.aload_n 0, 1) := by decide +kernel
theorem dX14_go_107 : decode cX14_go 107 = .ok (.getfield 202, 3) := by decide +kernel
theorem dX14_go_110 : decode cX14_go 110 = .ok (.iastore, 1) := by decide +kernel
theorem dX14_go_83 : decode cX14_go 83 = .ok (.iconst (-1), 1) := by decide +kernel
theorem dX14_go_84 : decode cX14_go 84 = .ok (.ireturn, 1) := by decide +kernel
theorem dX14_go_9 : decode cX14_go 9 = .ok (.aload_n 0, 1) := by decide +kernel
theorem dX14_go_10 : decode cX14_go 10 = .ok (.getfield 65, 3) := by decide +kernel
theorem dX14_go_13 : decode cX14_go 13 = .ok (.iload_n 1, 1) := by decide +kernel
theorem dX14_go_14 : decode cX14_go 14 = .ok (.iaload, 1) := by decide +kernel
theorem dX14_go_15 : decode cX14_go 15 = .ok (.iconst 2, 1) := by decide +kernel
theorem dX14_go_16 : decode cX14_go 16 = .ok (.if_icmp .ne 16, 3) := by decide +kernel
theorem dX14_go_32 : decode cX14_go 32 = .ok (.iconst 0, 1) := by decide +kernel
theorem dX14_go_33 : decode cX14_go 33 = .ok (.istore_n 2, 1) := by decide +kernel
theorem dX14_go_34 : decode cX14_go 34 = .ok (.iload_n 2, 1) := by decide +kernel
theorem dX14_go_35 : decode cX14_go 35 = .ok (.ifCond .eq 9, 3) := by decide +kernel
theorem dX14_go_44 : decode cX14_go 44 = .ok (.iload_n 2, 1) := by decide +kernel
theorem dX14_go_45 : decode cX14_go 45 = .ok (.ifCond .ne 13, 3) := by decide +kernel
theorem dX14_go_58 : decode cX14_go 58 = .ok (.aload_n 0, 1) := by decide +kernel
theorem dX14_go_59 : decode cX14_go 59 = .ok (.iload_n 1, 1) := by decide +kernel
theorem dX14_go_60 : decode cX14_go 60 = .ok (.invokevirtual 199, 3) := by decide +kernel
theorem dX14_go_63 : decode cX14_go 63 = .ok (.iload_n 2, 1) := by decide +kernel
theorem dX14_go_64 : decode cX14_go 64 = .ok (.ifCond .eq 7, 3) := by decide +kernel
theorem dX14_go_71 : decode cX14_go 71 = .ok (.iconst (-1), 1) := by decide +kernel
theorem dX14_go_72 : decode cX14_go 72 = .ok (.ireturn, 1) := by decide +kernel
theorem dX14_go_67 : decode cX14_go 67 = .ok (.iconst 0, 1) := by decide +kernel
theorem dX14_go_68 : decode cX14_go 68 = .ok (.goto 4, 3) := by decide +kernel
theorem dX14_go_48 : decode cX14_go 48 = .ok (.aload_n 0, 1) := by decide +kernel
theorem dX14_go_49 : decode cX14_go 49 = .ok (.getfield 65, 3) := by decide +kernel
theorem dX14_go_52 : decode cX14_go 52 = .ok (.iload_n 1, 1) := by decide +kernel
theorem dX14_go_53 : decode cX14_go 53 = .ok (.iaload, 1) := by decide +kernel
theorem dX14_go_54 : decode cX14_go 54 = .ok (.iconst 1, 1) := by decide +kernel
theorem dX14_go_55 : decode cX14_go 55 = .ok (.if_icmp .ne 8, 3) := by decide +kernel
theorem dX14_go_38 : decode cX14_go 38 = .ok (.aload_n 0, 1) := by decide +kernel
theorem dX14_go_39 : decode cX14_go 39 = .ok (.iload_n 1, 1) := by decide +kernel
theorem dX14_go_40 : decode cX14_go 40 = .ok (.iconst 0, 1) := by decide +kernel
theorem dX14_go_41 : decode cX14_go 41 = .ok (.invokevirtual 228, 3) := by decide +kernel
theorem dX14_go_19 : decode cX14_go 19 = .ok (.aload_n 0, 1) := by decide +kernel
theorem dX14_go_20 : decode cX14_go 20 = .ok (.getfield 53, 3) := by decide +kernel
theorem dX14_go_23 : decode cX14_go 23 = .ok (.iload_n 1, 1) := by decide +kernel
theorem dX14_go_24 : decode cX14_go 24 = .ok (.baload, 1) := by decide +kernel
theorem dX14_go_25 : decode cX14_go 25 = .ok (.ifCond .ne 7, 3) := by decide +kernel
theorem dX14_go_28 : decode cX14_go 28 = .ok (.iconst 1, 1) := by decide +kernel
theorem dX14_go_29 : decode cX14_go 29 = .ok (.goto 4, 3) := by decide +kernel
theorem dX14_resets_0 : decode cX14_resets 0 = .ok (.aload_n 0, 1) := by decide +kernel
theorem dX14_resets_1 : decode cX14_resets 1 = .ok (.getfield 53, 3) := by decide +kernel
theorem dX14_resets_4 : decode cX14_resets 4 = .ok (.iload_n 1, 1) := by decide +kernel
theorem dX14_resets_5 : decode cX14_resets 5 = .ok (.baload, 1) := by decide +kernel
theorem dX14_resets_6 : decode cX14_resets 6 = .ok (.ifCond .eq 22, 3) := by decide +kernel
theorem dX14_resets_28 : decode cX14_resets 28 = .ok (.iconst 0, 1) := by decide +kernel
theorem dX14_resets_29 : decode cX14_resets 29 = .ok (.ireturn, 1) := by decide +kernel
theorem dX14_resets_9 : decode cX14_resets 9 = .ok (.aload_n 0, 1) := by decide +kernel
theorem dX14_resets_10 : decode cX14_resets 10 = .ok (.getfield 65, 3) := by decide +kernel
theorem dX14_resets_13 : decode cX14_resets 13 = .ok (.iload_n 1, 1) := by decide +kernel
theorem dX14_resets_14 : decode cX14_resets 14 = .ok (.iaload, 1) := by decide +kernel
theorem dX14_resets_15 : decode cX14_resets 15 = .ok (.iconst 2, 1) := by decide +kernel
theorem dX14_resets_16 : decode cX14_resets 16 = .ok (.if_icmp .ne 12, 3) := by decide +kernel
theorem dX14_resets_19 : decode cX14_resets 19 = .ok (.aload_n 0, 1) := by decide +kernel
theorem dX14_resets_20 : decode cX14_resets 20 = .ok (.iload_n 1, 1) := by decide +kernel
theorem dX14_resets_21 : decode cX14_resets 21 = .ok (.iconst 0, 1) := by decide +kernel
theorem dX14_resets_22 : decode cX14_resets 22 = .ok (.invokevirtual 224, 3) := by decide +kernel
theorem dX14_resets_25 : decode cX14_resets 25 = .ok (.ifCond .eq 5, 3) := by decide +kernel
theorem dX14_resets_30 : decode cX14_resets 30 = .ok (.aload_n 0, 1) := by decide +kernel
theorem dX14_resets_31 : decode cX14_resets 31 = .ok (.iload_n 1, 1) := by decide +kernel
theorem dX14_resets_32 : decode cX14_resets 32 = .ok (.invokevirtual 199, 3) := by decide +kernel
theorem dX14_resets_35 : decode cX14_resets 35 = .ok (.aload_n 0, 1) := by decide +kernel
theorem dX14_resets_36 : decode cX14_resets 36 = .ok (.iload_n 1, 1) := by decide +kernel
theorem dX14_resets_37 : decode cX14_resets 37 = .ok (.iconst 0, 1) := by decide +kernel
theorem dX14_resets_38 : decode cX14_resets 38 = .ok (.invokevirtual 228, 3) := by decide +kernel
theorem dX14_resets_41 : decode cX14_resets 41 = .ok (.iconst 1, 1) := by decide +kernel
theorem dX14_resets_42 : decode cX14_resets 42 = .ok (.ireturn, 1) := by decide +kernel
theorem dX14_attend_0 : decode cX14_attend 0 = .ok (.iconst 0, 1) := by decide +kernel
theorem dX14_attend_1 : decode cX14_attend 1 = .ok (.istore_n 2, 1) := by decide +kernel
theorem dX14_attend_2 : decode cX14_attend 2 = .ok (.iconst 0, 1) := by decide +kernel
theorem dX14_attend_3 : decode cX14_attend 3 = .ok (.istore_n 3, 1) := by decide +kernel
theorem dX14_attend_4 : decode cX14_attend 4 = .ok (.iload_n 3, 1) := by decide +kernel
theorem dX14_attend_5 : decode cX14_attend 5 = .ok (.bipush 20, 2) := by decide +kernel
theorem dX14_attend_7 : decode cX14_attend 7 = .ok (.if_icmp .ge 114, 3) := by decide +kernel
theorem dX14_attend_10 : decode cX14_attend 10 = .ok (.aload_n 0, 1) := by decide +kernel
theorem dX14_attend_11 : decode cX14_attend 11 = .ok (.getfield 41, 3) := by decide +kernel
theorem dX14_attend_14 : decode cX14_attend 14 = .ok (.iload_n 3, 1) := by decide +kernel
theorem dX14_attend_15 : decode cX14_attend 15 = .ok (.baload, 1) := by decide +kernel
theorem dX14_attend_16 : decode cX14_attend 16 = .ok (.ifCond .eq 42, 3) := by decide +kernel
theorem dX14_attend_58 : decode cX14_attend 58 = .ok (.iconst 0, 1) := by decide +kernel
theorem dX14_attend_59 : decode cX14_attend 59 = .ok (.istore 4, 2) := by decide +kernel
theorem dX14_attend_61 : decode cX14_attend 61 = .ok (.iload 4, 2) := by decide +kernel
theorem dX14_attend_63 : decode cX14_attend 63 = .ok (.ifCond .eq 27, 3) := by decide +kernel
theorem dX14_attend_90 : decode cX14_attend 90 = .ok (.iload 4, 2) := by decide +kernel
theorem dX14_attend_92 : decode cX14_attend 92 = .ok (.ifCond .eq 10, 3) := by decide +kernel
theorem dX14_attend_102 : decode cX14_attend 102 = .ok (.iload_n 2, 1) := by decide +kernel
theorem dX14_attend_103 : decode cX14_attend 103 = .ok (.iload 4, 2) := by decide +kernel
theorem dX14_attend_105 : decode cX14_attend 105 = .ok (.ifCond .eq 7, 3) := by decide +kernel
theorem dX14_attend_112 : decode cX14_attend 112 = .ok (.iconst 0, 1) := by decide +kernel
theorem dX14_attend_113 : decode cX14_attend 113 = .ok (.iadd, 1) := by decide +kernel
theorem dX14_attend_114 : decode cX14_attend 114 = .ok (.istore_n 2, 1) := by decide +kernel
theorem dX14_attend_115 : decode cX14_attend 115 = .ok (.iinc 3 1, 3) := by decide +kernel
theorem dX14_attend_118 : decode cX14_attend 118 = .ok (.goto (-114), 3) := by decide +kernel
theorem dX14_attend_108 : decode cX14_attend 108 = .ok (.iconst 1, 1) := by decide +kernel
theorem dX14_attend_109 : decode cX14_attend 109 = .ok (.goto 4, 3) := by decide +kernel
theorem dX14_attend_95 : decode cX14_attend 95 = .ok (.aload_n 0, 1) := by decide +kernel
theorem dX14_attend_96 : decode cX14_attend 96 = .ok (.getfield 74, 3) := by decide +kernel
theorem dX14_attend_99 : decode cX14_attend 99 = .ok (.iload_n 3, 1) := by decide +kernel
theorem dX14_attend_100 : decode cX14_attend 100 = .ok (.iconst 1, 1) := by decide +kernel
theorem dX14_attend_101 : decode cX14_attend 101 = .ok (.bastore, 1) := by decide +kernel
theorem dX14_attend_66 : decode cX14_attend 66 = .ok (.iload_n 1, 1) := by decide +kernel
theorem dX14_attend_67 : decode cX14_attend 67 = .ok (.ifCond .ne 23, 3) := by decide +kernel
theorem dX14_attend_70 : decode cX14_attend 70 = .ok (.aload_n 0, 1) := by decide +kernel
theorem dX14_attend_71 : decode cX14_attend 71 = .ok (.getfield 68, 3) := by decide +kernel
theorem dX14_attend_74 : decode cX14_attend 74 = .ok (.iload_n 3, 1) := by decide +kernel
theorem dX14_attend_75 : decode cX14_attend 75 = .ok (.aload_n 0, 1) := by decide +kernel
theorem dX14_attend_76 : decode cX14_attend 76 = .ok (.getfield 202, 3) := by decide +kernel
theorem dX14_attend_79 : decode cX14_attend 79 = .ok (.iastore, 1) := by decide +kernel
theorem dX14_attend_80 : decode cX14_attend 80 = .ok (.aload_n 0, 1) := by decide +kernel
theorem dX14_attend_81 : decode cX14_attend 81 = .ok (.getfield 71, 3) := by decide +kernel
theorem dX14_attend_84 : decode cX14_attend 84 = .ok (.iload_n 3, 1) := by decide +kernel
theorem dX14_attend_85 : decode cX14_attend 85 = .ok (.iconst 1, 1) := by decide +kernel
theorem dX14_attend_86 : decode cX14_attend 86 = .ok (.bastore, 1) := by decide +kernel
theorem dX14_attend_87 : decode cX14_attend 87 = .ok (.goto 15, 3) := by decide +kernel
theorem dX14_attend_19 : decode cX14_attend 19 = .ok (.aload_n 0, 1) := by decide +kernel
theorem dX14_attend_20 : decode cX14_attend 20 = .ok (.getfield 65, 3) := by decide +kernel
theorem dX14_attend_23 : decode cX14_attend 23 = .ok (.iload_n 3, 1) := by decide +kernel
theorem dX14_attend_24 : decode cX14_attend 24 = .ok (.iaload, 1) := by decide +kernel
theorem dX14_attend_25 : decode cX14_attend 25 = .ok (.iconst 1, 1) := by decide +kernel
theorem dX14_attend_26 : decode cX14_attend 26 = .ok (.if_icmp .ne 32, 3) := by decide +kernel
theorem dX14_attend_29 : decode cX14_attend 29 = .ok (.iload_n 1, 1) := by decide +kernel
theorem dX14_attend_30 : decode cX14_attend 30 = .ok (.ifCond .ne 15, 3) := by decide +kernel
theorem dX14_attend_45 : decode cX14_attend 45 = .ok (.aload_n 0, 1) := by decide +kernel
theorem dX14_attend_46 : decode cX14_attend 46 = .ok (.getfield 74, 3) := by decide +kernel
theorem dX14_attend_49 : decode cX14_attend 49 = .ok (.iload_n 3, 1) := by decide +kernel
theorem dX14_attend_50 : decode cX14_attend 50 = .ok (.baload, 1) := by decide +kernel
theorem dX14_attend_51 : decode cX14_attend 51 = .ok (.ifCond .ne 7, 3) := by decide +kernel
theorem dX14_attend_54 : decode cX14_attend 54 = .ok (.iconst 1, 1) := by decide +kernel
theorem dX14_attend_55 : decode cX14_attend 55 = .ok (.goto 4, 3) := by decide +kernel
theorem dX14_attend_33 : decode cX14_attend 33 = .ok (.aload_n 0, 1) := by decide +kernel
theorem dX14_attend_34 : decode cX14_attend 34 = .ok (.getfield 71, 3) := by decide +kernel
theorem dX14_attend_37 : decode cX14_attend 37 = .ok (.iload_n 3, 1) := by decide +kernel
theorem dX14_attend_38 : decode cX14_attend 38 = .ok (.baload, 1) := by decide +kernel
theorem dX14_attend_39 : decode cX14_attend 39 = .ok (.ifCond .eq 15, 3) := by decide +kernel
theorem dX14_attend_42 : decode cX14_attend 42 = .ok (.goto 16, 3) := by decide +kernel
theorem dX14_attend_121 : decode cX14_attend 121 = .ok (.iload_n 2, 1) := by decide +kernel
theorem dX14_attend_122 : decode cX14_attend 122 = .ok (.ireturn, 1) := by decide +kernel
theorem dX14_done_0 : decode cX14_done 0 = .ok (.iconst 0, 1) := by decide +kernel
theorem dX14_done_1 : decode cX14_done 1 = .ok (.istore_n 2, 1) := by decide +kernel
theorem dX14_done_2 : decode cX14_done 2 = .ok (.iconst 0, 1) := by decide +kernel
theorem dX14_done_3 : decode cX14_done 3 = .ok (.istore_n 3, 1) := by decide +kernel
theorem dX14_done_4 : decode cX14_done 4 = .ok (.iload_n 3, 1) := by decide +kernel
theorem dX14_done_5 : decode cX14_done 5 = .ok (.bipush 20, 2) := by decide +kernel
theorem dX14_done_7 : decode cX14_done 7 = .ok (.if_icmp .ge 50, 3) := by decide +kernel
theorem dX14_done_10 : decode cX14_done 10 = .ok (.iload_n 2, 1) := by decide +kernel
theorem dX14_done_11 : decode cX14_done 11 = .ok (.aload_n 0, 1) := by decide +kernel
theorem dX14_done_12 : decode cX14_done 12 = .ok (.getfield 41, 3) := by decide +kernel
theorem dX14_done_15 : decode cX14_done 15 = .ok (.iload_n 3, 1) := by decide +kernel
theorem dX14_done_16 : decode cX14_done 16 = .ok (.baload, 1) := by decide +kernel
theorem dX14_done_17 : decode cX14_done 17 = .ok (.ifCond .eq 31, 3) := by decide +kernel
theorem dX14_done_48 : decode cX14_done 48 = .ok (.iconst 0, 1) := by decide +kernel
theorem dX14_done_49 : decode cX14_done 49 = .ok (.iadd, 1) := by decide +kernel
theorem dX14_done_50 : decode cX14_done 50 = .ok (.istore_n 2, 1) := by decide +kernel
theorem dX14_done_51 : decode cX14_done 51 = .ok (.iinc 3 1, 3) := by decide +kernel
theorem dX14_done_54 : decode cX14_done 54 = .ok (.goto (-50), 3) := by decide +kernel
theorem dX14_done_20 : decode cX14_done 20 = .ok (.aload_n 0, 1) := by decide +kernel
theorem dX14_done_21 : decode cX14_done 21 = .ok (.getfield 65, 3) := by decide +kernel
theorem dX14_done_24 : decode cX14_done 24 = .ok (.iload_n 3, 1) := by decide +kernel
theorem dX14_done_25 : decode cX14_done 25 = .ok (.iaload, 1) := by decide +kernel
theorem dX14_done_26 : decode cX14_done 26 = .ok (.iconst 2, 1) := by decide +kernel
theorem dX14_done_27 : decode cX14_done 27 = .ok (.if_icmp .ne 21, 3) := by decide +kernel
theorem dX14_done_30 : decode cX14_done 30 = .ok (.iload_n 1, 1) := by decide +kernel
theorem dX14_done_31 : decode cX14_done 31 = .ok (.ifCond .lt 13, 3) := by decide +kernel
theorem dX14_done_44 : decode cX14_done 44 = .ok (.iconst 1, 1) := by decide +kernel
theorem dX14_done_45 : decode cX14_done 45 = .ok (.goto 4, 3) := by decide +kernel
theorem dX14_done_34 : decode cX14_done 34 = .ok (.aload_n 0, 1) := by decide +kernel
theorem dX14_done_35 : decode cX14_done 35 = .ok (.getfield 44, 3) := by decide +kernel
theorem dX14_done_38 : decode cX14_done 38 = .ok (.iload_n 3, 1) := by decide +kernel
theorem dX14_done_39 : decode cX14_done 39 = .ok (.iaload, 1) := by decide +kernel
theorem dX14_done_40 : decode cX14_done 40 = .ok (.iload_n 1, 1) := by decide +kernel
theorem dX14_done_41 : decode cX14_done 41 = .ok (.if_icmp .ne 7, 3) := by decide +kernel
theorem dX14_done_57 : decode cX14_done 57 = .ok (.iload_n 2, 1) := by decide +kernel
theorem dX14_done_58 : decode cX14_done 58 = .ok (.ireturn, 1) := by decide +kernel
theorem dX14_act_0 : decode cX14_act 0 = .ok (.iload_n 2, 1) := by decide +kernel
theorem dX14_act_1 : decode cX14_act 1 = .ok (.ifCond .ne 12, 3) := by decide +kernel
theorem dX14_act_13 : decode cX14_act 13 = .ok (.iload_n 2, 1) := by decide +kernel
theorem dX14_act_14 : decode cX14_act 14 = .ok (.iconst 1, 1) := by decide +kernel
theorem dX14_act_15 : decode cX14_act 15 = .ok (.if_icmp .ne 12, 3) := by decide +kernel
theorem dX14_act_27 : decode cX14_act 27 = .ok (.iload_n 2, 1) := by decide +kernel
theorem dX14_act_28 : decode cX14_act 28 = .ok (.iconst 2, 1) := by decide +kernel
theorem dX14_act_29 : decode cX14_act 29 = .ok (.if_icmp .ne 12, 3) := by decide +kernel
theorem dX14_act_41 : decode cX14_act 41 = .ok (.iload_n 2, 1) := by decide +kernel
theorem dX14_act_42 : decode cX14_act 42 = .ok (.iconst 3, 1) := by decide +kernel
theorem dX14_act_43 : decode cX14_act 43 = .ok (.if_icmp .ne 12, 3) := by decide +kernel
theorem dX14_act_55 : decode cX14_act 55 = .ok (.iload_n 2, 1) := by decide +kernel
theorem dX14_act_56 : decode cX14_act 56 = .ok (.iconst 4, 1) := by decide +kernel
theorem dX14_act_57 : decode cX14_act 57 = .ok (.if_icmp .ne 12, 3) := by decide +kernel
theorem dX14_act_69 : decode cX14_act 69 = .ok (.aload_n 0, 1) := by decide +kernel
theorem dX14_act_70 : decode cX14_act 70 = .ok (.getfield 53, 3) := by decide +kernel
theorem dX14_act_73 : decode cX14_act 73 = .ok (.iload_n 1, 1) := by decide +kernel
theorem dX14_act_74 : decode cX14_act 74 = .ok (.baload, 1) := by decide +kernel
theorem dX14_act_75 : decode cX14_act 75 = .ok (.ifCond .eq 7, 3) := by decide +kernel
theorem dX14_act_82 : decode cX14_act 82 = .ok (.iconst 0, 1) := by decide +kernel
theorem dX14_act_83 : decode cX14_act 83 = .ok (.ireturn, 1) := by decide +kernel
theorem dX14_act_78 : decode cX14_act 78 = .ok (.iconst 1, 1) := by decide +kernel
theorem dX14_act_79 : decode cX14_act 79 = .ok (.goto 4, 3) := by decide +kernel
theorem dX14_act_60 : decode cX14_act 60 = .ok (.aload_n 0, 1) := by decide +kernel
theorem dX14_act_61 : decode cX14_act 61 = .ok (.getfield 50, 3) := by decide +kernel
theorem dX14_act_64 : decode cX14_act 64 = .ok (.iload_n 1, 1) := by decide +kernel
theorem dX14_act_65 : decode cX14_act 65 = .ok (.iaload, 1) := by decide +kernel
theorem dX14_act_66 : decode cX14_act 66 = .ok (.goto 17, 3) := by decide +kernel
theorem dX14_act_46 : decode cX14_act 46 = .ok (.aload_n 0, 1) := by decide +kernel
theorem dX14_act_47 : decode cX14_act 47 = .ok (.getfield 47, 3) := by decide +kernel
theorem dX14_act_50 : decode cX14_act 50 = .ok (.iload_n 1, 1) := by decide +kernel
theorem dX14_act_51 : decode cX14_act 51 = .ok (.iaload, 1) := by decide +kernel
theorem dX14_act_52 : decode cX14_act 52 = .ok (.goto 31, 3) := by decide +kernel
theorem dX14_act_32 : decode cX14_act 32 = .ok (.aload_n 0, 1) := by decide +kernel
theorem dX14_act_33 : decode cX14_act 33 = .ok (.getfield 44, 3) := by decide +kernel
theorem dX14_act_36 : decode cX14_act 36 = .ok (.iload_n 1, 1) := by decide +kernel
theorem dX14_act_37 : decode cX14_act 37 = .ok (.iaload, 1) := by decide +kernel
theorem dX14_act_38 : decode cX14_act 38 = .ok (.goto 45, 3) := by decide +kernel
theorem dX14_act_18 : decode cX14_act 18 = .ok (.aload_n 0, 1) := by decide +kernel
theorem dX14_act_19 : decode cX14_act 19 = .ok (.getfield 68, 3) := by decide +kernel
theorem dX14_act_22 : decode cX14_act 22 = .ok (.iload_n 1, 1) := by decide +kernel
theorem dX14_act_23 : decode cX14_act 23 = .ok (.iaload, 1) := by decide +kernel
theorem dX14_act_24 : decode cX14_act 24 = .ok (.goto 59, 3) := by decide +kernel
theorem dX14_act_4 : decode cX14_act 4 = .ok (.aload_n 0, 1) := by decide +kernel
theorem dX14_act_5 : decode cX14_act 5 = .ok (.getfield 65, 3) := by decide +kernel
theorem dX14_act_8 : decode cX14_act 8 = .ok (.iload_n 1, 1) := by decide +kernel
theorem dX14_act_9 : decode cX14_act 9 = .ok (.iaload, 1) := by decide +kernel
theorem dX14_act_10 : decode cX14_act 10 = .ok (.goto 73, 3) := by decide +kernel
theorem dX14_event_0 : decode cX14_event 0 = .ok (.aload_n 0, 1) := by decide +kernel
theorem dX14_event_1 : decode cX14_event 1 = .ok (.getfield 221, 3) := by decide +kernel
theorem dX14_event_4 : decode cX14_event 4 = .ok (.iconst 1, 1) := by decide +kernel
theorem dX14_event_5 : decode cX14_event 5 = .ok (.isub, 1) := by decide +kernel
theorem dX14_event_6 : decode cX14_event 6 = .ok (.iload_n 1, 1) := by decide +kernel
theorem dX14_event_7 : decode cX14_event 7 = .ok (.isub, 1) := by decide +kernel
theorem dX14_event_8 : decode cX14_event 8 = .ok (.istore_n 3, 1) := by decide +kernel
theorem dX14_event_9 : decode cX14_event 9 = .ok (.iload_n 2, 1) := by decide +kernel
theorem dX14_event_10 : decode cX14_event 10 = .ok (.ifCond .ne 12, 3) := by decide +kernel
theorem dX14_event_22 : decode cX14_event 22 = .ok (.iload_n 2, 1) := by decide +kernel
theorem dX14_event_23 : decode cX14_event 23 = .ok (.iconst 1, 1) := by decide +kernel
theorem dX14_event_24 : decode cX14_event 24 = .ok (.if_icmp .ne 12, 3) := by decide +kernel
theorem dX14_event_36 : decode cX14_event 36 = .ok (.aload_n 0, 1) := by decide +kernel
theorem dX14_event_37 : decode cX14_event 37 = .ok (.getfield 83, 3) := by decide +kernel
theorem dX14_event_40 : decode cX14_event 40 = .ok (.iload_n 3, 1) := by decide +kernel
theorem dX14_event_41 : decode cX14_event 41 = .ok (.iaload, 1) := by decide +kernel
theorem dX14_event_42 : decode cX14_event 42 = .ok (.ireturn, 1) := by decide +kernel
theorem dX14_event_27 : decode cX14_event 27 = .ok (.aload_n 0, 1) := by decide +kernel
theorem dX14_event_28 : decode cX14_event 28 = .ok (.getfield 80, 3) := by decide +kernel
theorem dX14_event_31 : decode cX14_event 31 = .ok (.iload_n 3, 1) := by decide +kernel
theorem dX14_event_32 : decode cX14_event 32 = .ok (.iaload, 1) := by decide +kernel
theorem dX14_event_33 : decode cX14_event 33 = .ok (.goto 9, 3) := by decide +kernel
theorem dX14_event_13 : decode cX14_event 13 = .ok (.aload_n 0, 1) := by decide +kernel
theorem dX14_event_14 : decode cX14_event 14 = .ok (.getfield 77, 3) := by decide +kernel
theorem dX14_event_17 : decode cX14_event 17 = .ok (.iload_n 3, 1) := by decide +kernel
theorem dX14_event_18 : decode cX14_event 18 = .ok (.iaload, 1) := by decide +kernel
theorem dX14_event_19 : decode cX14_event 19 = .ok (.goto 23, 3) := by decide +kernel
theorem dX15_init_0 : decode cX15_init 0 = .ok (.aload_n 0, 1) := by decide +kernel
theorem dX15_init_1 : decode cX15_init 1 = .ok (.invokespecial 1, 3) := by decide +kernel
theorem dX15_init_4 : decode cX15_init 4 = .ok (.aload_n 0, 1) := by decide +kernel
theorem dX15_init_5 : decode cX15_init 5 = .ok (.sipush 800, 3) := by decide +kernel
theorem dX15_init_8 : decode cX15_init 8 = .ok (.newarray .int, 2) := by decide +kernel
theorem dX15_init_10 : decode cX15_init 10 = .ok (.putfield 7, 3) := by decide +kernel
theorem dX15_init_13 : decode cX15_init 13 = .ok (.aload_n 0, 1) := by decide +kernel
theorem dX15_init_14 : decode cX15_init 14 = .ok (.bipush 40, 2) := by decide +kernel
theorem dX15_init_16 : decode cX15_init 16 = .ok (.newarray .long, 2) := by decide +kernel
theorem dX15_init_18 : decode cX15_init 18 = .ok (.putfield 13, 3) := by decide +kernel
theorem dX15_init_21 : decode cX15_init 21 = .ok (.aload_n 0, 1) := by decide +kernel
theorem dX15_init_22 : decode cX15_init 22 = .ok (.bipush 40, 2) := by decide +kernel
theorem dX15_init_24 : decode cX15_init 24 = .ok (.newarray .int, 2) := by decide +kernel
theorem dX15_init_26 : decode cX15_init 26 = .ok (.putfield 17, 3) := by decide +kernel
theorem dX15_init_29 : decode cX15_init 29 = .ok (.aload_n 0, 1) := by decide +kernel
theorem dX15_init_30 : decode cX15_init 30 = .ok (.bipush 24, 2) := by decide +kernel
theorem dX15_init_32 : decode cX15_init 32 = .ok (.newarray .long, 2) := by decide +kernel
theorem dX15_init_34 : decode cX15_init 34 = .ok (.putfield 20, 3) := by decide +kernel
theorem dX15_init_37 : decode cX15_init 37 = .ok (.aload_n 0, 1) := by decide +kernel
theorem dX15_init_38 : decode cX15_init 38 = .ok (.bipush 24, 2) := by decide +kernel
theorem dX15_init_40 : decode cX15_init 40 = .ok (.newarray .int, 2) := by decide +kernel
theorem dX15_init_42 : decode cX15_init 42 = .ok (.putfield 23, 3) := by decide +kernel
theorem dX15_init_45 : decode cX15_init 45 = .ok (.aload_n 0, 1) := by decide +kernel
theorem dX15_init_46 : decode cX15_init 46 = .ok (.bipush 24, 2) := by decide +kernel
theorem dX15_init_48 : decode cX15_init 48 = .ok (.newarray .int, 2) := by decide +kernel
theorem dX15_init_50 : decode cX15_init 50 = .ok (.putfield 26, 3) := by decide +kernel
theorem dX15_init_53 : decode cX15_init 53 = .ok (.aload_n 0, 1) := by decide +kernel
theorem dX15_init_54 : decode cX15_init 54 = .ok (.bipush 24, 2) := by decide +kernel
theorem dX15_init_56 : decode cX15_init 56 = .ok (.newarray .int, 2) := by decide +kernel
theorem dX15_init_58 : decode cX15_init 58 = .ok (.putfield 29, 3) := by decide +kernel
theorem dX15_init_61 : decode cX15_init 61 = .ok (.aload_n 0, 1) := by decide +kernel
theorem dX15_init_62 : decode cX15_init 62 = .ok (.bipush 120, 2) := by decide +kernel
theorem dX15_init_64 : decode cX15_init 64 = .ok (.newarray .int, 2) := by decide +kernel
theorem dX15_init_66 : decode cX15_init 66 = .ok (.putfield 32, 3) := by decide +kernel
theorem dX15_init_69 : decode cX15_init 69 = .ok (.aload_n 0, 1) := by decide +kernel
theorem dX15_init_70 : decode cX15_init 70 = .ok (.bipush 120, 2) := by decide +kernel
theorem dX15_init_72 : decode cX15_init 72 = .ok (.newarray .int, 2) := by decide +kernel
theorem dX15_init_74 : decode cX15_init 74 = .ok (.putfield 35, 3) := by decide +kernel
theorem dX15_init_77 : decode cX15_init 77 = .ok (.aload_n 0, 1) := by decide +kernel
theorem dX15_init_78 : decode cX15_init 78 = .ok (.bipush 120, 2) := by decide +kernel
theorem dX15_init_80 : decode cX15_init 80 = .ok (.newarray .int, 2) := by decide +kernel
theorem dX15_init_82 : decode cX15_init 82 = .ok (.putfield 38, 3) := by decide +kernel
theorem dX15_init_85 : decode cX15_init 85 = .ok (.aload_n 0, 1) := by decide +kernel
theorem dX15_init_86 : decode cX15_init 86 = .ok (.bipush 120, 2) := by decide +kernel
theorem dX15_init_88 : decode cX15_init 88 = .ok (.newarray .int, 2) := by decide +kernel
theorem dX15_init_90 : decode cX15_init 90 = .ok (.putfield 41, 3) := by decide +kernel
theorem dX15_init_93 : decode cX15_init 93 = .ok (.aload_n 0, 1) := by decide +kernel
theorem dX15_init_94 : decode cX15_init 94 = .ok (.sipush 800, 3) := by decide +kernel
theorem dX15_init_97 : decode cX15_init 97 = .ok (.newarray .int, 2) := by decide +kernel
theorem dX15_init_99 : decode cX15_init 99 = .ok (.putfield 44, 3) := by decide +kernel
theorem dX15_init_102 : decode cX15_init 102 = .ok (.aload_n 0, 1) := by decide +kernel
theorem dX15_init_103 : decode cX15_init 103 = .ok (.sipush 800, 3) := by decide +kernel
theorem dX15_init_106 : decode cX15_init 106 = .ok (.newarray .long, 2) := by decide +kernel
theorem dX15_init_108 : decode cX15_init 108 = .ok (.putfield 47, 3) := by decide +kernel
theorem dX15_init_111 : decode cX15_init 111 = .ok (.aload_n 0, 1) := by decide +kernel
theorem dX15_init_112 : decode cX15_init 112 = .ok (.iconst (-1), 1) := by decide +kernel
theorem dX15_init_113 : decode cX15_init 113 = .ok (.putfield 50, 3) := by decide +kernel
theorem dX15_init_116 : decode cX15_init 116 = .ok (.aload_n 0, 1) := by decide +kernel
theorem dX15_init_117 : decode cX15_init 117 = .ok (.bipush 12, 2) := by decide +kernel
theorem dX15_init_119 : decode cX15_init 119 = .ok (.newarray .int, 2) := by decide +kernel
theorem dX15_init_121 : decode cX15_init 121 = .ok (.putfield 54, 3) := by decide +kernel
theorem dX15_init_124 : decode cX15_init 124 = .ok (.aload_n 0, 1) := by decide +kernel
theorem dX15_init_125 : decode cX15_init 125 = .ok (.bipush 12, 2) := by decide +kernel
theorem dX15_init_127 : decode cX15_init 127 = .ok (.newarray .long, 2) := by decide +kernel
theorem dX15_init_129 : decode cX15_init 129 = .ok (.putfield 57, 3) := by decide +kernel
theorem dX15_init_132 : decode cX15_init 132 = .ok (.aload_n 0, 1) := by decide +kernel
theorem dX15_init_133 : decode cX15_init 133 = .ok (.bipush 12, 2) := by decide +kernel
theorem dX15_init_135 : decode cX15_init 135 = .ok (.newarray .long, 2) := by decide +kernel
theorem dX15_init_137 : decode cX15_init 137 = .ok (.putfield 60, 3) := by decide +kernel
theorem dX15_init_140 : decode cX15_init 140 = .ok (.aload_n 0, 1) := by decide +kernel
theorem dX15_init_141 : decode cX15_init 141 = .ok (.bipush 12, 2) := by decide +kernel
theorem dX15_init_143 : decode cX15_init 143 = .ok (.newarray .long, 2) := by decide +kernel
theorem dX15_init_145 : decode cX15_init 145 = .ok (.putfield 63, 3) := by decide +kernel
theorem dX15_init_148 : decode cX15_init 148 = .ok (.aload_n 0, 1) := by decide +kernel
theorem dX15_init_149 : decode cX15_init 149 = .ok (.bipush 12, 2) := by decide +kernel
theorem dX15_init_151 : decode cX15_init 151 = .ok (.newarray .long, 2) := by decide +kernel
theorem dX15_init_153 : decode cX15_init 153 = .ok (.putfield 66, 3) := by decide +kernel
theorem dX15_init_156 : decode cX15_init 156 = .ok (.aload_n 0, 1) := by decide +kernel
theorem dX15_init_157 : decode cX15_init 157 = .ok (.bipush 12, 2) := by decide +kernel
theorem dX15_init_159 : decode cX15_init 159 = .ok (.newarray .int, 2) := by decide +kernel
theorem dX15_init_161 : decode cX15_init 161 = .ok (.putfield 69, 3) := by decide +kernel
theorem dX15_init_164 : decode cX15_init 164 = .ok (.aload_n 0, 1) := by decide +kernel
theorem dX15_init_165 : decode cX15_init 165 = .ok (.bipush 12, 2) := by decide +kernel
theorem dX15_init_167 : decode cX15_init 167 = .ok (.newarray .long, 2) := by decide +kernel
theorem dX15_init_169 : decode cX15_init 169 = .ok (.putfield 72, 3) := by decide +kernel
theorem dX15_init_172 : decode cX15_init 172 = .ok (.aload_n 0, 1) := by decide +kernel
theorem dX15_init_173 : decode cX15_init 173 = .ok (.sipush 200, 3) := by decide +kernel
theorem dX15_init_176 : decode cX15_init 176 = .ok (.newarray .int, 2) := by decide +kernel
theorem dX15_init_178 : decode cX15_init 178 = .ok (.putfield 75, 3) := by decide +kernel
theorem dX15_init_181 : decode cX15_init 181 = .ok (.aload_n 0, 1) := by decide +kernel
theorem dX15_init_182 : decode cX15_init 182 = .ok (.sipush 130, 3) := by decide +kernel
theorem dX15_init_185 : decode cX15_init 185 = .ok (.newarray .long, 2) := by decide +kernel
theorem dX15_init_187 : decode cX15_init 187 = .ok (.putfield 78, 3) := by decide +kernel
theorem dX15_init_190 : decode cX15_init 190 = .ok (.aload_n 0, 1) := by decide +kernel
theorem dX15_init_191 : decode cX15_init 191 = .ok (.sipush 130, 3) := by decide +kernel
theorem dX15_init_194 : decode cX15_init 194 = .ok (.newarray .long, 2) := by decide +kernel
theorem dX15_init_196 : decode cX15_init 196 = .ok (.putfield 81, 3) := by decide +kernel
theorem dX15_init_199 : decode cX15_init 199 = .ok (.return_, 1) := by decide +kernel
theorem dX15_byteOf_0 : decode cX15_byteOf 0 = .ok (.lload_n 0, 1) := by decide +kernel
theorem dX15_byteOf_1 : decode cX15_byteOf 1 = .ok (.bipush 8, 2) := by decide +kernel
theorem dX15_byteOf_3 : decode cX15_byteOf 3 = .ok (.iload_n 2, 1) := by decide +kernel
theorem dX15_byteOf_4 : decode cX15_byteOf 4 = .ok (.imul, 1) := by decide +kernel
theorem dX15_byteOf_5 : decode cX15_byteOf 5 = .ok (.lshr, 1) := by decide +kernel
theorem dX15_byteOf_6 : decode cX15_byteOf 6 = .ok (.ldc2_w 84, 3) := by decide +kernel
theorem dX15_byteOf_9 : decode cX15_byteOf 9 = .ok (.land, 1) := by decide +kernel
theorem dX15_byteOf_10 : decode cX15_byteOf 10 = .ok (.l2i, 1) := by decide +kernel
theorem dX15_byteOf_11 : decode cX15_byteOf 11 = .ok (.ireturn, 1) := by decide +kernel
theorem dX15_characters_0 : decode cX15_characters 0 = .ok (.iconst 0, 1) := by decide +kernel
theorem dX15_characters_1 : decode cX15_characters 1 = .ok (.istore_n 2, 1) := by decide +kernel
theorem dX15_characters_2 : decode cX15_characters 2 = .ok (.iconst 0, 1) := by decide +kernel
theorem dX15_characters_3 : decode cX15_characters 3 = .ok (.istore_n 3, 1) := by decide +kernel
theorem dX15_characters_4 : decode cX15_characters 4 = .ok (.iload_n 3, 1) := by decide +kernel
theorem dX15_characters_5 : decode cX15_characters 5 = .ok (.bipush 8, 2) := by decide +kernel
theorem dX15_characters_7 : decode cX15_characters 7 = .ok (.if_icmp .ge 50, 3) := by decide +kernel
theorem dX15_characters_10 : decode cX15_characters 10 = .ok (.lload_n 0, 1) := by decide +kernel
theorem dX15_characters_11 : decode cX15_characters 11 = .ok (.iload_n 3, 1) := by decide +kernel
theorem dX15_characters_12 : decode cX15_characters 12 = .ok (.invokestatic 86, 3) := by decide +kernel
theorem dX15_characters_15 : decode cX15_characters 15 = .ok (.istore 4, 2) := by decide +kernel
theorem dX15_characters_17 : decode cX15_characters 17 = .ok (.iload 4, 2) := by decide +kernel
theorem dX15_characters_19 : decode cX15_characters 19 = .ok (.ifCond .le 10, 3) := by decide +kernel
theorem dX15_characters_29 : decode cX15_characters 29 = .ok (.iload 4, 2) := by decide +kernel
theorem dX15_characters_31 : decode cX15_characters 31 = .ok (.bipush 126, 2) := by decide +kernel
theorem dX15_characters_33 : decode cX15_characters 33 = .ok (.if_icmp .le 5, 3) := by decide +kernel
theorem dX15_characters_38 : decode cX15_characters 38 = .ok (.iload_n 2, 1) := by decide +kernel
theorem dX15_characters_39 : decode cX15_characters 39 = .ok (.iload 4, 2) := by decide +kernel
theorem dX15_characters_41 : decode cX15_characters 41 = .ok (.ifCond .le 7, 3) := by decide +kernel
theorem dX15_characters_48 : decode cX15_characters 48 = .ok (.iconst 0, 1) := by decide +kernel
theorem dX15_characters_49 : decode cX15_characters 49 = .ok (.iadd, 1) := by decide +kernel
theorem dX15_characters_50 : decode cX15_characters 50 = .ok (.istore_n 2, 1) := by decide +kernel
theorem dX15_characters_51 : decode cX15_characters 51 = .ok (.iinc 3 1, 3) := by decide +kernel
theorem dX15_characters_54 : decode cX15_characters 54 = .ok (.goto (-50), 3) := by decide +kernel
theorem dX15_characters_44 : decode cX15_characters 44 = .ok (.iconst 1, 1) := by decide +kernel
theorem dX15_characters_45 : decode cX15_characters 45 = .ok (.goto 4, 3) := by decide +kernel
theorem dX15_characters_36 : decode cX15_characters 36 = .ok (.iconst (-1), 1) := by decide +kernel
theorem dX15_characters_37 : decode cX15_characters 37 = .ok (.ireturn, 1) := by decide +kernel
theorem dX15_characters_22 : decode cX15_characters 22 = .ok (.iload 4, 2) := by decide +kernel
theorem dX15_characters_24 : decode cX15_characters 24 = .ok (.bipush 32, 2) := by decide +kernel
theorem dX15_characters_26 : decode cX15_characters 26 = .ok (.if_icmp .lt 10, 3) := by decide +kernel
theorem dX15_characters_57 : decode cX15_characters 57 = .ok (.iload_n 2, 1) := by decide +kernel
theorem dX15_characters_58 : decode cX15_characters 58 = .ok (.ireturn, 1) := by decide +kernel
theorem dX15_say_0 : decode cX15_say 0 = .ok (.bipush 7, 2) := by decide +kernel
theorem dX15_say_2 : decode cX15_say 2 = .ok (.istore_n 3, 1) := by decide +kernel
theorem dX15_say_3 : decode cX15_say 3 = .ok (.iload_n 3, 1) := by decide +kernel
theorem dX15_say_4 : decode cX15_say 4 = .ok (.ifCond .lt 41, 3) := by decide +kernel
theorem dX15_say_7 : decode cX15_say 7 = .ok (.lload_n 1, 1) := by decide +kernel
theorem dX15_say_8 : decode cX15_say 8 = .ok (.iload_n 3, 1) := by decide +kernel
theorem dX15_say_9 : decode cX15_say 9 = .ok (.invokestatic 86, 3) := by decide +kernel
theorem dX15_say_12 : decode cX15_say 12 = .ok (.ifCond .le 27, 3) := by decide +kernel
theorem dX15_say_39 : decode cX15_say 39 = .ok (.iinc 3 (-1), 3) := by decide +kernel
theorem dX15_say_42 : decode cX15_say 42 = .ok (.goto (-39), 3) := by decide +kernel
theorem dX15_say_15 : decode cX15_say 15 = .ok (.aload_n 0, 1) := by decide +kernel
theorem dX15_say_16 : decode cX15_say 16 = .ok (.getfield 7, 3) := by decide +kernel
theorem dX15_say_19 : decode cX15_say 19 = .ok (.aload_n 0, 1) := by decide +kernel
theorem dX15_say_20 : decode cX15_say 20 = .ok (.getfield 90, 3) := by decide +kernel
theorem dX15_say_23 : decode cX15_say 23 = .ok (.lload_n 1, 1) := by decide +kernel
theorem dX15_say_24 : decode cX15_say 24 = .ok (.iload_n 3, 1) := by decide +kernel
theorem dX15_say_25 : decode cX15_say 25 = .ok (.invokestatic 86, 3) := by decide +kernel
theorem dX15_say_28 : decode cX15_say 28 = .ok (.iastore, 1) := by decide +kernel
theorem dX15_say_29 : decode cX15_say 29 = .ok (.aload_n 0, 1) := by decide +kernel
theorem dX15_say_30 : decode cX15_say 30 = .ok (.dup, 1) := by decide +kernel
theorem dX15_say_31 : decode cX15_say 31 = .ok (.getfield 90, 3) := by decide +kernel
theorem dX15_say_34 : decode cX15_say 34 = .ok (.iconst 1, 1) := by decide +kernel
theorem dX15_say_35 : decode cX15_say 35 = .ok (.iadd, 1) := by decide +kernel
theorem dX15_say_36 : decode cX15_say 36 = .ok (.putfield 90, 3) := by decide +kernel
theorem dX15_say_45 : decode cX15_say 45 = .ok (.aload_n 0, 1) := by decide +kernel
theorem dX15_say_46 : decode cX15_say 46 = .ok (.getfield 90, 3) := by decide +kernel
theorem dX15_say_49 : decode cX15_say 49 = .ok (.ireturn, 1) := by decide +kernel
theorem dX15_charAt_0 : decode cX15_charAt 0 = .ok (.iload_n 1, 1) := by decide +kernel
theorem dX15_charAt_1 : decode cX15_charAt 1 = .ok (.aload_n 0, 1) := by decide +kernel
theorem dX15_charAt_2 : decode cX15_charAt 2 = .ok (.getfield 90, 3) := by decide +kernel
theorem dX15_charAt_5 : decode cX15_charAt 5 = .ok (.if_icmp .ge 12, 3) := by decide +kernel
theorem dX15_charAt_17 : decode cX15_charAt 17 = .ok (.bipush 32, 2) := by decide +kernel
theorem dX15_charAt_19 : decode cX15_charAt 19 = .ok (.ireturn, 1) := by decide +kernel
theorem dX15_charAt_8 : decode cX15_charAt 8 = .ok (.aload_n 0, 1) := by decide +kernel
theorem dX15_charAt_9 : decode cX15_charAt 9 = .ok (.getfield 7, 3) := by decide +kernel
theorem dX15_charAt_12 : decode cX15_charAt 12 = .ok (.iload_n 1, 1) := by decide +kernel
theorem dX15_charAt_13 : decode cX15_charAt 13 = .ok (.iaload, 1) := by decide +kernel
theorem dX15_charAt_14 : decode cX15_charAt 14 = .ok (.goto 5, 3) := by decide +kernel
theorem dX15_isDigit_0 : decode cX15_isDigit 0 = .ok (.iload_n 0, 1) := by decide +kernel
theorem dX15_isDigit_1 : decode cX15_isDigit 1 = .ok (.bipush 47, 2) := by decide +kernel
theorem dX15_isDigit_3 : decode cX15_isDigit 3 = .ok (.if_icmp .le 13, 3) := by decide +kernel
theorem dX15_isDigit_16 : decode cX15_isDigit 16 = .ok (.iconst 0, 1) := by decide +kernel
theorem dX15_isDigit_17 : decode cX15_isDigit 17 = .ok (.ireturn, 1) := by decide +kernel
theorem dX15_isDigit_6 : decode cX15_isDigit 6 = .ok (.iload_n 0, 1) := by decide +kernel
theorem dX15_isDigit_7 : decode cX15_isDigit 7 = .ok (.bipush 58, 2) := by decide +kernel
theorem dX15_isDigit_9 : decode cX15_isDigit 9 = .ok (.if_icmp .ge 7, 3) := by decide +kernel
theorem dX15_isDigit_12 : decode cX15_isDigit 12 = .ok (.iconst 1, 1) := by decide +kernel
theorem dX15_isDigit_13 : decode cX15_isDigit 13 = .ok (.goto 4, 3) := by decide +kernel
theorem dX15_isLetter_0 : decode cX15_isLetter 0 = .ok (.iload_n 0, 1) := by decide +kernel
theorem dX15_isLetter_1 : decode cX15_isLetter 1 = .ok (.bipush 96, 2) := by decide +kernel
theorem dX15_isLetter_3 : decode cX15_isLetter 3 = .ok (.if_icmp .le 13, 3) := by decide +kernel
theorem dX15_isLetter_16 : decode cX15_isLetter 16 = .ok (.iconst 0, 1) := by decide +kernel
theorem dX15_isLetter_17 : decode cX15_isLetter 17 = .ok (.ireturn, 1) := by decide +kernel
theorem dX15_isLetter_6 : decode cX15_isLetter 6 = .ok (.iload_n 0, 1) := by decide +kernel
theorem dX15_isLetter_7 : decode cX15_isLetter 7 = .ok (.bipush 123, 2) := by decide +kernel
theorem dX15_isLetter_9 : decode cX15_isLetter 9 = .ok (.if_icmp .ge 7, 3) := by decide +kernel
theorem dX15_isLetter_12 : decode cX15_isLetter 12 = .ok (.iconst 1, 1) := by decide +kernel
theorem dX15_isLetter_13 : decode cX15_isLetter 13 = .ok (.goto 4, 3) := by decide +kernel
theorem dX15_isSign_0 : decode cX15_isSign 0 = .ok (.iload_n 0, 1) := by decide +kernel
theorem dX15_isSign_1 : decode cX15_isSign 1 = .ok (.bipush 43, 2) := by decide +kernel
theorem dX15_isSign_3 : decode cX15_isSign 3 = .ok (.if_icmp .eq 75, 3) := by decide +kernel
theorem dX15_isSign_78 : decode cX15_isSign 78 = .ok (.iconst 1, 1) := by decide +kernel
theorem dX15_isSign_79 : decode cX15_isSign 79 = .ok (.goto 4, 3) := by decide +kernel
theorem dX15_isSign_83 : decode cX15_isSign 83 = .ok (.ireturn, 1) := by decide +kernel
theorem dX15_isSign_6 : decode cX15_isSign 6 = .ok (.iload_n 0, 1) := by decide +kernel
theorem dX15_isSign_7 : decode cX15_isSign 7 = .ok (.bipush 45, 2) := by decide +kernel
theorem dX15_isSign_9 : decode cX15_isSign 9 = .ok (.if_icmp .eq 69, 3) := by decide +kernel
theorem dX15_isSign_12 : decode cX15_isSign 12 = .ok (.iload_n 0, 1) := by decide +kernel
theorem dX15_isSign_13 : decode cX15_isSign 13 = .ok (.bipush 42, 2) := by decide +kernel
theorem dX15_isSign_15 : decode cX15_isSign 15 = .ok (.if_icmp .eq 63, 3) := by decide +kernel
theorem dX15_isSign_18 : decode cX15_isSign 18 = .ok (.iload_n 0, 1) := by decide +kernel
theorem dX15_isSign_19 : decode cX15_isSign 19 = .ok (.bipush 47, 2) := by decide +kernel
theorem dX15_isSign_21 : decode cX15_isSign 21 = .ok (.if_icmp .eq 57, 3) := by decide +kernel
theorem dX15_isSign_24 : decode cX15_isSign 24 = .ok (.iload_n 0, 1) := by decide +kernel
theorem dX15_isSign_25 : decode cX15_isSign 25 = .ok (.bipush 40, 2) := by decide +kernel
theorem dX15_isSign_27 : decode cX15_isSign 27 = .ok (.if_icmp .eq 51, 3) := by decide +kernel
theorem dX15_isSign_30 : decode cX15_isSign 30 = .ok (.iload_n 0, 1) := by decide +kernel
theorem dX15_isSign_31 : decode cX15_isSign 31 = .ok (.bipush 41, 2) := by decide +kernel
theorem dX15_isSign_33 : decode cX15_isSign 33 = .ok (.if_icmp .eq 45, 3) := by decide +kernel
theorem dX15_isSign_36 : decode cX15_isSign 36 = .ok (.iload_n 0, 1) := by decide +kernel
theorem dX15_isSign_37 : decode cX15_isSign 37 = .ok (.bipush 60, 2) := by decide +kernel
theorem dX15_isSign_39 : decode cX15_isSign 39 = .ok (.if_icmp .eq 39, 3) := by decide +kernel
theorem dX15_isSign_42 : decode cX15_isSign 42 = .ok (.iload_n 0, 1) := by decide +kernel
theorem dX15_isSign_43 : decode cX15_isSign 43 = .ok (.bipush 61, 2) := by decide +kernel
theorem dX15_isSign_45 : decode cX15_isSign 45 = .ok (.if_icmp .eq 33, 3) := by decide +kernel
theorem dX15_isSign_48 : decode cX15_isSign 48 = .ok (.iload_n 0, 1) := by decide +kernel
theorem dX15_isSign_49 : decode cX15_isSign 49 = .ok (.bipush 62, 2) := by decide +kernel
theorem dX15_isSign_51 : decode cX15_isSign 51 = .ok (.if_icmp .eq 27, 3) := by decide +kernel
theorem dX15_isSign_54 : decode cX15_isSign 54 = .ok (.iload_n 0, 1) := by decide +kernel
theorem dX15_isSign_55 : decode cX15_isSign 55 = .ok (.bipush 58, 2) := by decide +kernel
theorem dX15_isSign_57 : decode cX15_isSign 57 = .ok (.if_icmp .eq 21, 3) := by decide +kernel
theorem dX15_isSign_60 : decode cX15_isSign 60 = .ok (.iload_n 0, 1) := by decide +kernel
theorem dX15_isSign_61 : decode cX15_isSign 61 = .ok (.bipush 59, 2) := by decide +kernel
theorem dX15_isSign_63 : decode cX15_isSign 63 = .ok (.if_icmp .eq 15, 3) := by decide +kernel
theorem dX15_isSign_66 : decode cX15_isSign 66 = .ok (.iload_n 0, 1) := by decide +kernel
theorem dX15_isSign_67 : decode cX15_isSign 67 = .ok (.bipush 33, 2) := by decide +kernel
theorem dX15_isSign_69 : decode cX15_isSign 69 = .ok (.if_icmp .eq 9, 3) := by decide +kernel
theorem dX15_isSign_72 : decode cX15_isSign 72 = .ok (.iload_n 0, 1) := by decide +kernel
theorem dX15_isSign_73 : decode cX15_isSign 73 = .ok (.bipush 64, 2) := by decide +kernel
theorem dX15_isSign_75 : decode cX15_isSign 75 = .ok (.if_icmp .ne 7, 3) := by decide +kernel
theorem dX15_isSign_82 : decode cX15_isSign 82 = .ok (.iconst 0, 1) := by decide +kernel
theorem dX15_step_0 : decode cX15_step 0 = .ok (.aload_n 0, 1) := by decide +kernel
theorem dX15_step_1 : decode cX15_step 1 = .ok (.getfield 93, 3) := by decide +kernel
theorem dX15_step_4 : decode cX15_step 4 = .ok (.aload_n 0, 1) := by decide +kernel
theorem dX15_step_5 : decode cX15_step 5 = .ok (.getfield 90, 3) := by decide +kernel
theorem dX15_step_8 : decode cX15_step 8 = .ok (.if_icmp .ge 30, 3) := by decide +kernel
theorem dX15_step_11 : decode cX15_step 11 = .ok (.aload_n 0, 1) := by decide +kernel
theorem dX15_step_12 : decode cX15_step 12 = .ok (.getfield 7, 3) := by decide +kernel
theorem dX15_step_15 : decode cX15_step 15 = .ok (.aload_n 0, 1) := by decide +kernel
theorem dX15_step_16 : decode cX15_step 16 = .ok (.getfield 93, 3) := by decide +kernel
theorem dX15_step_19 : decode cX15_step 19 = .ok (.iaload, 1) := by decide +kernel
theorem dX15_step_20 : decode cX15_step 20 = .ok (.bipush 32, 2) := by decide +kernel
theorem dX15_step_22 : decode cX15_step 22 = .ok (.if_icmp .ne 16, 3) := by decide +kernel
theorem dX15_step_25 : decode cX15_step 25 = .ok (.aload_n 0, 1) := by decide +kernel
theorem dX15_step_26 : decode cX15_step 26 = .ok (.dup, 1) := by decide +kernel
theorem dX15_step_27 : decode cX15_step 27 = .ok (.getfield 93, 3) := by decide +kernel
theorem dX15_step_30 : decode cX15_step 30 = .ok (.iconst 1, 1) := by decide +kernel
theorem dX15_step_31 : decode cX15_step 31 = .ok (.iadd, 1) := by decide +kernel
theorem dX15_step_32 : decode cX15_step 32 = .ok (.putfield 93, 3) := by decide +kernel
theorem dX15_step_35 : decode cX15_step 35 = .ok (.goto (-35), 3) := by decide +kernel
theorem dX15_step_38 : decode cX15_step 38 = .ok (.aload_n 0, 1) := by decide +kernel
theorem dX15_step_39 : decode cX15_step 39 = .ok (.aload_n 0, 1) := by decide +kernel
theorem dX15_step_40 : decode cX15_step 40 = .ok (.getfield 93, 3) := by decide +kernel
theorem dX15_step_43 : decode cX15_step 43 = .ok (.putfield 96, 3) := by decide +kernel
theorem dX15_step_46 : decode cX15_step 46 = .ok (.aload_n 0, 1) := by decide +kernel
theorem dX15_step_47 : decode cX15_step 47 = .ok (.iconst 0, 1) := by decide +kernel
theorem dX15_step_48 : decode cX15_step 48 = .ok (.putfield 99, 3) := by decide +kernel
theorem dX15_step_51 : decode cX15_step 51 = .ok (.aload_n 0, 1) := by decide +kernel
theorem dX15_step_52 : decode cX15_step 52 = .ok (.lconst 0, 1) := by decide +kernel
theorem dX15_step_53 : decode cX15_step 53 = .ok (.putfield 102, 3) := by decide +kernel
theorem dX15_step_56 : decode cX15_step 56 = .ok (.aload_n 0, 1) := by decide +kernel
theorem dX15_step_57 : decode cX15_step 57 = .ok (.getfield 96, 3) := by decide +kernel
theorem dX15_step_60 : decode cX15_step 60 = .ok (.aload_n 0, 1) := by decide +kernel
theorem dX15_step_61 : decode cX15_step 61 = .ok (.getfield 90, 3) := by decide +kernel
theorem dX15_step_64 : decode cX15_step 64 = .ok (.if_icmp .ne 4, 3) := by decide +kernel
theorem dX15_step_68 : decode cX15_step 68 = .ok (.aload_n 0, 1) := by decide +kernel
theorem dX15_step_69 : decode cX15_step 69 = .ok (.getfield 7, 3) := by decide +kernel
theorem dX15_step_72 : decode cX15_step 72 = .ok (.aload_n 0, 1) := by decide +kernel
theorem dX15_step_73 : decode cX15_step 73 = .ok (.getfield 96, 3) := by decide +kernel
theorem dX15_step_76 : decode cX15_step 76 = .ok (.iaload, 1) := by decide +kernel
theorem dX15_step_77 : decode cX15_step 77 = .ok (.istore_n 1, 1) := by decide +kernel
theorem dX15_step_78 : decode cX15_step 78 = .ok (.aload_n 0, 1) := by decide +kernel
theorem dX15_step_79 : decode cX15_step 79 = .ok (.dup, 1) := by decide +kernel
theorem dX15_step_80 : decode cX15_step 80 = .ok (.getfield 106, 3) := by decide +kernel
theorem dX15_step_83 : decode cX15_step 83 = .ok (.iconst 1, 1) := by decide +kernel
theorem dX15_step_84 : decode cX15_step 84 = .ok (.iadd, 1) := by decide +kernel
theorem dX15_step_85 : decode cX15_step 85 = .ok (.putfield 106, 3) := by decide +kernel
theorem dX15_step_88 : decode cX15_step 88 = .ok (.iload_n 1, 1) := by decide +kernel
theorem dX15_step_89 : decode cX15_step 89 = .ok (.invokestatic 109, 3) := by decide +kernel
theorem dX15_step_92 : decode cX15_step 92 = .ok (.ifCond .eq 108, 3) := by decide +kernel
theorem dX15_step_200 : decode cX15_step 200 = .ok (.iload_n 1, 1) := by decide +kernel
theorem dX15_step_201 : decode cX15_step 201 = .ok (.invokestatic 125, 3) := by decide +kernel
theorem dX15_step_204 : decode cX15_step 204 = .ok (.ifCond .eq 82, 3) := by decide +kernel
theorem dX15_step_286 : decode cX15_step 286 = .ok (.iload_n 1, 1) := by decide +kernel
theorem dX15_step_287 : decode cX15_step 287 = .ok (.bipush 60, 2) := by decide +kernel
theorem dX15_step_289 : decode cX15_step 289 = .ok (.if_icmp .eq 9, 3) := by decide +kernel
theorem dX15_step_298 : decode cX15_step 298 = .ok (.aload_n 0, 1) := by decide +kernel
theorem dX15_step_299 : decode cX15_step 299 = .ok (.aload_n 0, 1) := by decide +kernel
theorem dX15_step_300 : decode cX15_step 300 = .ok (.getfield 96, 3) := by decide +kernel
theorem dX15_step_303 : decode cX15_step 303 = .ok (.iconst 1, 1) := by decide +kernel
theorem dX15_step_304 : decode cX15_step 304 = .ok (.iadd, 1) := by decide +kernel
theorem dX15_step_305 : decode cX15_step 305 = .ok (.invokevirtual 113, 3) := by decide +kernel
theorem dX15_step_308 : decode cX15_step 308 = .ok (.bipush 61, 2) := by decide +kernel
theorem dX15_step_310 : decode cX15_step 310 = .ok (.if_icmp .ne 7, 3) := by decide +kernel
theorem dX15_step_317 : decode cX15_step 317 = .ok (.iconst 0, 1) := by decide +kernel
theorem dX15_step_318 : decode cX15_step 318 = .ok (.istore_n 2, 1) := by decide +kernel
theorem dX15_step_319 : decode cX15_step 319 = .ok (.aload_n 0, 1) := by decide +kernel
theorem dX15_step_320 : decode cX15_step 320 = .ok (.iload_n 2, 1) := by decide +kernel
theorem dX15_step_321 : decode cX15_step 321 = .ok (.ifCond .eq 11, 3) := by decide +kernel
theorem dX15_step_332 : decode cX15_step 332 = .ok (.iload_n 1, 1) := by decide +kernel
theorem dX15_step_333 : decode cX15_step 333 = .ok (.putfield 99, 3) := by decide +kernel
theorem dX15_step_336 : decode cX15_step 336 = .ok (.aload_n 0, 1) := by decide +kernel
theorem dX15_step_337 : decode cX15_step 337 = .ok (.dup, 1) := by decide +kernel
theorem dX15_step_338 : decode cX15_step 338 = .ok (.getfield 93, 3) := by decide +kernel
theorem dX15_step_341 : decode cX15_step 341 = .ok (.iload_n 2, 1) := by decide +kernel
theorem dX15_step_342 : decode cX15_step 342 = .ok (.ifCond .eq 7, 3) := by decide +kernel
theorem dX15_step_349 : decode cX15_step 349 = .ok (.iconst 1, 1) := by decide +kernel
theorem dX15_step_350 : decode cX15_step 350 = .ok (.iadd, 1) := by decide +kernel
theorem dX15_step_351 : decode cX15_step 351 = .ok (.putfield 93, 3) := by decide +kernel
theorem dX15_step_354 : decode cX15_step 354 = .ok (.aload_n 0, 1) := by decide +kernel
theorem dX15_step_355 : decode cX15_step 355 = .ok (.iload_n 1, 1) := by decide +kernel
theorem dX15_step_356 : decode cX15_step 356 = .ok (.invokestatic 128, 3) := by decide +kernel
theorem dX15_step_359 : decode cX15_step 359 = .ok (.ifCond .ne 7, 3) := by decide +kernel
theorem dX15_step_366 : decode cX15_step 366 = .ok (.iconst 0, 1) := by decide +kernel
theorem dX15_step_367 : decode cX15_step 367 = .ok (.putfield 121, 3) := by decide +kernel
theorem dX15_step_370 : decode cX15_step 370 = .ok (.aload_n 0, 1) := by decide +kernel
theorem dX15_step_371 : decode cX15_step 371 = .ok (.aload_n 0, 1) := by decide +kernel
theorem dX15_step_372 : decode cX15_step 372 = .ok (.getfield 121, 3) := by decide +kernel
theorem dX15_step_375 : decode cX15_step 375 = .ok (.ifCond .ne 12, 3) := by decide +kernel
theorem dX15_step_387 : decode cX15_step 387 = .ok (.iconst 1, 1) := by decide +kernel
theorem dX15_step_388 : decode cX15_step 388 = .ok (.goto 4, 3) := by decide +kernel
theorem dX15_step_392 : decode cX15_step 392 = .ok (.putfield 121, 3) := by decide +kernel
theorem dX15_step_395 : decode cX15_step 395 = .ok (.return_, 1) := by decide +kernel
theorem dX15_step_378 : decode cX15_step 378 = .ok (.aload_n 0, 1) := by decide +kernel
theorem dX15_step_379 : decode cX15_step 379 = .ok (.getfield 106, 3) := by decide +kernel
theorem dX15_step_382 : decode cX15_step 382 = .ok (.bipush 120, 2) := by decide +kernel
theorem dX15_step_384 : decode cX15_step 384 = .ok (.if_icmp .le 7, 3) := by decide +kernel
theorem dX15_step_391 : decode cX15_step 391 = .ok (.iconst 0, 1) := by decide +kernel
theorem dX15_step_362 : decode cX15_step 362 = .ok (.iconst 1, 1) := by decide +kernel
theorem dX15_step_363 : decode cX15_step 363 = .ok (.goto 4, 3) := by decide +kernel
theorem dX15_step_345 : decode cX15_step 345 = .ok (.iconst 2, 1) := by decide +kernel
theorem dX15_step_346 : decode cX15_step 346 = .ok (.goto 4, 3) := by decide +kernel
theorem dX15_step_324 : decode cX15_step 324 = .ok (.iload_n 1, 1) := by decide +kernel
theorem dX15_step_325 : decode cX15_step 325 = .ok (.sipush 256, 3) := by decide +kernel
theorem dX15_step_328 : decode cX15_step 328 = .ok (.iadd, 1) := by decide +kernel
theorem dX15_step_329 : decode cX15_step 329 = .ok (.goto 4, 3) := by decide +kernel
theorem dX15_step_313 : decode cX15_step 313 = .ok (.iconst 1, 1) := by decide +kernel
theorem dX15_step_314 : decode cX15_step 314 = .ok (.goto 4, 3) := by decide +kernel
theorem dX15_step_292 : decode cX15_step 292 = .ok (.iload_n 1, 1) := by decide +kernel
theorem dX15_step_293 : decode cX15_step 293 = .ok (.bipush 62, 2) := by decide +kernel
theorem dX15_step_295 : decode cX15_step 295 = .ok (.if_icmp .ne 22, 3) := by decide +kernel
theorem dX15_step_207 : decode cX15_step 207 = .ok (.aload_n 0, 1) := by decide +kernel
theorem dX15_step_208 : decode cX15_step 208 = .ok (.iconst 2, 1) := by decide +kernel
theorem dX15_step_209 : decode cX15_step 209 = .ok (.putfield 99, 3) := by decide +kernel
theorem dX15_step_212 : decode cX15_step 212 = .ok (.aload_n 0, 1) := by decide +kernel
theorem dX15_step_213 : decode cX15_step 213 = .ok (.aload_n 0, 1) := by decide +kernel
theorem dX15_step_214 : decode cX15_step 214 = .ok (.getfield 93, 3) := by decide +kernel
theorem dX15_step_217 : decode cX15_step 217 = .ok (.invokevirtual 113, 3) := by decide +kernel
theorem dX15_step_220 : decode cX15_step 220 = .ok (.invokestatic 125, 3) := by decide +kernel
theorem dX15_step_223 : decode cX15_step 223 = .ok (.ifCond .eq 37, 3) := by decide +kernel
theorem dX15_step_226 : decode cX15_step 226 = .ok (.aload_n 0, 1) := by decide +kernel
theorem dX15_step_227 : decode cX15_step 227 = .ok (.aload_n 0, 1) := by decide +kernel
theorem dX15_step_228 : decode cX15_step 228 = .ok (.getfield 102, 3) := by decide +kernel
theorem dX15_step_231 : decode cX15_step 231 = .ok (.bipush 8, 2) := by decide +kernel
theorem dX15_step_233 : decode cX15_step 233 = .ok (.lshl, 1) := by decide +kernel
theorem dX15_step_234 : decode cX15_step 234 = .ok (.aload_n 0, 1) := by decide +kernel
theorem dX15_step_235 : decode cX15_step 235 = .ok (.aload_n 0, 1) := by decide +kernel
theorem dX15_step_236 : decode cX15_step 236 = .ok (.getfield 93, 3) := by decide +kernel
theorem dX15_step_239 : decode cX15_step 239 = .ok (.invokevirtual 113, 3) := by decide +kernel
theorem dX15_step_242 : decode cX15_step 242 = .ok (.i2l, 1) := by decide +kernel
theorem dX15_step_243 : decode cX15_step 243 = .ok (.lor, 1) := by decide +kernel
theorem dX15_step_244 : decode cX15_step 244 = .ok (.putfield 102, 3) := by decide +kernel
theorem dX15_step_247 : decode cX15_step 247 = .ok (.aload_n 0, 1) := by decide +kernel
theorem dX15_step_248 : decode cX15_step 248 = .ok (.dup, 1) := by decide +kernel
theorem dX15_step_249 : decode cX15_step 249 = .ok (.getfield 93, 3) := by decide +kernel
theorem dX15_step_252 : decode cX15_step 252 = .ok (.iconst 1, 1) := by decide +kernel
theorem dX15_step_253 : decode cX15_step 253 = .ok (.iadd, 1) := by decide +kernel
theorem dX15_step_254 : decode cX15_step 254 = .ok (.putfield 93, 3) := by decide +kernel
theorem dX15_step_257 : decode cX15_step 257 = .ok (.goto (-45), 3) := by decide +kernel
theorem dX15_step_260 : decode cX15_step 260 = .ok (.aload_n 0, 1) := by decide +kernel
theorem dX15_step_261 : decode cX15_step 261 = .ok (.aload_n 0, 1) := by decide +kernel
theorem dX15_step_262 : decode cX15_step 262 = .ok (.getfield 93, 3) := by decide +kernel
theorem dX15_step_265 : decode cX15_step 265 = .ok (.aload_n 0, 1) := by decide +kernel
theorem dX15_step_266 : decode cX15_step 266 = .ok (.getfield 96, 3) := by decide +kernel
theorem dX15_step_269 : decode cX15_step 269 = .ok (.isub, 1) := by decide +kernel
theorem dX15_step_270 : decode cX15_step 270 = .ok (.bipush 8, 2) := by decide +kernel
theorem dX15_step_272 : decode cX15_step 272 = .ok (.if_icmp .le 7, 3) := by decide +kernel
theorem dX15_step_279 : decode cX15_step 279 = .ok (.iconst 0, 1) := by decide +kernel
theorem dX15_step_280 : decode cX15_step 280 = .ok (.putfield 121, 3) := by decide +kernel
theorem dX15_step_283 : decode cX15_step 283 = .ok (.goto 87, 3) := by decide +kernel
theorem dX15_step_275 : decode cX15_step 275 = .ok (.iconst 1, 1) := by decide +kernel
theorem dX15_step_276 : decode cX15_step 276 = .ok (.goto 4, 3) := by decide +kernel
theorem dX15_step_95 : decode cX15_step 95 = .ok (.aload_n 0, 1) := by decide +kernel
theorem dX15_step_96 : decode cX15_step 96 = .ok (.iconst 1, 1) := by decide +kernel
theorem dX15_step_97 : decode cX15_step 97 = .ok (.putfield 99, 3) := by decide +kernel
theorem dX15_step_100 : decode cX15_step 100 = .ok (.aload_n 0, 1) := by decide +kernel
theorem dX15_step_101 : decode cX15_step 101 = .ok (.aload_n 0, 1) := by decide +kernel
theorem dX15_step_102 : decode cX15_step 102 = .ok (.getfield 93, 3) := by decide +kernel
theorem dX15_step_105 : decode cX15_step 105 = .ok (.invokevirtual 113, 3) := by decide +kernel
theorem dX15_step_108 : decode cX15_step 108 = .ok (.invokestatic 109, 3) := by decide +kernel
theorem dX15_step_111 : decode cX15_step 111 = .ok (.ifCond .eq 63, 3) := by decide +kernel
theorem dX15_step_114 : decode cX15_step 114 = .ok (.aload_n 0, 1) := by decide +kernel
theorem dX15_step_115 : decode cX15_step 115 = .ok (.aload_n 0, 1) := by decide +kernel
theorem dX15_step_116 : decode cX15_step 116 = .ok (.getfield 93, 3) := by decide +kernel
theorem dX15_step_119 : decode cX15_step 119 = .ok (.aload_n 0, 1) := by decide +kernel
theorem dX15_step_120 : decode cX15_step 120 = .ok (.getfield 96, 3) := by decide +kernel
theorem dX15_step_123 : decode cX15_step 123 = .ok (.isub, 1) := by decide +kernel
theorem dX15_step_124 : decode cX15_step 124 = .ok (.bipush 9, 2) := by decide +kernel
theorem dX15_step_126 : decode cX15_step 126 = .ok (.if_icmp .ge 28, 3) := by decide +kernel
theorem dX15_step_154 : decode cX15_step 154 = .ok (.aload_n 0, 1) := by decide +kernel
theorem dX15_step_155 : decode cX15_step 155 = .ok (.getfield 102, 3) := by decide +kernel
theorem dX15_step_158 : decode cX15_step 158 = .ok (.putfield 102, 3) := by decide +kernel
theorem dX15_step_161 : decode cX15_step 161 = .ok (.aload_n 0, 1) := by decide +kernel
theorem dX15_step_162 : decode cX15_step 162 = .ok (.dup, 1) := by decide +kernel
theorem dX15_step_163 : decode cX15_step 163 = .ok (.getfield 93, 3) := by decide +kernel
theorem dX15_step_166 : decode cX15_step 166 = .ok (.iconst 1, 1) := by decide +kernel
theorem dX15_step_167 : decode cX15_step 167 = .ok (.iadd, 1) := by decide +kernel
theorem dX15_step_168 : decode cX15_step 168 = .ok (.putfield 93, 3) := by decide +kernel
theorem dX15_step_171 : decode cX15_step 171 = .ok (.goto (-71), 3) := by decide +kernel
theorem dX15_step_129 : decode cX15_step 129 = .ok (.ldc2_w 117, 3) := by decide +kernel
theorem dX15_step_132 : decode cX15_step 132 = .ok (.aload_n 0, 1) := by decide +kernel
theorem dX15_step_133 : decode cX15_step 133 = .ok (.getfield 102, 3) := by decide +kernel
theorem dX15_step_136 : decode cX15_step 136 = .ok (.lmul, 1) := by decide +kernel
theorem dX15_step_137 : decode cX15_step 137 = .ok (.aload_n 0, 1) := by decide +kernel
theorem dX15_step_138 : decode cX15_step 138 = .ok (.aload_n 0, 1) := by decide +kernel
theorem dX15_step_139 : decode cX15_step 139 = .ok (.getfield 93, 3) := by decide +kernel
theorem dX15_step_142 : decode cX15_step 142 = .ok (.invokevirtual 113, 3) := by decide +kernel
theorem dX15_step_145 : decode cX15_step 145 = .ok (.i2l, 1) := by decide +kernel
theorem dX15_step_146 : decode cX15_step 146 = .ok (.ladd, 1) := by decide +kernel
theorem dX15_step_147 : decode cX15_step 147 = .ok (.ldc2_w 119, 3) := by decide +kernel
theorem dX15_step_150 : decode cX15_step 150 = .ok (.lsub, 1) := by decide +kernel
theorem dX15_step_151 : decode cX15_step 151 = .ok (.goto 7, 3) := by decide +kernel
theorem dX15_step_174 : decode cX15_step 174 = .ok (.aload_n 0, 1) := by decide +kernel
theorem dX15_step_175 : decode cX15_step 175 = .ok (.aload_n 0, 1) := by decide +kernel
theorem dX15_step_176 : decode cX15_step 176 = .ok (.getfield 93, 3) := by decide +kernel
theorem dX15_step_179 : decode cX15_step 179 = .ok (.aload_n 0, 1) := by decide +kernel
theorem dX15_step_180 : decode cX15_step 180 = .ok (.getfield 96, 3) := by decide +kernel
theorem dX15_step_183 : decode cX15_step 183 = .ok (.isub, 1) := by decide +kernel
theorem dX15_step_184 : decode cX15_step 184 = .ok (.bipush 9, 2) := by decide +kernel
theorem dX15_step_186 : decode cX15_step 186 = .ok (.if_icmp .le 7, 3) := by decide +kernel
theorem dX15_step_193 : decode cX15_step 193 = .ok (.iconst 0, 1) := by decide +kernel
theorem dX15_step_194 : decode cX15_step 194 = .ok (.putfield 121, 3) := by decide +kernel
theorem dX15_step_197 : decode cX15_step 197 = .ok (.goto 173, 3) := by decide +kernel
theorem dX15_step_189 : decode cX15_step 189 = .ok (.iconst 1, 1) := by decide +kernel
theorem dX15_step_190 : decode cX15_step 190 = .ok (.goto 4, 3) := by decide +kernel
theorem dX15_step_67 : decode cX15_step 67 = .ok (.return_, 1) := by decide +kernel
theorem dX15_take_0 : decode cX15_take 0 = .ok (.aload_n 0, 1) := by decide +kernel
theorem dX15_take_1 : decode cX15_take 1 = .ok (.aload_n 0, 1) := by decide +kernel
theorem dX15_take_2 : decode cX15_take 2 = .ok (.getfield 121, 3) := by decide +kernel
theorem dX15_take_5 : decode cX15_take 5 = .ok (.ifCond .ne 7, 3) := by decide +kernel
theorem dX15_take_12 : decode cX15_take 12 = .ok (.iconst 1, 1) := by decide +kernel
theorem dX15_take_13 : decode cX15_take 13 = .ok (.goto 4, 3) := by decide +kernel
theorem dX15_take_17 : decode cX15_take 17 = .ok (.putfield 121, 3) := by decide +kernel
theorem dX15_take_20 : decode cX15_take 20 = .ok (.aload_n 0, 1) := by decide +kernel
theorem dX15_take_21 : decode cX15_take 21 = .ok (.getfield 121, 3) := by decide +kernel
theorem dX15_take_24 : decode cX15_take 24 = .ok (.ifCond .ne 7, 3) := by decide +kernel
theorem dX15_take_31 : decode cX15_take 31 = .ok (.return_, 1) := by decide +kernel
theorem dX15_take_27 : decode cX15_take 27 = .ok (.aload_n 0, 1) := by decide +kernel
theorem dX15_take_28 : decode cX15_take 28 = .ok (.invokevirtual 131, 3) := by decide +kernel
theorem dX15_take_8 : decode cX15_take 8 = .ok (.iload_n 1, 1) := by decide +kernel
theorem dX15_take_9 : decode cX15_take 9 = .ok (.ifCond .ne 7, 3) := by decide +kernel
theorem dX15_take_16 : decode cX15_take 16 = .ok (.iconst 0, 1) := by decide +kernel
theorem dX15_emit_0 : decode cX15_emit 0 = .ok (.aload_n 0, 1) := by decide +kernel
theorem dX15_emit_1 : decode cX15_emit 1 = .ok (.getfield 44, 3) := by decide +kernel
theorem dX15_emit_4 : decode cX15_emit 4 = .ok (.sipush 400, 3) := by decide +kernel
theorem dX15_emit_7 : decode cX15_emit 7 = .ok (.aload_n 0, 1) := by decide +kernel
theorem dX15_emit_8 : decode cX15_emit 8 = .ok (.getfield 134, 3) := by decide +kernel
theorem dX15_emit_11 : decode cX15_emit 11 = .ok (.iadd, 1) := by decide +kernel
theorem dX15_emit_12 : decode cX15_emit 12 = .ok (.iload_n 1, 1) := by decide +kernel
theorem dX15_emit_13 : decode cX15_emit 13 = .ok (.iastore, 1) := by decide +kernel
theorem dX15_emit_14 : decode cX15_emit 14 = .ok (.aload_n 0, 1) := by decide +kernel
theorem dX15_emit_15 : decode cX15_emit 15 = .ok (.getfield 47, 3) := by decide +kernel
theorem dX15_emit_18 : decode cX15_emit 18 = .ok (.sipush 400, 3) := by decide +kernel
theorem dX15_emit_21 : decode cX15_emit 21 = .ok (.aload_n 0, 1) := by decide +kernel
theorem dX15_emit_22 : decode cX15_emit 22 = .ok (.getfield 134, 3) := by decide +kernel
theorem dX15_emit_25 : decode cX15_emit 25 = .ok (.iadd, 1) := by decide +kernel
theorem dX15_emit_26 : decode cX15_emit 26 = .ok (.lload_n 2, 1) := by decide +kernel
theorem dX15_emit_27 : decode cX15_emit 27 = .ok (.lastore, 1) := by decide +kernel
theorem dX15_emit_28 : decode cX15_emit 28 = .ok (.aload_n 0, 1) := by decide +kernel
theorem dX15_emit_29 : decode cX15_emit 29 = .ok (.dup, 1) := by decide +kernel
theorem dX15_emit_30 : decode cX15_emit 30 = .ok (.getfield 134, 3) := by decide +kernel
theorem dX15_emit_33 : decode cX15_emit 33 = .ok (.iconst 1, 1) := by decide +kernel
theorem dX15_emit_34 : decode cX15_emit 34 = .ok (.iadd, 1) := by decide +kernel
theorem dX15_emit_35 : decode cX15_emit 35 = .ok (.putfield 134, 3) := by decide +kernel
theorem dX15_emit_38 : decode cX15_emit 38 = .ok (.return_, 1) := by decide +kernel
theorem dX15_unpile_0 : decode cX15_unpile 0 = .ok (.aload_n 0, 1) := by decide +kernel
theorem dX15_unpile_1 : decode cX15_unpile 1 = .ok (.getfield 137, 3) := by decide +kernel
theorem dX15_unpile_4 : decode cX15_unpile 4 = .ok (.ifCond .le 65, 3) := by decide +kernel
theorem dX15_unpile_7 : decode cX15_unpile 7 = .ok (.aload_n 0, 1) := by decide +kernel
theorem dX15_unpile_8 : decode cX15_unpile 8 = .ok (.getfield 75, 3) := by decide +kernel
theorem dX15_unpile_11 : decode cX15_unpile 11 = .ok (.aload_n 0, 1) := by decide +kernel
theorem dX15_unpile_12 : decode cX15_unpile 12 = .ok (.getfield 137, 3) := by decide +kernel
theorem dX15_unpile_15 : decode cX15_unpile 15 = .ok (.iconst 1, 1) := by decide +kernel
theorem dX15_unpile_16 : decode cX15_unpile 16 = .ok (.isub, 1) := by decide +kernel
theorem dX15_unpile_17 : decode cX15_unpile 17 = .ok (.iaload, 1) := by decide +kernel
theorem dX15_unpile_18 : decode cX15_unpile 18 = .ok (.iconst 1, 1) := by decide +kernel
theorem dX15_unpile_19 : decode cX15_unpile 19 = .ok (.if_icmp .le 50, 3) := by decide +kernel
theorem dX15_unpile_22 : decode cX15_unpile 22 = .ok (.aload_n 0, 1) := by decide +kernel
theorem dX15_unpile_23 : decode cX15_unpile 23 = .ok (.getfield 75, 3) := by decide +kernel
theorem dX15_unpile_26 : decode cX15_unpile 26 = .ok (.aload_n 0, 1) := by decide +kernel
theorem dX15_unpile_27 : decode cX15_unpile 27 = .ok (.getfield 137, 3) := by decide +kernel
theorem dX15_unpile_30 : decode cX15_unpile 30 = .ok (.iconst 1, 1) := by decide +kernel
theorem dX15_unpile_31 : decode cX15_unpile 31 = .ok (.isub, 1) := by decide +kernel
theorem dX15_unpile_32 : decode cX15_unpile 32 = .ok (.iaload, 1) := by decide +kernel
theorem dX15_unpile_33 : decode cX15_unpile 33 = .ok (.iconst 3, 1) := by decide +kernel
theorem dX15_unpile_34 : decode cX15_unpile 34 = .ok (.if_icmp .gt 8, 3) := by decide +kernel
theorem dX15_unpile_42 : decode cX15_unpile 42 = .ok (.aload_n 0, 1) := by decide +kernel
theorem dX15_unpile_43 : decode cX15_unpile 43 = .ok (.dup, 1) := by decide +kernel
theorem dX15_unpile_44 : decode cX15_unpile 44 = .ok (.getfield 137, 3) := by decide +kernel
theorem dX15_unpile_47 : decode cX15_unpile 47 = .ok (.iconst 1, 1) := by decide +kernel
theorem dX15_unpile_48 : decode cX15_unpile 48 = .ok (.isub, 1) := by decide +kernel
theorem dX15_unpile_49 : decode cX15_unpile 49 = .ok (.putfield 137, 3) := by decide +kernel
theorem dX15_unpile_52 : decode cX15_unpile 52 = .ok (.aload_n 0, 1) := by decide +kernel
theorem dX15_unpile_53 : decode cX15_unpile 53 = .ok (.aload_n 0, 1) := by decide +kernel
theorem dX15_unpile_54 : decode cX15_unpile 54 = .ok (.getfield 75, 3) := by decide +kernel
theorem dX15_unpile_57 : decode cX15_unpile 57 = .ok (.aload_n 0, 1) := by decide +kernel
theorem dX15_unpile_58 : decode cX15_unpile 58 = .ok (.getfield 137, 3) := by decide +kernel
theorem dX15_unpile_61 : decode cX15_unpile 61 = .ok (.iaload, 1) := by decide +kernel
theorem dX15_unpile_62 : decode cX15_unpile 62 = .ok (.lconst 0, 1) := by decide +kernel
theorem dX15_unpile_63 : decode cX15_unpile 63 = .ok (.invokevirtual 140, 3) := by decide +kernel
theorem dX15_unpile_66 : decode cX15_unpile 66 = .ok (.goto (-66), 3) := by decide +kernel
theorem dX15_unpile_37 : decode cX15_unpile 37 = .ok (.iload_n 1, 1) := by decide +kernel
theorem dX15_unpile_38 : decode cX15_unpile 38 = .ok (.iconst 2, 1) := by decide +kernel
theorem dX15_unpile_39 : decode cX15_unpile 39 = .ok (.if_icmp .ge 30, 3) := by decide +kernel
theorem dX15_unpile_69 : decode cX15_unpile 69 = .ok (.return_, 1) := by decide +kernel
theorem zl_X14_187 : zm_L zk_E RX14 187 yX14_list (.code yX14_list cX14_list 4 none) 0 ∧ Cond.instanceMethod yX14_list ∈ zk_E.2.2.1 ∧ Cond.selects yX14_list.cls yX14_list yX14_list ∈ zk_E.2.2.1 := ⟨⟨zk_b19 152 (by decide +kernel) rfl, zk_b1 16 (by decide +kernel) rfl, zk_b19 149 (by decide +kernel) rfl, by decide +kernel, by decide +kernel, by decide +kernel⟩, zk_b19 151 (by decide +kernel) rfl, zk_s15 (q := (yX14_list, 36)) 15 (by decide +kernel)⟩
theorem zl_X14_190 : zm_L zk_E RX14 190 yX14_readSentence (.code yX14_readSentence cX14_readSentence 2 none) 0 ∧ Cond.instanceMethod yX14_readSentence ∈ zk_E.2.2.1 ∧ Cond.selects yX14_readSentence.cls yX14_readSentence yX14_readSentence ∈ zk_E.2.2.1 := ⟨⟨zk_b19 159 (by decide +kernel) rfl, zk_b1 16 (by decide +kernel) rfl, zk_b19 156 (by decide +kernel) rfl, by decide +kernel, by decide +kernel, by decide +kernel⟩, zk_b19 158 (by decide +kernel) rfl, zk_s16 (q := (yX14_readSentence, 36)) 0 (by decide +kernel)⟩
theorem zl_X14_193 : zm_L zk_E RX14 193 yX14_adopt (.code yX14_adopt cX14_adopt 3 none) 0 ∧ Cond.instanceMethod yX14_adopt ∈ zk_E.2.2.1 ∧ Cond.selects yX14_adopt.cls yX14_adopt yX14_adopt ∈ zk_E.2.2.1 := ⟨⟨zk_b19 215 (by decide +kernel) rfl, zk_b1 16 (by decide +kernel) rfl, zk_b19 212 (by decide +kernel) rfl, by decide +kernel, by decide +kernel, by decide +kernel⟩, zk_b19 214 (by decide +kernel) rfl, zk_s16 (q := (yX14_adopt, 36)) 14 (by decide +kernel)⟩
theorem zl_X14_202 : zm_F zk_E RX14 202 14 1 := ⟨RX14, TX14, 36, rfl, zk_i14, by decide, zk_b14 116 (by decide +kernel) rfl⟩
theorem zl_X14_205 : zm_L zk_E RX14 205 yX14_counts (.code yX14_counts cX14_counts 2 (some .boolean)) 1 ∧ Cond.instanceMethod yX14_counts ∈ zk_E.2.2.1 ∧ Cond.selects yX14_counts.cls yX14_counts yX14_counts ∈ zk_E.2.2.1 := ⟨⟨zk_b20 31 (by decide +kernel) rfl, zk_b1 16 (by decide +kernel) rfl, zk_b20 28 (by decide +kernel) rfl, by decide +kernel, by decide +kernel, by decide +kernel⟩, zk_b20 30 (by decide +kernel) rfl, zk_s17 (q := (yX14_counts, 36)) 2 (by decide +kernel)⟩
theorem zl_X14_208 : zm_L zk_E RX14 208 yX14_ofZone (.code yX14_ofZone cX14_ofZone 6 (some .int)) 2 ∧ Cond.instanceMethod yX14_ofZone ∈ zk_E.2.2.1 ∧ Cond.selects yX14_ofZone.cls yX14_ofZone yX14_ofZone ∈ zk_E.2.2.1 := ⟨⟨zk_b20 27 (by decide +kernel) rfl, zk_b1 16 (by decide +kernel) rfl, zk_b20 24 (by decide +kernel) rfl, by decide +kernel, by decide +kernel, by decide +kernel⟩, zk_b20 25 (by decide +kernel) rfl, zk_b20 26 (by decide +kernel) rfl⟩
theorem zl_X14_212 : zm_L zk_E RX14 212 yX14_isOn (.code yX14_isOn cX14_isOn 2 (some .boolean)) 1 ∧ Cond.instanceMethod yX14_isOn ∈ zk_E.2.2.1 ∧ Cond.selects yX14_isOn.cls yX14_isOn yX14_isOn ∈ zk_E.2.2.1 := ⟨⟨zk_b20 23 (by decide +kernel) rfl, zk_b1 16 (by decide +kernel) rfl, zk_b20 20 (by decide +kernel) rfl, by decide +kernel, by decide +kernel, by decide +kernel⟩, zk_b20 21 (by decide +kernel) rfl, zk_b20 22 (by decide +kernel) rfl⟩
theorem zl_X14_218 : zm_L zk_E RX14 218 yX14_isSure (.code yX14_isSure cX14_isSure 3 (some .boolean)) 1 ∧ Cond.instanceMethod yX14_isSure ∈ zk_E.2.2.1 ∧ Cond.selects yX14_isSure.cls yX14_isSure yX14_isSure ∈ zk_E.2.2.1 := ⟨⟨zk_b20 35 (by decide +kernel) rfl, zk_b1 16 (by decide +kernel) rfl, zk_b20 32 (by decide +kernel) rfl, by decide +kernel, by decide +kernel, by decide +kernel⟩, zk_b20 33 (by decide +kernel) rfl, zk_b20 34 (by decide +kernel) rfl⟩
theorem zl_X14_215 : zm_L zk_E RX14 215 yX14_isMet (.code yX14_isMet cX14_isMet 2 (some .boolean)) 1 ∧ Cond.instanceMethod yX14_isMet ∈ zk_E.2.2.1 ∧ Cond.selects yX14_isMet.cls yX14_isMet yX14_isMet ∈ zk_E.2.2.1 := ⟨⟨zk_b20 19 (by decide +kernel) rfl, zk_b1 16 (by decide +kernel) rfl, zk_b20 16 (by decide +kernel) rfl, by decide +kernel, by decide +kernel, by decide +kernel⟩, zk_b20 18 (by decide +kernel) rfl, zk_s17 (q := (yX14_isMet, 36)) 1 (by decide +kernel)⟩
theorem zl_X14_221 : zm_F zk_E RX14 221 14 30 := ⟨RX14, TX14, 36, rfl, zk_i14, by decide, zk_b14 154 (by decide +kernel) rfl⟩
theorem zt_14_30 : zm_T zk_E RX14 14 30 .int false := ⟨RX14, TX14, 36, tyX14, rfl, tyX14_ok, nmX14, rfl, rfl, rfl⟩
theorem zl_X14_224 : zm_L zk_E RX14 224 yX14_isCalled (.code yX14_isCalled cX14_isCalled 7 (some .boolean)) 2 ∧ Cond.instanceMethod yX14_isCalled ∈ zk_E.2.2.1 ∧ Cond.selects yX14_isCalled.cls yX14_isCalled yX14_isCalled ∈ zk_E.2.2.1 := ⟨⟨zk_b20 15 (by decide +kernel) rfl, zk_b1 16 (by decide +kernel) rfl, zk_b20 12 (by decide +kernel) rfl, by decide +kernel, by decide +kernel, by decide +kernel⟩, zk_b20 14 (by decide +kernel) rfl, zk_s17 (q := (yX14_isCalled, 36)) 0 (by decide +kernel)⟩
theorem zl_X14_228 : zm_L zk_E RX14 228 yX14_tell (.code yX14_tell cX14_tell 4 none) 2 ∧ Cond.instanceMethod yX14_tell ∈ zk_E.2.2.1 ∧ Cond.selects yX14_tell.cls yX14_tell yX14_tell ∈ zk_E.2.2.1 := ⟨⟨zk_b20 39 (by decide +kernel) rfl, zk_b1 16 (by decide +kernel) rfl, zk_b20 36 (by decide +kernel) rfl, by decide +kernel, by decide +kernel, by decide +kernel⟩, zk_b20 38 (by decide +kernel) rfl, zk_s17 (q := (yX14_tell, 36)) 3 (by decide +kernel)⟩
theorem zl_X15_1 : Cond.methodLink RX15 1 Lib.objectInit ∈ zk_E.2.2.1 ∧ Cond.instanceMethod Lib.objectInit ∈ zk_E.2.2.1 ∧ Cond.code Lib.objectInit ⟨#[0xb1]⟩ 1 none ∈ zk_E.2.2.1 := ⟨zk_b13 209 (by decide +kernel) rfl, zk_b1 43 (by decide +kernel) rfl, zk_b1 44 (by decide +kernel) rfl⟩
theorem zl_X15_7 : zm_F zk_E RX15 7 15 0 := ⟨RX15, TX15, 44, rfl, zk_i15, by decide, zk_b13 210 (by decide +kernel) rfl⟩
theorem zt_15_0 : zm_T zk_E RX15 15 0 (.array .int) true := ⟨RX15, TX15, 44, tyX15, rfl, tyX15_ok, nmX15, rfl, rfl, rfl⟩
theorem zl_X15_13 : zm_F zk_E RX15 13 15 3 := ⟨RX15, TX15, 44, rfl, zk_i15, by decide, zk_b13 215 (by decide +kernel) rfl⟩
theorem zt_15_3 : zm_T zk_E RX15 15 3 (.array .long) true := ⟨RX15, TX15, 44, tyX15, rfl, tyX15_ok, nmX15, rfl, rfl, rfl⟩
theorem zl_X15_17 : zm_F zk_E RX15 17 15 4 := ⟨RX15, TX15, 44, rfl, zk_i15, by decide, zk_b13 216 (by decide +kernel) rfl⟩
theorem zt_15_4 : zm_T zk_E RX15 15 4 (.array .int) true := ⟨RX15, TX15, 44, tyX15, rfl, tyX15_ok, nmX15, rfl, rfl, rfl⟩
theorem zl_X15_20 : zm_F zk_E RX15 20 15 6 := ⟨RX15, TX15, 44, rfl, zk_i15, by decide, zk_b13 219 (by decide +kernel) rfl⟩
theorem zt_15_6 : zm_T zk_E RX15 15 6 (.array .long) true := ⟨RX15, TX15, 44, tyX15, rfl, tyX15_ok, nmX15, rfl, rfl, rfl⟩
theorem zl_X15_23 : zm_F zk_E RX15 23 15 7 := ⟨RX15, TX15, 44, rfl, zk_i15, by decide, zk_b13 220 (by decide +kernel) rfl⟩
theorem zt_15_7 : zm_T zk_E RX15 15 7 (.array .int) true := ⟨RX15, TX15, 44, tyX15, rfl, tyX15_ok, nmX15, rfl, rfl, rfl⟩
theorem zl_X15_26 : zm_F zk_E RX15 26 15 8 := ⟨RX15, TX15, 44, rfl, zk_i15, by decide, zk_b13 221 (by decide +kernel) rfl⟩
theorem zt_15_8 : zm_T zk_E RX15 15 8 (.array .int) true := ⟨RX15, TX15, 44, tyX15, rfl, tyX15_ok, nmX15, rfl, rfl, rfl⟩
theorem zl_X15_29 : zm_F zk_E RX15 29 15 9 := ⟨RX15, TX15, 44, rfl, zk_i15, by decide, zk_b13 222 (by decide +kernel) rfl⟩
theorem zt_15_9 : zm_T zk_E RX15 15 9 (.array .int) true := ⟨RX15, TX15, 44, tyX15, rfl, tyX15_ok, nmX15, rfl, rfl, rfl⟩
theorem zl_X15_32 : zm_F zk_E RX15 32 15 11 := ⟨RX15, TX15, 44, rfl, zk_i15, by decide, zk_b13 224 (by decide +kernel) rfl⟩
theorem zt_15_11 : zm_T zk_E RX15 15 11 (.array .int) true := ⟨RX15, TX15, 44, tyX15, rfl, tyX15_ok, nmX15, rfl, rfl, rfl⟩
theorem zl_X15_35 : zm_F zk_E RX15 35 15 12 := ⟨RX15, TX15, 44, rfl, zk_i15, by decide, zk_b13 225 (by decide +kernel) rfl⟩
theorem zt_15_12 : zm_T zk_E RX15 15 12 (.array .int) true := ⟨RX15, TX15, 44, tyX15, rfl, tyX15_ok, nmX15, rfl, rfl, rfl⟩
theorem zl_X15_38 : zm_F zk_E RX15 38 15 13 := ⟨RX15, TX15, 44, rfl, zk_i15, by decide, zk_b13 226 (by decide +kernel) rfl⟩
theorem zt_15_13 : zm_T zk_E RX15 15 13 (.array .int) true := ⟨RX15, TX15, 44, tyX15, rfl, tyX15_ok, nmX15, rfl, rfl, rfl⟩
theorem zl_X15_41 : zm_F zk_E RX15 41 15 14 := ⟨RX15, TX15, 44, rfl, zk_i15, by decide, zk_b13 227 (by decide +kernel) rfl⟩
theorem zt_15_14 : zm_T zk_E RX15 15 14 (.array .int) true := ⟨RX15, TX15, 44, tyX15, rfl, tyX15_ok, nmX15, rfl, rfl, rfl⟩
theorem zl_X15_44 : zm_F zk_E RX15 44 15 16 := ⟨RX15, TX15, 44, rfl, zk_i15, by decide, zk_b13 229 (by decide +kernel) rfl⟩
theorem zt_15_16 : zm_T zk_E RX15 15 16 (.array .int) true := ⟨RX15, TX15, 44, tyX15, rfl, tyX15_ok, nmX15, rfl, rfl, rfl⟩
theorem zl_X15_47 : zm_F zk_E RX15 47 15 17 := ⟨RX15, TX15, 44, rfl, zk_i15, by decide, zk_b13 230 (by decide +kernel) rfl⟩
theorem zt_15_17 : zm_T zk_E RX15 15 17 (.array .long) true := ⟨RX15, TX15, 44, tyX15, rfl, tyX15_ok, nmX15, rfl, rfl, rfl⟩
theorem zl_X15_50 : zm_F zk_E RX15 50 15 18 := ⟨RX15, TX15, 44, rfl, zk_i15, by decide, zk_b13 231 (by decide +kernel) rfl⟩
theorem zt_15_18 : zm_T zk_E RX15 15 18 .int false := ⟨RX15, TX15, 44, tyX15, rfl, tyX15_ok, nmX15, rfl, rfl, rfl⟩
theorem zl_X15_54 : zm_F zk_E RX15 54 15 19 := ⟨RX15, TX15, 44, rfl, zk_i15, by decide, zk_b13 233 (by decide +kernel) rfl⟩
theorem zt_15_19 : zm_T zk_E RX15 15 19 (.array .int) true := ⟨RX15, TX15, 44, tyX15, rfl, tyX15_ok, nmX15, rfl, rfl, rfl⟩
theorem zl_X15_57 : zm_F zk_E RX15 57 15 20 := ⟨RX15, TX15, 44, rfl, zk_i15, by decide, zk_b13 235 (by decide +kernel) rfl⟩
theorem zt_15_20 : zm_T zk_E RX15 15 20 (.array .long) true := ⟨RX15, TX15, 44, tyX15, rfl, tyX15_ok, nmX15, rfl, rfl, rfl⟩
theorem zl_X15_60 : zm_F zk_E RX15 60 15 21 := ⟨RX15, TX15, 44, rfl, zk_i15, by decide, zk_b13 236 (by decide +kernel) rfl⟩
theorem zt_15_21 : zm_T zk_E RX15 15 21 (.array .long) true := ⟨RX15, TX15, 44, tyX15, rfl, tyX15_ok, nmX15, rfl, rfl, rfl⟩
theorem zl_X15_63 : zm_F zk_E RX15 63 15 22 := ⟨RX15, TX15, 44, rfl, zk_i15, by decide, zk_b13 237 (by decide +kernel) rfl⟩
theorem zt_15_22 : zm_T zk_E RX15 15 22 (.array .long) true := ⟨RX15, TX15, 44, tyX15, rfl, tyX15_ok, nmX15, rfl, rfl, rfl⟩
theorem zl_X15_66 : zm_F zk_E RX15 66 15 23 := ⟨RX15, TX15, 44, rfl, zk_i15, by decide, zk_b13 238 (by decide +kernel) rfl⟩
theorem zt_15_23 : zm_T zk_E RX15 15 23 (.array .long) true := ⟨RX15, TX15, 44, tyX15, rfl, tyX15_ok, nmX15, rfl, rfl, rfl⟩
theorem zl_X15_69 : zm_F zk_E RX15 69 15 24 := ⟨RX15, TX15, 44, rfl, zk_i15, by decide, zk_b13 239 (by decide +kernel) rfl⟩
theorem zt_15_24 : zm_T zk_E RX15 15 24 (.array .int) true := ⟨RX15, TX15, 44, tyX15, rfl, tyX15_ok, nmX15, rfl, rfl, rfl⟩
theorem zl_X15_72 : zm_F zk_E RX15 72 15 25 := ⟨RX15, TX15, 44, rfl, zk_i15, by decide, zk_b14 0 (by decide +kernel) rfl⟩
theorem zt_15_25 : zm_T zk_E RX15 15 25 (.array .long) true := ⟨RX15, TX15, 44, tyX15, rfl, tyX15_ok, nmX15, rfl, rfl, rfl⟩
theorem zl_X15_75 : zm_F zk_E RX15 75 15 35 := ⟨RX15, TX15, 44, rfl, zk_i15, by decide, zk_b14 10 (by decide +kernel) rfl⟩
theorem zt_15_35 : zm_T zk_E RX15 15 35 (.array .int) true := ⟨RX15, TX15, 44, tyX15, rfl, tyX15_ok, nmX15, rfl, rfl, rfl⟩
theorem zl_X15_78 : zm_F zk_E RX15 78 15 37 := ⟨RX15, TX15, 44, rfl, zk_i15, by decide, zk_b14 12 (by decide +kernel) rfl⟩
theorem zt_15_37 : zm_T zk_E RX15 15 37 (.array .long) true := ⟨RX15, TX15, 44, tyX15, rfl, tyX15_ok, nmX15, rfl, rfl, rfl⟩
theorem zl_X15_81 : zm_F zk_E RX15 81 15 38 := ⟨RX15, TX15, 44, rfl, zk_i15, by decide, zk_b14 13 (by decide +kernel) rfl⟩
theorem zt_15_38 : zm_T zk_E RX15 15 38 (.array .long) true := ⟨RX15, TX15, 44, tyX15, rfl, tyX15_ok, nmX15, rfl, rfl, rfl⟩
theorem zl_X15_84 : Cond.constantLong RX15 84 (255 : Int64) ∈ zk_E.2.2.1 := zk_b17 234 (by decide +kernel) rfl
theorem zl_X15_86 : zm_L zk_E RX15 86 yX15_byteOf (.code yX15_byteOf cX15_byteOf 3 (some .int)) 2 ∧ Cond.static yX15_byteOf ∈ zk_E.2.2.1 := ⟨⟨zk_b17 233 (by decide +kernel) rfl, zk_b1 15 (by decide +kernel) rfl, zk_b17 231 (by decide +kernel) rfl, by decide +kernel, by decide +kernel, by decide +kernel⟩, zk_b17 232 (by decide +kernel) rfl⟩
theorem zl_X15_90 : zm_F zk_E RX15 90 15 1 := ⟨RX15, TX15, 44, rfl, zk_i15, by decide, zk_b13 211 (by decide +kernel) rfl⟩
theorem zt_15_1 : zm_T zk_E RX15 15 1 .int false := ⟨RX15, TX15, 44, tyX15, rfl, tyX15_ok, nmX15, rfl, rfl, rfl⟩
theorem zl_X15_93 : zm_F zk_E RX15 93 15 27 := ⟨RX15, TX15, 44, rfl, zk_i15, by decide, zk_b14 2 (by decide +kernel) rfl⟩
theorem zt_15_27 : zm_T zk_E RX15 15 27 .int false := ⟨RX15, TX15, 44, tyX15, rfl, tyX15_ok, nmX15, rfl, rfl, rfl⟩
theorem zl_X15_96 : zm_F zk_E RX15 96 15 26 := ⟨RX15, TX15, 44, rfl, zk_i15, by decide, zk_b14 1 (by decide +kernel) rfl⟩
theorem zt_15_26 : zm_T zk_E RX15 15 26 .int false := ⟨RX15, TX15, 44, tyX15, rfl, tyX15_ok, nmX15, rfl, rfl, rfl⟩
theorem zl_X15_99 : zm_F zk_E RX15 99 15 28 := ⟨RX15, TX15, 44, rfl, zk_i15, by decide, zk_b14 3 (by decide +kernel) rfl⟩
theorem zt_15_28 : zm_T zk_E RX15 15 28 .int false := ⟨RX15, TX15, 44, tyX15, rfl, tyX15_ok, nmX15, rfl, rfl, rfl⟩
theorem zl_X15_102 : zm_F zk_E RX15 102 15 29 := ⟨RX15, TX15, 44, rfl, zk_i15, by decide, zk_b14 4 (by decide +kernel) rfl⟩
theorem zt_15_29 : zm_T zk_E RX15 15 29 .long false := ⟨RX15, TX15, 44, tyX15, rfl, tyX15_ok, nmX15, rfl, rfl, rfl⟩
theorem zl_X15_106 : zm_F zk_E RX15 106 15 30 := ⟨RX15, TX15, 44, rfl, zk_i15, by decide, zk_b14 5 (by decide +kernel) rfl⟩
theorem zt_15_30 : zm_T zk_E RX15 15 30 .int false := ⟨RX15, TX15, 44, tyX15, rfl, tyX15_ok, nmX15, rfl, rfl, rfl⟩
theorem zl_X15_109 : zm_L zk_E RX15 109 yX15_isDigit (.code yX15_isDigit cX15_isDigit 1 (some .boolean)) 1 ∧ Cond.static yX15_isDigit ∈ zk_E.2.2.1 := ⟨⟨zk_b18 17 (by decide +kernel) rfl, zk_b1 15 (by decide +kernel) rfl, zk_b18 15 (by decide +kernel) rfl, by decide +kernel, by decide +kernel, by decide +kernel⟩, zk_b18 16 (by decide +kernel) rfl⟩
theorem zl_X15_125 : zm_L zk_E RX15 125 yX15_isLetter (.code yX15_isLetter cX15_isLetter 1 (some .boolean)) 1 ∧ Cond.static yX15_isLetter ∈ zk_E.2.2.1 := ⟨⟨zk_b18 26 (by decide +kernel) rfl, zk_b1 15 (by decide +kernel) rfl, zk_b18 24 (by decide +kernel) rfl, by decide +kernel, by decide +kernel, by decide +kernel⟩, zk_b18 25 (by decide +kernel) rfl⟩
theorem zl_X15_113 : zm_L zk_E RX15 113 yX15_charAt (.code yX15_charAt cX15_charAt 2 (some .int)) 1 ∧ Cond.instanceMethod yX15_charAt ∈ zk_E.2.2.1 ∧ Cond.selects yX15_charAt.cls yX15_charAt yX15_charAt ∈ zk_E.2.2.1 := ⟨⟨zk_b18 21 (by decide +kernel) rfl, zk_b1 15 (by decide +kernel) rfl, zk_b18 18 (by decide +kernel) rfl, by decide +kernel, by decide +kernel, by decide +kernel⟩, zk_b18 20 (by decide +kernel) rfl, zk_s13 (q := (yX15_charAt, 44)) 6 (by decide +kernel)⟩
theorem zl_X15_128 : zm_L zk_E RX15 128 yX15_isSign (.code yX15_isSign cX15_isSign 1 (some .boolean)) 1 ∧ Cond.static yX15_isSign ∈ zk_E.2.2.1 := ⟨⟨zk_b18 29 (by decide +kernel) rfl, zk_b1 15 (by decide +kernel) rfl, zk_b18 27 (by decide +kernel) rfl, by decide +kernel, by decide +kernel, by decide +kernel⟩, zk_b18 28 (by decide +kernel) rfl⟩
theorem zl_X15_121 : zm_F zk_E RX15 121 15 31 := ⟨RX15, TX15, 44, rfl, zk_i15, by decide, zk_b14 6 (by decide +kernel) rfl⟩
theorem zt_15_31 : zm_T zk_E RX15 15 31 .boolean false := ⟨RX15, TX15, 44, tyX15, rfl, tyX15_ok, nmX15, rfl, rfl, rfl⟩
theorem zl_X15_117 : Cond.constantLong RX15 117 (10 : Int64) ∈ zk_E.2.2.1 := zk_b18 22 (by decide +kernel) rfl
theorem zl_X15_119 : Cond.constantLong RX15 119 (48 : Int64) ∈ zk_E.2.2.1 := zk_b18 23 (by decide +kernel) rfl
theorem zl_X15_131 : zm_L zk_E RX15 131 yX15_step (.code yX15_step cX15_step 3 none) 0 ∧ Cond.instanceMethod yX15_step ∈ zk_E.2.2.1 ∧ Cond.selects yX15_step.cls yX15_step yX15_step ∈ zk_E.2.2.1 := ⟨⟨zk_b18 14 (by decide +kernel) rfl, zk_b1 15 (by decide +kernel) rfl, zk_b18 11 (by decide +kernel) rfl, by decide +kernel, by decide +kernel, by decide +kernel⟩, zk_b18 13 (by decide +kernel) rfl, zk_s13 (q := (yX15_step, 44)) 5 (by decide +kernel)⟩
theorem zl_X15_134 : zm_F zk_E RX15 134 15 34 := ⟨RX15, TX15, 44, rfl, zk_i15, by decide, zk_b14 9 (by decide +kernel) rfl⟩
theorem zt_15_34 : zm_T zk_E RX15 15 34 .int false := ⟨RX15, TX15, 44, tyX15, rfl, tyX15_ok, nmX15, rfl, rfl, rfl⟩
theorem zl_X15_137 : zm_F zk_E RX15 137 15 36 := ⟨RX15, TX15, 44, rfl, zk_i15, by decide, zk_b14 11 (by decide +kernel) rfl⟩
theorem zt_15_36 : zm_T zk_E RX15 15 36 .int false := ⟨RX15, TX15, 44, tyX15, rfl, tyX15_ok, nmX15, rfl, rfl, rfl⟩
theorem zl_X15_140 : zm_L zk_E RX15 140 yX15_emit (.code yX15_emit cX15_emit 4 none) 2 ∧ Cond.instanceMethod yX15_emit ∈ zk_E.2.2.1 ∧ Cond.selects yX15_emit.cls yX15_emit yX15_emit ∈ zk_E.2.2.1 := ⟨⟨zk_b18 56 (by decide +kernel) rfl, zk_b1 15 (by decide +kernel) rfl, zk_b18 53 (by decide +kernel) rfl, by decide +kernel, by decide +kernel, by decide +kernel⟩, zk_b18 55 (by decide +kernel) rfl, zk_s13 (q := (yX15_emit, 44)) 12 (by decide +kernel)⟩
set_option maxHeartbeats 4000000 in
set_option maxRecDepth 100000 in
theorem zt_X14_read_L22 {p : Program} {l : Launch} {e : Env} {R : Room} {s : State} {m : MethodId} {args : Array Value} {below : List Frame} {meth : Method} {c : Code} {V : zm_V} {mc ms d rc rs : Nat} (hX : zm_X p R s m args meth c RX14 "read" cX14_read 2 zk_E V mc ms) (hr : meth.sig.returnType = (some .int)) (hR : R.frames = d ∧ R.locals = 64 * d) (hd : 6 ≤ d) {N : Nat} {res : (Int32 × zm_S) ⊕ ((Unit) × zm_S)} {out : (Int32 × zm_S)} (a0 : Nat) (hf : ∀ o, res = .inl o → o = out) (hk : ∀ (S' : zm_S), res = .inr ((), S') → zw p l e R s m args below meth c (vx_MQ below (zm_Qc zk_E V (zo_i out)) (zm_XC zk_E V zo_x) args s mc ms (fun q => V.2.2.2.1 ≤ q)) 2 zk_E V mc ms 48 [(0, .ref a0)] [] S' rc rs) : ∀ (n : Nat) (i1 : Int32) (S : zm_S), zf_X14_read_L22 N n a0 i1 S = some res → zw p l e R s m args below meth c (vx_MQ below (zm_Qc zk_E V (zo_i out)) (zm_XC zk_E V zo_x) args s mc ms (fun q => V.2.2.2.1 ≤ q)) 2 zk_E V mc ms 22 [(0, .ref a0), (1, .int i1)] [] S rc rs := by
  intro n
  induction n with
  | zero => intro i1 S h; cases h
  | succ n ih =>
    intro i1 S h
    rw [zf_X14_read_L22] at h
    refine zw_iload_n hX dX14_read_22 rfl ?_
    refine zw_bipush (v := (40 : Int32)) hX dX14_read_23 (by decide) ?_
    refine zw_icmp_ge (tgt := 48) hX dX14_read_25 (by decide) (fun c25 => ?_) (fun c25 => ?_)
    · rw [if_pos c25] at h
      refine zw_sub (lv' := [(0, .ref a0)]) (List.forall_mem_cons.mpr ⟨rfl, zs_nil⟩) ?_
      exact hk  _ (Option.some.inj h).symm
    · rw [if_neg c25] at h
      refine zw_aload_n hX dX14_read_28 rfl ?_
      obtain ⟨b6, g, h⟩ := zb_some h
      refine zw_getr hX zl_X14_29 dX14_read_29 g ?_
      refine zw_iload_n hX dX14_read_32 rfl ?_
      refine zw_iconst (v := (0 : Int32)) hX dX14_read_33 (by decide) ?_
      obtain ⟨S7, g, h⟩ := zb_some h
      refine zw_sz hX dX14_read_34 g ?_
      refine zw_aload_n hX dX14_read_35 rfl ?_
      obtain ⟨b8, g, h⟩ := zb_some h
      refine zw_getr hX zl_X14_41 dX14_read_36 g ?_
      refine zw_iload_n hX dX14_read_39 rfl ?_
      refine zw_iconst (v := (0 : Int32)) hX dX14_read_40 (by decide) ?_
      obtain ⟨S9, g, h⟩ := zb_some h
      refine zw_sz hX dX14_read_41 g ?_
      refine zw_iinc (v := (i1 + (1 : Int32))) hX dX14_read_42 rfl rfl (by decide) ?_
      refine zw_goto (tgt := 22) hX dX14_read_45 (by decide) ?_
      refine zw_sub (lv' := [(0, .ref a0), (1, .int (i1 + (1 : Int32)))]) (List.forall_mem_cons.mpr ⟨rfl, (List.forall_mem_cons.mpr ⟨rfl, zs_nil⟩)⟩) ?_
      exact ih _ _ h
set_option maxHeartbeats 4000000 in
set_option maxRecDepth 100000 in
theorem zt_X14_read_L48 {p : Program} {l : Launch} {e : Env} {R : Room} {s : State} {m : MethodId} {args : Array Value} {below : List Frame} {meth : Method} {c : Code} {V : zm_V} {mc ms d rc rs : Nat} (hX : zm_X p R s m args meth c RX14 "read" cX14_read 2 zk_E V mc ms) (hr : meth.sig.returnType = (some .int)) (hR : R.frames = d ∧ R.locals = 64 * d) (hd : 6 ≤ d) {N : Nat} {res : (Int32 × zm_S) ⊕ ((Unit) × zm_S)} {out : (Int32 × zm_S)} (a0 : Nat) (hf : ∀ o, res = .inl o → o = out) (hk : ∀ (S' : zm_S), res = .inr ((), S') → zw p l e R s m args below meth c (vx_MQ below (zm_Qc zk_E V (zo_i out)) (zm_XC zk_E V zo_x) args s mc ms (fun q => V.2.2.2.1 ≤ q)) 2 zk_E V mc ms 73 [(0, .ref a0)] [] S' rc rs) : ∀ (n : Nat)  (S : zm_S), zf_X14_read_L48 N n a0 S = some res → zw p l e R s m args below meth c (vx_MQ below (zm_Qc zk_E V (zo_i out)) (zm_XC zk_E V zo_x) args s mc ms (fun q => V.2.2.2.1 ≤ q)) 2 zk_E V mc ms 48 [(0, .ref a0)] [] S rc rs := by
  intro n
  induction n with
  | zero => intro  S h; cases h
  | succ n ih =>
    intro  S h
    rw [zf_X14_read_L48] at h
    refine zw_aload_n hX dX14_read_48 rfl ?_
    obtain ⟨v11, g, h⟩ := zb_some h
    refine zw_geti hX zl_X14_131 dX14_read_49 g ?_
    refine zw_aload_n hX dX14_read_52 rfl ?_
    obtain ⟨v12, g, h⟩ := zb_some h
    refine zw_geti hX zl_X14_125 dX14_read_53 g ?_
    refine zw_icmp_ge (tgt := 73) hX dX14_read_56 (by decide) (fun c56 => ?_) (fun c56 => ?_)
    · rw [if_pos c56] at h
      refine zw_sub (lv' := [(0, .ref a0)]) (List.forall_mem_cons.mpr ⟨rfl, zs_nil⟩) ?_
      exact hk  _ (Option.some.inj h).symm
    · rw [if_neg c56] at h
      refine zw_aload_n hX dX14_read_59 rfl ?_
      obtain ⟨v13, g, h⟩ := zb_some h
      refine zw_geti hX zl_X14_134 dX14_read_60 g ?_
      refine zw_if_ge (tgt := 73) hX dX14_read_63 (by decide) (fun c63 => ?_) (fun c63 => ?_)
      · rw [if_pos c63] at h
        refine zw_sub (lv' := [(0, .ref a0)]) (List.forall_mem_cons.mpr ⟨rfl, zs_nil⟩) ?_
        exact hk  _ (Option.some.inj h).symm
      · rw [if_neg c63] at h
        refine zw_aload_n hX dX14_read_66 rfl ?_
        obtain ⟨_, gi, h⟩ := zb_some h
        obtain ⟨r15, g, h⟩ := zb_some h
        refine zc_Vv (as := []) hX gi (zt_X14_readSentence (d := d - 1) (by omega) g) zl_X14_190 rfl dX14_read_67 ⟨rfl, rfl, Nat.le_of_ble_eq_true rfl⟩ ⟨by omega, by omega⟩ ?_
        refine zw_goto (tgt := 48) hX dX14_read_70 (by decide) ?_
        refine zw_sub (lv' := [(0, .ref a0)]) (List.forall_mem_cons.mpr ⟨rfl, zs_nil⟩) ?_
        exact ih  _ h
set_option maxHeartbeats 4000000 in
set_option maxRecDepth 100000 in
theorem zt_X14_read_J73 {p : Program} {l : Launch} {e : Env} {R : Room} {s : State} {m : MethodId} {args : Array Value} {below : List Frame} {meth : Method} {c : Code} {V : zm_V} {mc ms d rc rs : Nat} (hX : zm_X p R s m args meth c RX14 "read" cX14_read 2 zk_E V mc ms) (hr : meth.sig.returnType = (some .int)) (hR : R.frames = d ∧ R.locals = 64 * d) (hd : 6 ≤ d) {N : Nat} {a0 : Nat} {out : (Int32 × zm_S)} {S : zm_S} (h : zf_X14_read_J73 N a0 S = some out) : zw p l e R s m args below meth c (vx_MQ below (zm_Qc zk_E V (zo_i out)) (zm_XC zk_E V zo_x) args s mc ms (fun q => V.2.2.2.1 ≤ q)) 2 zk_E V mc ms 73 [(0, .ref a0)] [] S rc rs := by
  unfold zf_X14_read_J73 at h
  refine zw_aload_n hX dX14_read_73 rfl ?_
  obtain ⟨v17, g, h⟩ := zb_some h
  refine zw_geti hX zl_X14_134 dX14_read_74 g ?_
  refine zw_if_lt (tgt := 87) hX dX14_read_77 (by decide) (fun c77 => ?_) (fun c77 => ?_)
  · rw [if_pos c77] at h
    refine zw_aload_n hX dX14_read_87 rfl ?_
    obtain ⟨_, gi, h⟩ := zb_some h
    obtain ⟨r19, g, h⟩ := zb_some h
    refine zc_Vv (as := []) hX gi (zt_X14_adopt (d := d - 1) (by omega) g) zl_X14_193 rfl dX14_read_88 ⟨rfl, rfl, Nat.le_of_ble_eq_true rfl⟩ ⟨by omega, by omega⟩ ?_
    refine zw_aload_n hX dX14_read_91 rfl ?_
    obtain ⟨v20, g, h⟩ := zb_some h
    refine zw_geti hX zl_X14_196 dX14_read_92 g ?_
    obtain rfl := Option.some.inj h
    exact zw_iret hX hr dX14_read_95 rfl ⟨rfl, rfl⟩
  · rw [if_neg c77] at h
    refine zw_iconst (v := (-1 : Int32)) hX dX14_read_80 (by decide) ?_
    refine zw_aload_n hX dX14_read_81 rfl ?_
    obtain ⟨v21, g, h⟩ := zb_some h
    refine zw_geti hX zl_X14_134 dX14_read_82 g ?_
    refine zw_isub hX dX14_read_85 ?_
    obtain rfl := Option.some.inj h
    exact zw_iret hX hr dX14_read_86 rfl ⟨rfl, rfl⟩
set_option maxHeartbeats 4000000 in
set_option maxRecDepth 100000 in
theorem zt_X14_read {l : Launch} {V : zm_V} {N : Nat} {S : zm_S} {out : (Int32 × zm_S)} {d : Nat} {a0 : Nat} (hd : 6 ≤ d) (h : zf_X14_read N a0 S = some out) : zm_Met l zk_E V yX14_read (.code yX14_read cX14_read 2 (some .int)) d [.ref a0] S 0 0 (zo_i out) zo_x := by
  refine zm_of (by decide +kernel) (Nat.le_of_ble_eq_true rfl) ?_
  intro p e R s m args below meth c hRR hX hr hxt
  have hR : R.frames = d ∧ R.locals = 64 * d := by rw [hRR]; exact ⟨rfl, rfl⟩
  have hX : zm_X p R s m args meth c RX14 "read" cX14_read 2 zk_E V 0 0 := hX
  unfold zf_X14_read at h
  refine zw_sub (lv' := [(0, .ref a0)]) (List.forall_mem_cons.mpr ⟨rfl, zs_nil⟩) ?_
  refine zw_aload_n hX dX14_read_0 rfl ?_
  obtain ⟨_, gi, h⟩ := zb_some h
  obtain ⟨r2, g, h⟩ := zb_some h
  refine zc_Vv (as := []) hX gi (zt_X14_list (d := d - 1) (by omega) g) zl_X14_187 rfl dX14_read_1 ⟨rfl, rfl, Nat.le_of_ble_eq_true rfl⟩ ⟨by omega, by omega⟩ ?_
  refine zw_aload_n hX dX14_read_4 rfl ?_
  refine zw_iconst (v := (0 : Int32)) hX dX14_read_5 (by decide) ?_
  obtain ⟨S3, g, h⟩ := zb_some h
  refine zw_putv hX zl_X14_131 zt_14_10 dX14_read_6 rfl rfl g ?_
  refine zw_aload_n hX dX14_read_9 rfl ?_
  refine zw_iconst (v := (-1 : Int32)) hX dX14_read_10 (by decide) ?_
  obtain ⟨S4, g, h⟩ := zb_some h
  refine zw_putv hX zl_X14_134 zt_14_11 dX14_read_11 rfl rfl g ?_
  refine zw_aload_n hX dX14_read_14 rfl ?_
  refine zw_iconst (v := (0 : Int32)) hX dX14_read_15 (by decide) ?_
  obtain ⟨S5, g, h⟩ := zb_some h
  refine zw_putv hX zl_X14_172 zt_14_22 dX14_read_16 rfl rfl g ?_
  refine zw_bipush (v := (20 : Int32)) hX dX14_read_19 (by decide) ?_
  refine zw_istore_n hX dX14_read_21 (by decide) ?_
  obtain ⟨r, g, h⟩ := zb_some h
  refine zw_sub (lv' := [(0, .ref a0), (1, .int (20 : Int32))]) (List.forall_mem_cons.mpr ⟨rfl, (List.forall_mem_cons.mpr ⟨rfl, zs_nil⟩)⟩) ?_
  refine zt_X14_read_L22 hX hr hR hd (res := r) (out := out) a0 ?_ ?_ N _ _ g
  · intro o ho
    subst ho
    exact Option.some.inj h
  · intro  S10 hx
    subst hx
    try dsimp only at h
    obtain ⟨r, g, h⟩ := zb_some h
    refine zw_sub (lv' := [(0, .ref a0)]) (List.forall_mem_cons.mpr ⟨rfl, zs_nil⟩) ?_
    refine zt_X14_read_L48 hX hr hR hd (res := r) (out := out) a0 ?_ ?_ N  _ g
    · intro o ho
      subst ho
      exact Option.some.inj h
    · intro  S16 hx
      subst hx
      try dsimp only at h
      refine zw_sub (lv' := [(0, .ref a0)]) (List.forall_mem_cons.mpr ⟨rfl, zs_nil⟩) ?_
      exact zt_X14_read_J73 hX hr hR hd h
set_option maxHeartbeats 4000000 in
set_option maxRecDepth 100000 in
theorem zt_X14_counts {l : Launch} {V : zm_V} {N : Nat} {S : zm_S} {out : (Int32 × zm_S)} {d : Nat} {a0 : Nat} {i1 : Int32} (hd : 1 ≤ d) (h : zf_X14_counts N a0 i1 S = some out) : zm_Met l zk_E V yX14_counts (.code yX14_counts cX14_counts 2 (some .boolean)) d [.ref a0, .int i1] S 0 0 (zo_i out) zo_x := by
  refine zm_of (by decide +kernel) (Nat.le_of_ble_eq_true rfl) ?_
  intro p e R s m args below meth c hRR hX hr hxt
  have hR : R.frames = d ∧ R.locals = 64 * d := by rw [hRR]; exact ⟨rfl, rfl⟩
  have hX : zm_X p R s m args meth c RX14 "counts" cX14_counts 2 zk_E V 0 0 := hX
  unfold zf_X14_counts at h
  refine zw_sub (lv' := [(0, .ref a0), (1, .int i1)]) (List.forall_mem_cons.mpr ⟨rfl, (List.forall_mem_cons.mpr ⟨rfl, zs_nil⟩)⟩) ?_
  refine zw_aload_n hX dX14_counts_0 rfl ?_
  obtain ⟨b1, g, h⟩ := zb_some h
  refine zw_getr hX zl_X14_13 dX14_counts_1 g ?_
  refine zw_iload_n hX dX14_counts_4 rfl ?_
  obtain ⟨v2, g, h⟩ := zb_some h
  refine zw_xz hX dX14_counts_5 g ?_
  refine zw_if_ne (tgt := 26) hX dX14_counts_6 (by decide) (fun c6 => ?_) (fun c6 => ?_)
  · rw [if_neg c6] at h
    refine zw_iconst (v := (0 : Int32)) hX dX14_counts_26 (by decide) ?_
    obtain rfl := Option.some.inj h
    exact zw_iret hX hr dX14_counts_27 rfl ⟨rfl, rfl⟩
  · rw [if_pos c6] at h
    refine zw_aload_n hX dX14_counts_9 rfl ?_
    obtain ⟨v3, g, h⟩ := zb_some h
    refine zw_geti hX zl_X14_202 dX14_counts_10 g ?_
    refine zw_aload_n hX dX14_counts_13 rfl ?_
    obtain ⟨b4, g, h⟩ := zb_some h
    refine zw_getr hX zl_X14_17 dX14_counts_14 g ?_
    refine zw_iload_n hX dX14_counts_17 rfl ?_
    obtain ⟨v5, g, h⟩ := zb_some h
    refine zw_xi hX dX14_counts_18 g ?_
    refine zw_icmp_lt (tgt := 26) hX dX14_counts_19 (by decide) (fun c19 => ?_) (fun c19 => ?_)
    · rw [if_pos c19] at h
      refine zw_iconst (v := (0 : Int32)) hX dX14_counts_26 (by decide) ?_
      obtain rfl := Option.some.inj h
      exact zw_iret hX hr dX14_counts_27 rfl ⟨rfl, rfl⟩
    · rw [if_neg c19] at h
      refine zw_iconst (v := (1 : Int32)) hX dX14_counts_22 (by decide) ?_
      refine zw_goto (tgt := 27) hX dX14_counts_23 (by decide) ?_
      obtain rfl := Option.some.inj h
      exact zw_iret hX hr dX14_counts_27 rfl ⟨rfl, rfl⟩
set_option maxHeartbeats 4000000 in
set_option maxRecDepth 100000 in
theorem zt_X14_ofZone_J61 {p : Program} {l : Launch} {e : Env} {R : Room} {s : State} {m : MethodId} {args : Array Value} {below : List Frame} {meth : Method} {c : Code} {V : zm_V} {mc ms d rc rs : Nat} (hX : zm_X p R s m args meth c RX14 "ofZone" cX14_ofZone 6 zk_E V mc ms) (hr : meth.sig.returnType = (some .int)) (hR : R.frames = d ∧ R.locals = 64 * d) (hd : 2 ≤ d) {N : Nat} {k : Nat → Int32 → Int32 → Int32 → Int32 → zm_S → Option ((Int32 × zm_S) ⊕ ((Int32) × zm_S))} {a0 : Nat} {i1 : Int32} {i2 : Int32} {i4 : Int32} {t0 : Int32} {t1 : Int32} {res : (Int32 × zm_S) ⊕ ((Int32) × zm_S)} {out : (Int32 × zm_S)}   (hf : ∀ o, res = .inl o → o = out) (hk : ∀ (x3 : Int32) (S' : zm_S), res = .inr (x3, S') → zw p l e R s m args below meth c (vx_MQ below (zm_Qc zk_E V (zo_i out)) (zm_XC zk_E V zo_x) args s mc ms (fun q => V.2.2.2.1 ≤ q)) 6 zk_E V mc ms 69 [(3, .int x3)] [] S' rc rs) (hrec : ∀ (i3' : Int32) (i4' : Int32) (S : zm_S), k a0 i1 i2 i3' i4' S = some res → zw p l e R s m args below meth c (vx_MQ below (zm_Qc zk_E V (zo_i out)) (zm_XC zk_E V zo_x) args s mc ms (fun q => V.2.2.2.1 ≤ q)) 6 zk_E V mc ms 5 [(0, .ref a0), (1, .int i1), (2, .int i2), (3, .int i3'), (4, .int i4')] [] S rc rs) {S : zm_S} (h : zf_X14_ofZone_J61 N k a0 i1 i2 i4 t0 t1 S = some res) : zw p l e R s m args below meth c (vx_MQ below (zm_Qc zk_E V (zo_i out)) (zm_XC zk_E V zo_x) args s mc ms (fun q => V.2.2.2.1 ≤ q)) 6 zk_E V mc ms 61 [(0, .ref a0), (1, .int i1), (2, .int i2), (4, .int i4)] [.int t1, .int t0] S rc rs := by
  unfold zf_X14_ofZone_J61 at h
  refine zw_iadd hX dX14_ofZone_61 ?_
  refine zw_istore_n hX dX14_ofZone_62 (by decide) ?_
  refine zw_iinc (v := (i4 + (1 : Int32))) hX dX14_ofZone_63 rfl rfl (by decide) ?_
  refine zw_goto (tgt := 5) hX dX14_ofZone_66 (by decide) ?_
  refine zw_sub (lv' := [(0, .ref a0), (1, .int i1), (2, .int i2), (3, .int (t0 + t1)), (4, .int (i4 + (1 : Int32)))]) (List.forall_mem_cons.mpr ⟨rfl, (List.forall_mem_cons.mpr ⟨rfl, (List.forall_mem_cons.mpr ⟨rfl, (List.forall_mem_cons.mpr ⟨rfl, (List.forall_mem_cons.mpr ⟨rfl, zs_nil⟩)⟩)⟩)⟩)⟩) ?_
  exact hrec _ _ _ h
set_option maxHeartbeats 4000000 in
set_option maxRecDepth 100000 in
theorem zt_X14_ofZone_J60 {p : Program} {l : Launch} {e : Env} {R : Room} {s : State} {m : MethodId} {args : Array Value} {below : List Frame} {meth : Method} {c : Code} {V : zm_V} {mc ms d rc rs : Nat} (hX : zm_X p R s m args meth c RX14 "ofZone" cX14_ofZone 6 zk_E V mc ms) (hr : meth.sig.returnType = (some .int)) (hR : R.frames = d ∧ R.locals = 64 * d) (hd : 2 ≤ d) {N : Nat} {k : Nat → Int32 → Int32 → Int32 → Int32 → zm_S → Option ((Int32 × zm_S) ⊕ ((Int32) × zm_S))} {a0 : Nat} {i1 : Int32} {i2 : Int32} {i4 : Int32} {t0 : Int32} {res : (Int32 × zm_S) ⊕ ((Int32) × zm_S)} {out : (Int32 × zm_S)}   (hf : ∀ o, res = .inl o → o = out) (hk : ∀ (x3 : Int32) (S' : zm_S), res = .inr (x3, S') → zw p l e R s m args below meth c (vx_MQ below (zm_Qc zk_E V (zo_i out)) (zm_XC zk_E V zo_x) args s mc ms (fun q => V.2.2.2.1 ≤ q)) 6 zk_E V mc ms 69 [(3, .int x3)] [] S' rc rs) (hrec : ∀ (i3' : Int32) (i4' : Int32) (S : zm_S), k a0 i1 i2 i3' i4' S = some res → zw p l e R s m args below meth c (vx_MQ below (zm_Qc zk_E V (zo_i out)) (zm_XC zk_E V zo_x) args s mc ms (fun q => V.2.2.2.1 ≤ q)) 6 zk_E V mc ms 5 [(0, .ref a0), (1, .int i1), (2, .int i2), (3, .int i3'), (4, .int i4')] [] S rc rs) {S : zm_S} (h : zf_X14_ofZone_J60 N k a0 i1 i2 i4 t0 S = some res) : zw p l e R s m args below meth c (vx_MQ below (zm_Qc zk_E V (zo_i out)) (zm_XC zk_E V zo_x) args s mc ms (fun q => V.2.2.2.1 ≤ q)) 6 zk_E V mc ms 60 [(0, .ref a0), (1, .int i1), (2, .int i2), (4, .int i4)] [.int t0] S rc rs := by
  unfold zf_X14_ofZone_J60 at h
  refine zw_iconst (v := (0 : Int32)) hX dX14_ofZone_60 (by decide) ?_
  refine zw_sub (lv' := [(0, .ref a0), (1, .int i1), (2, .int i2), (4, .int i4)]) (List.forall_mem_cons.mpr ⟨rfl, (List.forall_mem_cons.mpr ⟨rfl, (List.forall_mem_cons.mpr ⟨rfl, (List.forall_mem_cons.mpr ⟨rfl, zs_nil⟩)⟩)⟩)⟩) ?_
  exact zt_X14_ofZone_J61 hX hr hR hd hf hk hrec h
set_option maxHeartbeats 4000000 in
set_option maxRecDepth 100000 in
theorem zt_X14_ofZone_J56 {p : Program} {l : Launch} {e : Env} {R : Room} {s : State} {m : MethodId} {args : Array Value} {below : List Frame} {meth : Method} {c : Code} {V : zm_V} {mc ms d rc rs : Nat} (hX : zm_X p R s m args meth c RX14 "ofZone" cX14_ofZone 6 zk_E V mc ms) (hr : meth.sig.returnType = (some .int)) (hR : R.frames = d ∧ R.locals = 64 * d) (hd : 2 ≤ d) {N : Nat} {k : Nat → Int32 → Int32 → Int32 → Int32 → zm_S → Option ((Int32 × zm_S) ⊕ ((Int32) × zm_S))} {a0 : Nat} {i1 : Int32} {i2 : Int32} {i4 : Int32} {t0 : Int32} {res : (Int32 × zm_S) ⊕ ((Int32) × zm_S)} {out : (Int32 × zm_S)}   (hf : ∀ o, res = .inl o → o = out) (hk : ∀ (x3 : Int32) (S' : zm_S), res = .inr (x3, S') → zw p l e R s m args below meth c (vx_MQ below (zm_Qc zk_E V (zo_i out)) (zm_XC zk_E V zo_x) args s mc ms (fun q => V.2.2.2.1 ≤ q)) 6 zk_E V mc ms 69 [(3, .int x3)] [] S' rc rs) (hrec : ∀ (i3' : Int32) (i4' : Int32) (S : zm_S), k a0 i1 i2 i3' i4' S = some res → zw p l e R s m args below meth c (vx_MQ below (zm_Qc zk_E V (zo_i out)) (zm_XC zk_E V zo_x) args s mc ms (fun q => V.2.2.2.1 ≤ q)) 6 zk_E V mc ms 5 [(0, .ref a0), (1, .int i1), (2, .int i2), (3, .int i3'), (4, .int i4')] [] S rc rs) {S : zm_S} (h : zf_X14_ofZone_J56 N k a0 i1 i2 i4 t0 S = some res) : zw p l e R s m args below meth c (vx_MQ below (zm_Qc zk_E V (zo_i out)) (zm_XC zk_E V zo_x) args s mc ms (fun q => V.2.2.2.1 ≤ q)) 6 zk_E V mc ms 56 [(0, .ref a0), (1, .int i1), (2, .int i2), (4, .int i4)] [.int t0] S rc rs := by
  unfold zf_X14_ofZone_J56 at h
  refine zw_iconst (v := (1 : Int32)) hX dX14_ofZone_56 (by decide) ?_
  refine zw_goto (tgt := 61) hX dX14_ofZone_57 (by decide) ?_
  refine zw_sub (lv' := [(0, .ref a0), (1, .int i1), (2, .int i2), (4, .int i4)]) (List.forall_mem_cons.mpr ⟨rfl, (List.forall_mem_cons.mpr ⟨rfl, (List.forall_mem_cons.mpr ⟨rfl, (List.forall_mem_cons.mpr ⟨rfl, zs_nil⟩)⟩)⟩)⟩) ?_
  exact zt_X14_ofZone_J61 hX hr hR hd hf hk hrec h
set_option maxHeartbeats 4000000 in
set_option maxRecDepth 100000 in
theorem zt_X14_ofZone_L5 {p : Program} {l : Launch} {e : Env} {R : Room} {s : State} {m : MethodId} {args : Array Value} {below : List Frame} {meth : Method} {c : Code} {V : zm_V} {mc ms d rc rs : Nat} (hX : zm_X p R s m args meth c RX14 "ofZone" cX14_ofZone 6 zk_E V mc ms) (hr : meth.sig.returnType = (some .int)) (hR : R.frames = d ∧ R.locals = 64 * d) (hd : 2 ≤ d) {N : Nat} {res : (Int32 × zm_S) ⊕ ((Int32) × zm_S)} {out : (Int32 × zm_S)} (a0 : Nat) (i1 : Int32) (i2 : Int32) (hf : ∀ o, res = .inl o → o = out) (hk : ∀ (x3 : Int32) (S' : zm_S), res = .inr (x3, S') → zw p l e R s m args below meth c (vx_MQ below (zm_Qc zk_E V (zo_i out)) (zm_XC zk_E V zo_x) args s mc ms (fun q => V.2.2.2.1 ≤ q)) 6 zk_E V mc ms 69 [(3, .int x3)] [] S' rc rs) : ∀ (n : Nat) (i3 : Int32) (i4 : Int32) (S : zm_S), zf_X14_ofZone_L5 N n a0 i1 i2 i3 i4 S = some res → zw p l e R s m args below meth c (vx_MQ below (zm_Qc zk_E V (zo_i out)) (zm_XC zk_E V zo_x) args s mc ms (fun q => V.2.2.2.1 ≤ q)) 6 zk_E V mc ms 5 [(0, .ref a0), (1, .int i1), (2, .int i2), (3, .int i3), (4, .int i4)] [] S rc rs := by
  intro n
  induction n with
  | zero => intro i3 i4 S h; cases h
  | succ n ih =>
    intro i3 i4 S h
    rw [zf_X14_ofZone_L5] at h
    refine zw_iload hX dX14_ofZone_5 rfl ?_
    refine zw_aload_n hX dX14_ofZone_7 rfl ?_
    obtain ⟨b1, g, h⟩ := zb_some h
    refine zw_getr hX zl_X14_35 dX14_ofZone_8 g ?_
    refine zw_iload_n hX dX14_ofZone_11 rfl ?_
    obtain ⟨v2, g, h⟩ := zb_some h
    refine zw_xi hX dX14_ofZone_12 g ?_
    refine zw_icmp_ge (tgt := 69) hX dX14_ofZone_13 (by decide) (fun c13 => ?_) (fun c13 => ?_)
    · rw [if_pos c13] at h
      refine zw_sub (lv' := [(3, .int i3)]) (List.forall_mem_cons.mpr ⟨rfl, zs_nil⟩) ?_
      exact hk _ _ (Option.some.inj h).symm
    · rw [if_neg c13] at h
      refine zw_aload_n hX dX14_ofZone_16 rfl ?_
      obtain ⟨b3, g, h⟩ := zb_some h
      refine zw_getr hX zl_X14_38 dX14_ofZone_17 g ?_
      refine zw_bipush (v := (12 : Int32)) hX dX14_ofZone_20 (by decide) ?_
      refine zw_iload_n hX dX14_ofZone_22 rfl ?_
      refine zw_imul hX dX14_ofZone_23 ?_
      refine zw_iload hX dX14_ofZone_24 rfl ?_
      refine zw_iadd hX dX14_ofZone_26 ?_
      obtain ⟨v4, g, h⟩ := zb_some h
      refine zw_xi hX dX14_ofZone_27 g ?_
      refine zw_istore hX dX14_ofZone_28 (by decide) ?_
      refine zw_iload_n hX dX14_ofZone_30 rfl ?_
      refine zw_aload_n hX dX14_ofZone_31 rfl ?_
      refine zw_iload hX dX14_ofZone_32 rfl ?_
      obtain ⟨_, gi, h⟩ := zb_some h
      obtain ⟨r6, g, h⟩ := zb_some h
      refine zc_Vi (as := [.int v4]) hX gi (zt_X14_counts (d := d - 1) (by omega) g) zl_X14_205 rfl dX14_ofZone_34 ⟨rfl, rfl, Nat.le_of_ble_eq_true rfl⟩ ⟨by omega, by omega⟩ ?_
      refine zw_if_eq (tgt := 60) hX dX14_ofZone_37 (by decide) (fun c37 => ?_) (fun c37 => ?_)
      · rw [if_pos c37] at h
        refine zw_sub (lv' := [(0, .ref a0), (1, .int i1), (2, .int i2), (4, .int i4)]) (List.forall_mem_cons.mpr ⟨rfl, (List.forall_mem_cons.mpr ⟨rfl, (List.forall_mem_cons.mpr ⟨rfl, (List.forall_mem_cons.mpr ⟨rfl, zs_nil⟩)⟩)⟩)⟩) ?_
        exact zt_X14_ofZone_J60 hX hr hR hd hf hk ih h
      · rw [if_neg c37] at h
        refine zw_iload_n hX dX14_ofZone_40 rfl ?_
        refine zw_if_eq (tgt := 56) hX dX14_ofZone_41 (by decide) (fun c41 => ?_) (fun c41 => ?_)
        · rw [if_pos c41] at h
          refine zw_sub (lv' := [(0, .ref a0), (1, .int i1), (2, .int i2), (4, .int i4)]) (List.forall_mem_cons.mpr ⟨rfl, (List.forall_mem_cons.mpr ⟨rfl, (List.forall_mem_cons.mpr ⟨rfl, (List.forall_mem_cons.mpr ⟨rfl, zs_nil⟩)⟩)⟩)⟩) ?_
          exact zt_X14_ofZone_J56 hX hr hR hd hf hk ih h
        · rw [if_neg c41] at h
          refine zw_aload_n hX dX14_ofZone_44 rfl ?_
          obtain ⟨b7, g, h⟩ := zb_some h
          refine zw_getr hX zl_X14_7 dX14_ofZone_45 g ?_
          refine zw_iload hX dX14_ofZone_48 rfl ?_
          obtain ⟨v8, g, h⟩ := zb_some h
          refine zw_xi hX dX14_ofZone_50 g ?_
          refine zw_bipush (v := (50 : Int32)) hX dX14_ofZone_51 (by decide) ?_
          refine zw_icmp_lt (tgt := 60) hX dX14_ofZone_53 (by decide) (fun c53 => ?_) (fun c53 => ?_)
          · rw [if_pos c53] at h
            refine zw_sub (lv' := [(0, .ref a0), (1, .int i1), (2, .int i2), (4, .int i4)]) (List.forall_mem_cons.mpr ⟨rfl, (List.forall_mem_cons.mpr ⟨rfl, (List.forall_mem_cons.mpr ⟨rfl, (List.forall_mem_cons.mpr ⟨rfl, zs_nil⟩)⟩)⟩)⟩) ?_
            exact zt_X14_ofZone_J60 hX hr hR hd hf hk ih h
          · rw [if_neg c53] at h
            refine zw_sub (lv' := [(0, .ref a0), (1, .int i1), (2, .int i2), (4, .int i4)]) (List.forall_mem_cons.mpr ⟨rfl, (List.forall_mem_cons.mpr ⟨rfl, (List.forall_mem_cons.mpr ⟨rfl, (List.forall_mem_cons.mpr ⟨rfl, zs_nil⟩)⟩)⟩)⟩) ?_
            exact zt_X14_ofZone_J56 hX hr hR hd hf hk ih h
set_option maxHeartbeats 4000000 in
set_option maxRecDepth 100000 in
theorem zt_X14_ofZone {l : Launch} {V : zm_V} {N : Nat} {S : zm_S} {out : (Int32 × zm_S)} {d : Nat} {a0 : Nat} {i1 : Int32} {i2 : Int32} (hd : 2 ≤ d) (h : zf_X14_ofZone N a0 i1 i2 S = some out) : zm_Met l zk_E V yX14_ofZone (.code yX14_ofZone cX14_ofZone 6 (some .int)) d [.ref a0, .int i1, .int i2] S 0 0 (zo_i out) zo_x := by
  refine zm_of (by decide +kernel) (Nat.le_of_ble_eq_true rfl) ?_
  intro p e R s m args below meth c hRR hX hr hxt
  have hR : R.frames = d ∧ R.locals = 64 * d := by rw [hRR]; exact ⟨rfl, rfl⟩
  have hX : zm_X p R s m args meth c RX14 "ofZone" cX14_ofZone 6 zk_E V 0 0 := hX
  unfold zf_X14_ofZone at h
  refine zw_sub (lv' := [(0, .ref a0), (1, .int i1), (2, .int i2)]) (List.forall_mem_cons.mpr ⟨rfl, (List.forall_mem_cons.mpr ⟨rfl, (List.forall_mem_cons.mpr ⟨rfl, zs_nil⟩)⟩)⟩) ?_
  refine zw_iconst (v := (0 : Int32)) hX dX14_ofZone_0 (by decide) ?_
  refine zw_istore_n hX dX14_ofZone_1 (by decide) ?_
  refine zw_iconst (v := (0 : Int32)) hX dX14_ofZone_2 (by decide) ?_
  refine zw_istore hX dX14_ofZone_3 (by decide) ?_
  obtain ⟨r, g, h⟩ := zb_some h
  refine zw_sub (lv' := [(0, .ref a0), (1, .int i1), (2, .int i2), (3, .int (0 : Int32)), (4, .int (0 : Int32))]) (List.forall_mem_cons.mpr ⟨rfl, (List.forall_mem_cons.mpr ⟨rfl, (List.forall_mem_cons.mpr ⟨rfl, (List.forall_mem_cons.mpr ⟨rfl, (List.forall_mem_cons.mpr ⟨rfl, zs_nil⟩)⟩)⟩)⟩)⟩) ?_
  refine zt_X14_ofZone_L5 hX hr hR hd (res := r) (out := out) a0 i1 i2 ?_ ?_ N _ _ _ g
  · intro o ho
    subst ho
    exact Option.some.inj h
  · intro v10 S9 hx
    subst hx
    try dsimp only at h
    refine zw_iload_n hX dX14_ofZone_69 rfl ?_
    obtain rfl := Option.some.inj h
    exact zw_iret hX hr dX14_ofZone_70 rfl ⟨rfl, rfl⟩
set_option maxHeartbeats 4000000 in
set_option maxRecDepth 100000 in
theorem zt_X14_isOn {l : Launch} {V : zm_V} {N : Nat} {S : zm_S} {out : (Int32 × zm_S)} {d : Nat} {a0 : Nat} {i1 : Int32} (hd : 3 ≤ d) (h : zf_X14_isOn N a0 i1 S = some out) : zm_Met l zk_E V yX14_isOn (.code yX14_isOn cX14_isOn 2 (some .boolean)) d [.ref a0, .int i1] S 0 0 (zo_i out) zo_x := by
  refine zm_of (by decide +kernel) (Nat.le_of_ble_eq_true rfl) ?_
  intro p e R s m args below meth c hRR hX hr hxt
  have hR : R.frames = d ∧ R.locals = 64 * d := by rw [hRR]; exact ⟨rfl, rfl⟩
  have hX : zm_X p R s m args meth c RX14 "isOn" cX14_isOn 2 zk_E V 0 0 := hX
  unfold zf_X14_isOn at h
  refine zw_sub (lv' := [(0, .ref a0), (1, .int i1)]) (List.forall_mem_cons.mpr ⟨rfl, (List.forall_mem_cons.mpr ⟨rfl, zs_nil⟩)⟩) ?_
  refine zw_aload_n hX dX14_isOn_0 rfl ?_
  refine zw_iload_n hX dX14_isOn_1 rfl ?_
  refine zw_iconst (v := (1 : Int32)) hX dX14_isOn_2 (by decide) ?_
  obtain ⟨_, gi, h⟩ := zb_some h
  obtain ⟨r2, g, h⟩ := zb_some h
  refine zc_Vi (as := [.int i1, .int (1 : Int32)]) hX gi (zt_X14_ofZone (d := d - 1) (by omega) g) zl_X14_208 rfl dX14_isOn_3 ⟨rfl, rfl, Nat.le_of_ble_eq_true rfl⟩ ⟨by omega, by omega⟩ ?_
  refine zw_aload_n hX dX14_isOn_6 rfl ?_
  obtain ⟨b3, g, h⟩ := zb_some h
  refine zw_getr hX zl_X14_32 dX14_isOn_7 g ?_
  refine zw_iload_n hX dX14_isOn_10 rfl ?_
  obtain ⟨v4, g, h⟩ := zb_some h
  refine zw_xi hX dX14_isOn_11 g ?_
  refine zw_icmp_lt (tgt := 19) hX dX14_isOn_12 (by decide) (fun c12 => ?_) (fun c12 => ?_)
  · rw [if_pos c12] at h
    refine zw_iconst (v := (0 : Int32)) hX dX14_isOn_19 (by decide) ?_
    obtain rfl := Option.some.inj h
    exact zw_iret hX hr dX14_isOn_20 rfl ⟨rfl, rfl⟩
  · rw [if_neg c12] at h
    refine zw_iconst (v := (1 : Int32)) hX dX14_isOn_15 (by decide) ?_
    refine zw_goto (tgt := 20) hX dX14_isOn_16 (by decide) ?_
    obtain rfl := Option.some.inj h
    exact zw_iret hX hr dX14_isOn_20 rfl ⟨rfl, rfl⟩
set_option maxHeartbeats 4000000 in
set_option maxRecDepth 100000 in
theorem zt_X14_isSure {l : Launch} {V : zm_V} {N : Nat} {S : zm_S} {out : (Int32 × zm_S)} {d : Nat} {a0 : Nat} {i1 : Int32} (hd : 3 ≤ d) (h : zf_X14_isSure N a0 i1 S = some out) : zm_Met l zk_E V yX14_isSure (.code yX14_isSure cX14_isSure 3 (some .boolean)) d [.ref a0, .int i1] S 0 0 (zo_i out) zo_x := by
  refine zm_of (by decide +kernel) (Nat.le_of_ble_eq_true rfl) ?_
  intro p e R s m args below meth c hRR hX hr hxt
  have hR : R.frames = d ∧ R.locals = 64 * d := by rw [hRR]; exact ⟨rfl, rfl⟩
  have hX : zm_X p R s m args meth c RX14 "isSure" cX14_isSure 3 zk_E V 0 0 := hX
  unfold zf_X14_isSure at h
  refine zw_sub (lv' := [(0, .ref a0), (1, .int i1)]) (List.forall_mem_cons.mpr ⟨rfl, (List.forall_mem_cons.mpr ⟨rfl, zs_nil⟩)⟩) ?_
  refine zw_aload_n hX dX14_isSure_0 rfl ?_
  refine zw_iload_n hX dX14_isSure_1 rfl ?_
  refine zw_iconst (v := (0 : Int32)) hX dX14_isSure_2 (by decide) ?_
  obtain ⟨_, gi, h⟩ := zb_some h
  obtain ⟨r2, g, h⟩ := zb_some h
  refine zc_Vi (as := [.int i1, .int (0 : Int32)]) hX gi (zt_X14_ofZone (d := d - 1) (by omega) g) zl_X14_208 rfl dX14_isSure_3 ⟨rfl, rfl, Nat.le_of_ble_eq_true rfl⟩ ⟨by omega, by omega⟩ ?_
  refine zw_istore_n hX dX14_isSure_6 (by decide) ?_
  refine zw_iload_n hX dX14_isSure_7 rfl ?_
  refine zw_if_le (tgt := 25) hX dX14_isSure_8 (by decide) (fun c8 => ?_) (fun c8 => ?_)
  · rw [if_pos c8] at h
    refine zw_iconst (v := (0 : Int32)) hX dX14_isSure_25 (by decide) ?_
    obtain rfl := Option.some.inj h
    exact zw_iret hX hr dX14_isSure_26 rfl ⟨rfl, rfl⟩
  · rw [if_neg c8] at h
    refine zw_aload_n hX dX14_isSure_11 rfl ?_
    refine zw_iload_n hX dX14_isSure_12 rfl ?_
    refine zw_iconst (v := (1 : Int32)) hX dX14_isSure_13 (by decide) ?_
    obtain ⟨_, gi, h⟩ := zb_some h
    obtain ⟨r4, g, h⟩ := zb_some h
    refine zc_Vi (as := [.int i1, .int (1 : Int32)]) hX gi (zt_X14_ofZone (d := d - 1) (by omega) g) zl_X14_208 rfl dX14_isSure_14 ⟨rfl, rfl, Nat.le_of_ble_eq_true rfl⟩ ⟨by omega, by omega⟩ ?_
    refine zw_iload_n hX dX14_isSure_17 rfl ?_
    refine zw_icmp_ne (tgt := 25) hX dX14_isSure_18 (by decide) (fun c18 => ?_) (fun c18 => ?_)
    · rw [if_neg c18] at h
      refine zw_iconst (v := (0 : Int32)) hX dX14_isSure_25 (by decide) ?_
      obtain rfl := Option.some.inj h
      exact zw_iret hX hr dX14_isSure_26 rfl ⟨rfl, rfl⟩
    · rw [if_pos c18] at h
      refine zw_iconst (v := (1 : Int32)) hX dX14_isSure_21 (by decide) ?_
      refine zw_goto (tgt := 26) hX dX14_isSure_22 (by decide) ?_
      obtain rfl := Option.some.inj h
      exact zw_iret hX hr dX14_isSure_26 rfl ⟨rfl, rfl⟩
set_option maxHeartbeats 4000000 in
set_option maxRecDepth 100000 in
theorem zt_X14_isMet {l : Launch} {V : zm_V} {N : Nat} {S : zm_S} {out : (Int32 × zm_S)} {d : Nat} {a0 : Nat} {i1 : Int32} (hd : 4 ≤ d) (h : zf_X14_isMet N a0 i1 S = some out) : zm_Met l zk_E V yX14_isMet (.code yX14_isMet cX14_isMet 2 (some .boolean)) d [.ref a0, .int i1] S 0 0 (zo_i out) zo_x := by
  refine zm_of (by decide +kernel) (Nat.le_of_ble_eq_true rfl) ?_
  intro p e R s m args below meth c hRR hX hr hxt
  have hR : R.frames = d ∧ R.locals = 64 * d := by rw [hRR]; exact ⟨rfl, rfl⟩
  have hX : zm_X p R s m args meth c RX14 "isMet" cX14_isMet 2 zk_E V 0 0 := hX
  unfold zf_X14_isMet at h
  refine zw_sub (lv' := [(0, .ref a0), (1, .int i1)]) (List.forall_mem_cons.mpr ⟨rfl, (List.forall_mem_cons.mpr ⟨rfl, zs_nil⟩)⟩) ?_
  refine zw_aload_n hX dX14_isMet_0 rfl ?_
  refine zw_aload_n hX dX14_isMet_1 rfl ?_
  obtain ⟨b1, g, h⟩ := zb_some h
  refine zw_getr hX zl_X14_56 dX14_isMet_2 g ?_
  refine zw_iload_n hX dX14_isMet_5 rfl ?_
  obtain ⟨v2, g, h⟩ := zb_some h
  refine zw_xi hX dX14_isMet_6 g ?_
  obtain ⟨_, gi, h⟩ := zb_some h
  obtain ⟨r4, g, h⟩ := zb_some h
  refine zc_Vi (as := [.int v2]) hX gi (zt_X14_isOn (d := d - 1) (by omega) g) zl_X14_212 rfl dX14_isMet_7 ⟨rfl, rfl, Nat.le_of_ble_eq_true rfl⟩ ⟨by omega, by omega⟩ ?_
  refine zw_if_eq (tgt := 39) hX dX14_isMet_10 (by decide) (fun c10 => ?_) (fun c10 => ?_)
  · rw [if_pos c10] at h
    refine zw_iconst (v := (0 : Int32)) hX dX14_isMet_39 (by decide) ?_
    obtain rfl := Option.some.inj h
    exact zw_iret hX hr dX14_isMet_40 rfl ⟨rfl, rfl⟩
  · rw [if_neg c10] at h
    refine zw_aload_n hX dX14_isMet_13 rfl ?_
    obtain ⟨b5, g, h⟩ := zb_some h
    refine zw_getr hX zl_X14_59 dX14_isMet_14 g ?_
    refine zw_iload_n hX dX14_isMet_17 rfl ?_
    obtain ⟨v6, g, h⟩ := zb_some h
    refine zw_xi hX dX14_isMet_18 g ?_
    refine zw_if_lt (tgt := 35) hX dX14_isMet_19 (by decide) (fun c19 => ?_) (fun c19 => ?_)
    · rw [if_pos c19] at h
      refine zw_iconst (v := (1 : Int32)) hX dX14_isMet_35 (by decide) ?_
      refine zw_goto (tgt := 40) hX dX14_isMet_36 (by decide) ?_
      obtain rfl := Option.some.inj h
      exact zw_iret hX hr dX14_isMet_40 rfl ⟨rfl, rfl⟩
    · rw [if_neg c19] at h
      refine zw_aload_n hX dX14_isMet_22 rfl ?_
      refine zw_aload_n hX dX14_isMet_23 rfl ?_
      obtain ⟨b7, g, h⟩ := zb_some h
      refine zw_getr hX zl_X14_59 dX14_isMet_24 g ?_
      refine zw_iload_n hX dX14_isMet_27 rfl ?_
      obtain ⟨v8, g, h⟩ := zb_some h
      refine zw_xi hX dX14_isMet_28 g ?_
      obtain ⟨_, gi, h⟩ := zb_some h
      obtain ⟨r10, g, h⟩ := zb_some h
      refine zc_Vi (as := [.int v8]) hX gi (zt_X14_isOn (d := d - 1) (by omega) g) zl_X14_212 rfl dX14_isMet_29 ⟨rfl, rfl, Nat.le_of_ble_eq_true rfl⟩ ⟨by omega, by omega⟩ ?_
      refine zw_if_eq (tgt := 39) hX dX14_isMet_32 (by decide) (fun c32 => ?_) (fun c32 => ?_)
      · rw [if_pos c32] at h
        refine zw_iconst (v := (0 : Int32)) hX dX14_isMet_39 (by decide) ?_
        obtain rfl := Option.some.inj h
        exact zw_iret hX hr dX14_isMet_40 rfl ⟨rfl, rfl⟩
      · rw [if_neg c32] at h
        refine zw_iconst (v := (1 : Int32)) hX dX14_isMet_35 (by decide) ?_
        refine zw_goto (tgt := 40) hX dX14_isMet_36 (by decide) ?_
        obtain rfl := Option.some.inj h
        exact zw_iret hX hr dX14_isMet_40 rfl ⟨rfl, rfl⟩
set_option maxHeartbeats 4000000 in
set_option maxRecDepth 100000 in
theorem zt_X14_isCalled_J112 {p : Program} {l : Launch} {e : Env} {R : Room} {s : State} {m : MethodId} {args : Array Value} {below : List Frame} {meth : Method} {c : Code} {V : zm_V} {mc ms d rc rs : Nat} (hX : zm_X p R s m args meth c RX14 "isCalled" cX14_isCalled 7 zk_E V mc ms) (hr : meth.sig.returnType = (some .boolean)) (hR : R.frames = d ∧ R.locals = 64 * d) (hd : 5 ≤ d) {N : Nat} {k : Nat → Int32 → Int32 → Int32 → Int32 → zm_S → Option ((Int32 × zm_S) ⊕ ((Int32) × zm_S))} {a0 : Nat} {i1 : Int32} {i2 : Int32} {i4 : Int32} {res : (Int32 × zm_S) ⊕ ((Int32) × zm_S)} {out : (Int32 × zm_S)}   (hf : ∀ o, res = .inl o → o = out) (hk : ∀ (x3 : Int32) (S' : zm_S), res = .inr (x3, S') → zw p l e R s m args below meth c (vx_MQ below (zm_Qc zk_E V (zo_i out)) (zm_XC zk_E V zo_x) args s mc ms (fun q => V.2.2.2.1 ≤ q)) 7 zk_E V mc ms 124 [(3, .int x3)] [] S' rc rs) (hrec : ∀ (i3' : Int32) (i4' : Int32) (S : zm_S), k a0 i1 i2 i3' i4' S = some res → zw p l e R s m args below meth c (vx_MQ below (zm_Qc zk_E V (zo_i out)) (zm_XC zk_E V zo_x) args s mc ms (fun q => V.2.2.2.1 ≤ q)) 7 zk_E V mc ms 5 [(0, .ref a0), (1, .int i1), (2, .int i2), (3, .int i3'), (4, .int i4')] [] S rc rs) {S : zm_S} (h : zf_X14_isCalled_J112 N k a0 i1 i2 i4 S = some res) : zw p l e R s m args below meth c (vx_MQ below (zm_Qc zk_E V (zo_i out)) (zm_XC zk_E V zo_x) args s mc ms (fun q => V.2.2.2.1 ≤ q)) 7 zk_E V mc ms 112 [(0, .ref a0), (1, .int i1), (2, .int i2), (4, .int i4)] [] S rc rs := by
  unfold zf_X14_isCalled_J112 at h
  refine zw_iconst (v := (1 : Int32)) hX dX14_isCalled_112 (by decide) ?_
  refine zw_goto (tgt := 117) hX dX14_isCalled_113 (by decide) ?_
  refine zw_istore_n hX dX14_isCalled_117 (by decide) ?_
  refine zw_iinc (v := (i4 + (1 : Int32))) hX dX14_isCalled_118 rfl rfl (by decide) ?_
  refine zw_goto (tgt := 5) hX dX14_isCalled_121 (by decide) ?_
  refine zw_sub (lv' := [(0, .ref a0), (1, .int i1), (2, .int i2), (3, .int (1 : Int32)), (4, .int (i4 + (1 : Int32)))]) (List.forall_mem_cons.mpr ⟨rfl, (List.forall_mem_cons.mpr ⟨rfl, (List.forall_mem_cons.mpr ⟨rfl, (List.forall_mem_cons.mpr ⟨rfl, (List.forall_mem_cons.mpr ⟨rfl, zs_nil⟩)⟩)⟩)⟩)⟩) ?_
  exact hrec _ _ _ h
set_option maxHeartbeats 4000000 in
set_option maxRecDepth 100000 in
theorem zt_X14_isCalled_J116 {p : Program} {l : Launch} {e : Env} {R : Room} {s : State} {m : MethodId} {args : Array Value} {below : List Frame} {meth : Method} {c : Code} {V : zm_V} {mc ms d rc rs : Nat} (hX : zm_X p R s m args meth c RX14 "isCalled" cX14_isCalled 7 zk_E V mc ms) (hr : meth.sig.returnType = (some .boolean)) (hR : R.frames = d ∧ R.locals = 64 * d) (hd : 5 ≤ d) {N : Nat} {k : Nat → Int32 → Int32 → Int32 → Int32 → zm_S → Option ((Int32 × zm_S) ⊕ ((Int32) × zm_S))} {a0 : Nat} {i1 : Int32} {i2 : Int32} {i4 : Int32} {res : (Int32 × zm_S) ⊕ ((Int32) × zm_S)} {out : (Int32 × zm_S)}   (hf : ∀ o, res = .inl o → o = out) (hk : ∀ (x3 : Int32) (S' : zm_S), res = .inr (x3, S') → zw p l e R s m args below meth c (vx_MQ below (zm_Qc zk_E V (zo_i out)) (zm_XC zk_E V zo_x) args s mc ms (fun q => V.2.2.2.1 ≤ q)) 7 zk_E V mc ms 124 [(3, .int x3)] [] S' rc rs) (hrec : ∀ (i3' : Int32) (i4' : Int32) (S : zm_S), k a0 i1 i2 i3' i4' S = some res → zw p l e R s m args below meth c (vx_MQ below (zm_Qc zk_E V (zo_i out)) (zm_XC zk_E V zo_x) args s mc ms (fun q => V.2.2.2.1 ≤ q)) 7 zk_E V mc ms 5 [(0, .ref a0), (1, .int i1), (2, .int i2), (3, .int i3'), (4, .int i4')] [] S rc rs) {S : zm_S} (h : zf_X14_isCalled_J116 N k a0 i1 i2 i4 S = some res) : zw p l e R s m args below meth c (vx_MQ below (zm_Qc zk_E V (zo_i out)) (zm_XC zk_E V zo_x) args s mc ms (fun q => V.2.2.2.1 ≤ q)) 7 zk_E V mc ms 116 [(0, .ref a0), (1, .int i1), (2, .int i2), (4, .int i4)] [] S rc rs := by
  unfold zf_X14_isCalled_J116 at h
  refine zw_iconst (v := (0 : Int32)) hX dX14_isCalled_116 (by decide) ?_
  refine zw_istore_n hX dX14_isCalled_117 (by decide) ?_
  refine zw_iinc (v := (i4 + (1 : Int32))) hX dX14_isCalled_118 rfl rfl (by decide) ?_
  refine zw_goto (tgt := 5) hX dX14_isCalled_121 (by decide) ?_
  refine zw_sub (lv' := [(0, .ref a0), (1, .int i1), (2, .int i2), (3, .int (0 : Int32)), (4, .int (i4 + (1 : Int32)))]) (List.forall_mem_cons.mpr ⟨rfl, (List.forall_mem_cons.mpr ⟨rfl, (List.forall_mem_cons.mpr ⟨rfl, (List.forall_mem_cons.mpr ⟨rfl, (List.forall_mem_cons.mpr ⟨rfl, zs_nil⟩)⟩)⟩)⟩)⟩) ?_
  exact hrec _ _ _ h
set_option maxHeartbeats 4000000 in
set_option maxRecDepth 100000 in
theorem zt_X14_isCalled_J89 {p : Program} {l : Launch} {e : Env} {R : Room} {s : State} {m : MethodId} {args : Array Value} {below : List Frame} {meth : Method} {c : Code} {V : zm_V} {mc ms d rc rs : Nat} (hX : zm_X p R s m args meth c RX14 "isCalled" cX14_isCalled 7 zk_E V mc ms) (hr : meth.sig.returnType = (some .boolean)) (hR : R.frames = d ∧ R.locals = 64 * d) (hd : 5 ≤ d) {N : Nat} {k : Nat → Int32 → Int32 → Int32 → Int32 → zm_S → Option ((Int32 × zm_S) ⊕ ((Int32) × zm_S))} {a0 : Nat} {i1 : Int32} {i2 : Int32} {i3 : Int32} {i4 : Int32} {i5 : Int32} {t0 : Int32} {res : (Int32 × zm_S) ⊕ ((Int32) × zm_S)} {out : (Int32 × zm_S)}   (hf : ∀ o, res = .inl o → o = out) (hk : ∀ (x3 : Int32) (S' : zm_S), res = .inr (x3, S') → zw p l e R s m args below meth c (vx_MQ below (zm_Qc zk_E V (zo_i out)) (zm_XC zk_E V zo_x) args s mc ms (fun q => V.2.2.2.1 ≤ q)) 7 zk_E V mc ms 124 [(3, .int x3)] [] S' rc rs) (hrec : ∀ (i3' : Int32) (i4' : Int32) (S : zm_S), k a0 i1 i2 i3' i4' S = some res → zw p l e R s m args below meth c (vx_MQ below (zm_Qc zk_E V (zo_i out)) (zm_XC zk_E V zo_x) args s mc ms (fun q => V.2.2.2.1 ≤ q)) 7 zk_E V mc ms 5 [(0, .ref a0), (1, .int i1), (2, .int i2), (3, .int i3'), (4, .int i4')] [] S rc rs) {S : zm_S} (h : zf_X14_isCalled_J89 N k a0 i1 i2 i3 i4 i5 t0 S = some res) : zw p l e R s m args below meth c (vx_MQ below (zm_Qc zk_E V (zo_i out)) (zm_XC zk_E V zo_x) args s mc ms (fun q => V.2.2.2.1 ≤ q)) 7 zk_E V mc ms 89 [(0, .ref a0), (1, .int i1), (2, .int i2), (3, .int i3), (4, .int i4), (5, .int i5)] [.int t0] S rc rs := by
  unfold zf_X14_isCalled_J89 at h
  refine zw_istore hX dX14_isCalled_89 (by decide) ?_
  refine zw_iload_n hX dX14_isCalled_91 rfl ?_
  refine zw_if_ne (tgt := 112) hX dX14_isCalled_92 (by decide) (fun c92 => ?_) (fun c92 => ?_)
  · rw [if_neg c92] at h
    refine zw_sub (lv' := [(0, .ref a0), (1, .int i1), (2, .int i2), (4, .int i4)]) (List.forall_mem_cons.mpr ⟨rfl, (List.forall_mem_cons.mpr ⟨rfl, (List.forall_mem_cons.mpr ⟨rfl, (List.forall_mem_cons.mpr ⟨rfl, zs_nil⟩)⟩)⟩)⟩) ?_
    exact zt_X14_isCalled_J112 hX hr hR hd hf hk hrec h
  · rw [if_pos c92] at h
    refine zw_iload_n hX dX14_isCalled_95 rfl ?_
    refine zw_if_eq (tgt := 107) hX dX14_isCalled_96 (by decide) (fun c96 => ?_) (fun c96 => ?_)
    · rw [if_pos c96] at h
      refine zw_iload hX dX14_isCalled_107 rfl ?_
      refine zw_if_eq (tgt := 116) hX dX14_isCalled_109 (by decide) (fun c109 => ?_) (fun c109 => ?_)
      · rw [if_pos c109] at h
        refine zw_sub (lv' := [(0, .ref a0), (1, .int i1), (2, .int i2), (4, .int i4)]) (List.forall_mem_cons.mpr ⟨rfl, (List.forall_mem_cons.mpr ⟨rfl, (List.forall_mem_cons.mpr ⟨rfl, (List.forall_mem_cons.mpr ⟨rfl, zs_nil⟩)⟩)⟩)⟩) ?_
        exact zt_X14_isCalled_J116 hX hr hR hd hf hk hrec h
      · rw [if_neg c109] at h
        refine zw_sub (lv' := [(0, .ref a0), (1, .int i1), (2, .int i2), (4, .int i4)]) (List.forall_mem_cons.mpr ⟨rfl, (List.forall_mem_cons.mpr ⟨rfl, (List.forall_mem_cons.mpr ⟨rfl, (List.forall_mem_cons.mpr ⟨rfl, zs_nil⟩)⟩)⟩)⟩) ?_
        exact zt_X14_isCalled_J112 hX hr hR hd hf hk hrec h
    · rw [if_neg c96] at h
      refine zw_iload hX dX14_isCalled_99 rfl ?_
      refine zw_if_eq (tgt := 116) hX dX14_isCalled_101 (by decide) (fun c101 => ?_) (fun c101 => ?_)
      · rw [if_pos c101] at h
        refine zw_sub (lv' := [(0, .ref a0), (1, .int i1), (2, .int i2), (4, .int i4)]) (List.forall_mem_cons.mpr ⟨rfl, (List.forall_mem_cons.mpr ⟨rfl, (List.forall_mem_cons.mpr ⟨rfl, (List.forall_mem_cons.mpr ⟨rfl, zs_nil⟩)⟩)⟩)⟩) ?_
        exact zt_X14_isCalled_J116 hX hr hR hd hf hk hrec h
      · rw [if_neg c101] at h
        refine zw_goto (tgt := 112) hX dX14_isCalled_104 (by decide) ?_
        refine zw_sub (lv' := [(0, .ref a0), (1, .int i1), (2, .int i2), (4, .int i4)]) (List.forall_mem_cons.mpr ⟨rfl, (List.forall_mem_cons.mpr ⟨rfl, (List.forall_mem_cons.mpr ⟨rfl, (List.forall_mem_cons.mpr ⟨rfl, zs_nil⟩)⟩)⟩)⟩) ?_
        exact zt_X14_isCalled_J112 hX hr hR hd hf hk hrec h
set_option maxHeartbeats 4000000 in
set_option maxRecDepth 100000 in
theorem zt_X14_isCalled_J88 {p : Program} {l : Launch} {e : Env} {R : Room} {s : State} {m : MethodId} {args : Array Value} {below : List Frame} {meth : Method} {c : Code} {V : zm_V} {mc ms d rc rs : Nat} (hX : zm_X p R s m args meth c RX14 "isCalled" cX14_isCalled 7 zk_E V mc ms) (hr : meth.sig.returnType = (some .boolean)) (hR : R.frames = d ∧ R.locals = 64 * d) (hd : 5 ≤ d) {N : Nat} {k : Nat → Int32 → Int32 → Int32 → Int32 → zm_S → Option ((Int32 × zm_S) ⊕ ((Int32) × zm_S))} {a0 : Nat} {i1 : Int32} {i2 : Int32} {i3 : Int32} {i4 : Int32} {i5 : Int32} {res : (Int32 × zm_S) ⊕ ((Int32) × zm_S)} {out : (Int32 × zm_S)}   (hf : ∀ o, res = .inl o → o = out) (hk : ∀ (x3 : Int32) (S' : zm_S), res = .inr (x3, S') → zw p l e R s m args below meth c (vx_MQ below (zm_Qc zk_E V (zo_i out)) (zm_XC zk_E V zo_x) args s mc ms (fun q => V.2.2.2.1 ≤ q)) 7 zk_E V mc ms 124 [(3, .int x3)] [] S' rc rs) (hrec : ∀ (i3' : Int32) (i4' : Int32) (S : zm_S), k a0 i1 i2 i3' i4' S = some res → zw p l e R s m args below meth c (vx_MQ below (zm_Qc zk_E V (zo_i out)) (zm_XC zk_E V zo_x) args s mc ms (fun q => V.2.2.2.1 ≤ q)) 7 zk_E V mc ms 5 [(0, .ref a0), (1, .int i1), (2, .int i2), (3, .int i3'), (4, .int i4')] [] S rc rs) {S : zm_S} (h : zf_X14_isCalled_J88 N k a0 i1 i2 i3 i4 i5 S = some res) : zw p l e R s m args below meth c (vx_MQ below (zm_Qc zk_E V (zo_i out)) (zm_XC zk_E V zo_x) args s mc ms (fun q => V.2.2.2.1 ≤ q)) 7 zk_E V mc ms 88 [(0, .ref a0), (1, .int i1), (2, .int i2), (3, .int i3), (4, .int i4), (5, .int i5)] [] S rc rs := by
  unfold zf_X14_isCalled_J88 at h
  refine zw_iconst (v := (0 : Int32)) hX dX14_isCalled_88 (by decide) ?_
  refine zw_sub (lv' := [(0, .ref a0), (1, .int i1), (2, .int i2), (3, .int i3), (4, .int i4), (5, .int i5)]) (List.forall_mem_cons.mpr ⟨rfl, (List.forall_mem_cons.mpr ⟨rfl, (List.forall_mem_cons.mpr ⟨rfl, (List.forall_mem_cons.mpr ⟨rfl, (List.forall_mem_cons.mpr ⟨rfl, (List.forall_mem_cons.mpr ⟨rfl, zs_nil⟩)⟩)⟩)⟩)⟩)⟩) ?_
  exact zt_X14_isCalled_J89 hX hr hR hd hf hk hrec h
set_option maxHeartbeats 4000000 in
set_option maxRecDepth 100000 in
theorem zt_X14_isCalled_J84 {p : Program} {l : Launch} {e : Env} {R : Room} {s : State} {m : MethodId} {args : Array Value} {below : List Frame} {meth : Method} {c : Code} {V : zm_V} {mc ms d rc rs : Nat} (hX : zm_X p R s m args meth c RX14 "isCalled" cX14_isCalled 7 zk_E V mc ms) (hr : meth.sig.returnType = (some .boolean)) (hR : R.frames = d ∧ R.locals = 64 * d) (hd : 5 ≤ d) {N : Nat} {k : Nat → Int32 → Int32 → Int32 → Int32 → zm_S → Option ((Int32 × zm_S) ⊕ ((Int32) × zm_S))} {a0 : Nat} {i1 : Int32} {i2 : Int32} {i3 : Int32} {i4 : Int32} {i5 : Int32} {res : (Int32 × zm_S) ⊕ ((Int32) × zm_S)} {out : (Int32 × zm_S)}   (hf : ∀ o, res = .inl o → o = out) (hk : ∀ (x3 : Int32) (S' : zm_S), res = .inr (x3, S') → zw p l e R s m args below meth c (vx_MQ below (zm_Qc zk_E V (zo_i out)) (zm_XC zk_E V zo_x) args s mc ms (fun q => V.2.2.2.1 ≤ q)) 7 zk_E V mc ms 124 [(3, .int x3)] [] S' rc rs) (hrec : ∀ (i3' : Int32) (i4' : Int32) (S : zm_S), k a0 i1 i2 i3' i4' S = some res → zw p l e R s m args below meth c (vx_MQ below (zm_Qc zk_E V (zo_i out)) (zm_XC zk_E V zo_x) args s mc ms (fun q => V.2.2.2.1 ≤ q)) 7 zk_E V mc ms 5 [(0, .ref a0), (1, .int i1), (2, .int i2), (3, .int i3'), (4, .int i4')] [] S rc rs) {S : zm_S} (h : zf_X14_isCalled_J84 N k a0 i1 i2 i3 i4 i5 S = some res) : zw p l e R s m args below meth c (vx_MQ below (zm_Qc zk_E V (zo_i out)) (zm_XC zk_E V zo_x) args s mc ms (fun q => V.2.2.2.1 ≤ q)) 7 zk_E V mc ms 84 [(0, .ref a0), (1, .int i1), (2, .int i2), (3, .int i3), (4, .int i4), (5, .int i5)] [] S rc rs := by
  unfold zf_X14_isCalled_J84 at h
  refine zw_iconst (v := (1 : Int32)) hX dX14_isCalled_84 (by decide) ?_
  refine zw_goto (tgt := 89) hX dX14_isCalled_85 (by decide) ?_
  refine zw_sub (lv' := [(0, .ref a0), (1, .int i1), (2, .int i2), (3, .int i3), (4, .int i4), (5, .int i5)]) (List.forall_mem_cons.mpr ⟨rfl, (List.forall_mem_cons.mpr ⟨rfl, (List.forall_mem_cons.mpr ⟨rfl, (List.forall_mem_cons.mpr ⟨rfl, (List.forall_mem_cons.mpr ⟨rfl, (List.forall_mem_cons.mpr ⟨rfl, zs_nil⟩)⟩)⟩)⟩)⟩)⟩) ?_
  exact zt_X14_isCalled_J89 hX hr hR hd hf hk hrec h
set_option maxHeartbeats 4000000 in
set_option maxRecDepth 100000 in
theorem zt_X14_isCalled_J39 {p : Program} {l : Launch} {e : Env} {R : Room} {s : State} {m : MethodId} {args : Array Value} {below : List Frame} {meth : Method} {c : Code} {V : zm_V} {mc ms d rc rs : Nat} (hX : zm_X p R s m args meth c RX14 "isCalled" cX14_isCalled 7 zk_E V mc ms) (hr : meth.sig.returnType = (some .boolean)) (hR : R.frames = d ∧ R.locals = 64 * d) (hd : 5 ≤ d) {N : Nat} {k : Nat → Int32 → Int32 → Int32 → Int32 → zm_S → Option ((Int32 × zm_S) ⊕ ((Int32) × zm_S))} {a0 : Nat} {i1 : Int32} {i2 : Int32} {i3 : Int32} {i4 : Int32} {t0 : Int32} {res : (Int32 × zm_S) ⊕ ((Int32) × zm_S)} {out : (Int32 × zm_S)}   (hf : ∀ o, res = .inl o → o = out) (hk : ∀ (x3 : Int32) (S' : zm_S), res = .inr (x3, S') → zw p l e R s m args below meth c (vx_MQ below (zm_Qc zk_E V (zo_i out)) (zm_XC zk_E V zo_x) args s mc ms (fun q => V.2.2.2.1 ≤ q)) 7 zk_E V mc ms 124 [(3, .int x3)] [] S' rc rs) (hrec : ∀ (i3' : Int32) (i4' : Int32) (S : zm_S), k a0 i1 i2 i3' i4' S = some res → zw p l e R s m args below meth c (vx_MQ below (zm_Qc zk_E V (zo_i out)) (zm_XC zk_E V zo_x) args s mc ms (fun q => V.2.2.2.1 ≤ q)) 7 zk_E V mc ms 5 [(0, .ref a0), (1, .int i1), (2, .int i2), (3, .int i3'), (4, .int i4')] [] S rc rs) {S : zm_S} (h : zf_X14_isCalled_J39 N k a0 i1 i2 i3 i4 t0 S = some res) : zw p l e R s m args below meth c (vx_MQ below (zm_Qc zk_E V (zo_i out)) (zm_XC zk_E V zo_x) args s mc ms (fun q => V.2.2.2.1 ≤ q)) 7 zk_E V mc ms 39 [(0, .ref a0), (1, .int i1), (2, .int i2), (3, .int i3), (4, .int i4)] [.int t0] S rc rs := by
  unfold zf_X14_isCalled_J39 at h
  refine zw_istore hX dX14_isCalled_39 (by decide) ?_
  refine zw_iload hX dX14_isCalled_41 rfl ?_
  refine zw_if_eq (tgt := 88) hX dX14_isCalled_43 (by decide) (fun c43 => ?_) (fun c43 => ?_)
  · rw [if_pos c43] at h
    refine zw_sub (lv' := [(0, .ref a0), (1, .int i1), (2, .int i2), (3, .int i3), (4, .int i4), (5, .int t0)]) (List.forall_mem_cons.mpr ⟨rfl, (List.forall_mem_cons.mpr ⟨rfl, (List.forall_mem_cons.mpr ⟨rfl, (List.forall_mem_cons.mpr ⟨rfl, (List.forall_mem_cons.mpr ⟨rfl, (List.forall_mem_cons.mpr ⟨rfl, zs_nil⟩)⟩)⟩)⟩)⟩)⟩) ?_
    exact zt_X14_isCalled_J88 hX hr hR hd hf hk hrec h
  · rw [if_neg c43] at h
    refine zw_aload_n hX dX14_isCalled_46 rfl ?_
    refine zw_aload_n hX dX14_isCalled_47 rfl ?_
    obtain ⟨b4, g, h⟩ := zb_some h
    refine zw_getr hX zl_X14_56 dX14_isCalled_48 g ?_
    refine zw_iload hX dX14_isCalled_51 rfl ?_
    obtain ⟨v5, g, h⟩ := zb_some h
    refine zw_xi hX dX14_isCalled_53 g ?_
    obtain ⟨_, gi, h⟩ := zb_some h
    obtain ⟨r7, g, h⟩ := zb_some h
    refine zc_Vi (as := [.int v5]) hX gi (zt_X14_isSure (d := d - 1) (by omega) g) zl_X14_218 rfl dX14_isCalled_54 ⟨rfl, rfl, Nat.le_of_ble_eq_true rfl⟩ ⟨by omega, by omega⟩ ?_
    refine zw_if_ne (tgt := 84) hX dX14_isCalled_57 (by decide) (fun c57 => ?_) (fun c57 => ?_)
    · rw [if_neg c57] at h
      refine zw_sub (lv' := [(0, .ref a0), (1, .int i1), (2, .int i2), (3, .int i3), (4, .int i4), (5, .int t0)]) (List.forall_mem_cons.mpr ⟨rfl, (List.forall_mem_cons.mpr ⟨rfl, (List.forall_mem_cons.mpr ⟨rfl, (List.forall_mem_cons.mpr ⟨rfl, (List.forall_mem_cons.mpr ⟨rfl, (List.forall_mem_cons.mpr ⟨rfl, zs_nil⟩)⟩)⟩)⟩)⟩)⟩) ?_
      exact zt_X14_isCalled_J84 hX hr hR hd hf hk hrec h
    · rw [if_pos c57] at h
      refine zw_aload_n hX dX14_isCalled_60 rfl ?_
      obtain ⟨b8, g, h⟩ := zb_some h
      refine zw_getr hX zl_X14_59 dX14_isCalled_61 g ?_
      refine zw_iload hX dX14_isCalled_64 rfl ?_
      obtain ⟨v9, g, h⟩ := zb_some h
      refine zw_xi hX dX14_isCalled_66 g ?_
      refine zw_if_lt (tgt := 88) hX dX14_isCalled_67 (by decide) (fun c67 => ?_) (fun c67 => ?_)
      · rw [if_pos c67] at h
        refine zw_sub (lv' := [(0, .ref a0), (1, .int i1), (2, .int i2), (3, .int i3), (4, .int i4), (5, .int t0)]) (List.forall_mem_cons.mpr ⟨rfl, (List.forall_mem_cons.mpr ⟨rfl, (List.forall_mem_cons.mpr ⟨rfl, (List.forall_mem_cons.mpr ⟨rfl, (List.forall_mem_cons.mpr ⟨rfl, (List.forall_mem_cons.mpr ⟨rfl, zs_nil⟩)⟩)⟩)⟩)⟩)⟩) ?_
        exact zt_X14_isCalled_J88 hX hr hR hd hf hk hrec h
      · rw [if_neg c67] at h
        refine zw_aload_n hX dX14_isCalled_70 rfl ?_
        refine zw_aload_n hX dX14_isCalled_71 rfl ?_
        obtain ⟨b10, g, h⟩ := zb_some h
        refine zw_getr hX zl_X14_59 dX14_isCalled_72 g ?_
        refine zw_iload hX dX14_isCalled_75 rfl ?_
        obtain ⟨v11, g, h⟩ := zb_some h
        refine zw_xi hX dX14_isCalled_77 g ?_
        obtain ⟨_, gi, h⟩ := zb_some h
        obtain ⟨r13, g, h⟩ := zb_some h
        refine zc_Vi (as := [.int v11]) hX gi (zt_X14_isSure (d := d - 1) (by omega) g) zl_X14_218 rfl dX14_isCalled_78 ⟨rfl, rfl, Nat.le_of_ble_eq_true rfl⟩ ⟨by omega, by omega⟩ ?_
        refine zw_if_eq (tgt := 88) hX dX14_isCalled_81 (by decide) (fun c81 => ?_) (fun c81 => ?_)
        · rw [if_pos c81] at h
          refine zw_sub (lv' := [(0, .ref a0), (1, .int i1), (2, .int i2), (3, .int i3), (4, .int i4), (5, .int t0)]) (List.forall_mem_cons.mpr ⟨rfl, (List.forall_mem_cons.mpr ⟨rfl, (List.forall_mem_cons.mpr ⟨rfl, (List.forall_mem_cons.mpr ⟨rfl, (List.forall_mem_cons.mpr ⟨rfl, (List.forall_mem_cons.mpr ⟨rfl, zs_nil⟩)⟩)⟩)⟩)⟩)⟩) ?_
          exact zt_X14_isCalled_J88 hX hr hR hd hf hk hrec h
        · rw [if_neg c81] at h
          refine zw_sub (lv' := [(0, .ref a0), (1, .int i1), (2, .int i2), (3, .int i3), (4, .int i4), (5, .int t0)]) (List.forall_mem_cons.mpr ⟨rfl, (List.forall_mem_cons.mpr ⟨rfl, (List.forall_mem_cons.mpr ⟨rfl, (List.forall_mem_cons.mpr ⟨rfl, (List.forall_mem_cons.mpr ⟨rfl, (List.forall_mem_cons.mpr ⟨rfl, zs_nil⟩)⟩)⟩)⟩)⟩)⟩) ?_
          exact zt_X14_isCalled_J84 hX hr hR hd hf hk hrec h
set_option maxHeartbeats 4000000 in
set_option maxRecDepth 100000 in
theorem zt_X14_isCalled_J38 {p : Program} {l : Launch} {e : Env} {R : Room} {s : State} {m : MethodId} {args : Array Value} {below : List Frame} {meth : Method} {c : Code} {V : zm_V} {mc ms d rc rs : Nat} (hX : zm_X p R s m args meth c RX14 "isCalled" cX14_isCalled 7 zk_E V mc ms) (hr : meth.sig.returnType = (some .boolean)) (hR : R.frames = d ∧ R.locals = 64 * d) (hd : 5 ≤ d) {N : Nat} {k : Nat → Int32 → Int32 → Int32 → Int32 → zm_S → Option ((Int32 × zm_S) ⊕ ((Int32) × zm_S))} {a0 : Nat} {i1 : Int32} {i2 : Int32} {i3 : Int32} {i4 : Int32} {res : (Int32 × zm_S) ⊕ ((Int32) × zm_S)} {out : (Int32 × zm_S)}   (hf : ∀ o, res = .inl o → o = out) (hk : ∀ (x3 : Int32) (S' : zm_S), res = .inr (x3, S') → zw p l e R s m args below meth c (vx_MQ below (zm_Qc zk_E V (zo_i out)) (zm_XC zk_E V zo_x) args s mc ms (fun q => V.2.2.2.1 ≤ q)) 7 zk_E V mc ms 124 [(3, .int x3)] [] S' rc rs) (hrec : ∀ (i3' : Int32) (i4' : Int32) (S : zm_S), k a0 i1 i2 i3' i4' S = some res → zw p l e R s m args below meth c (vx_MQ below (zm_Qc zk_E V (zo_i out)) (zm_XC zk_E V zo_x) args s mc ms (fun q => V.2.2.2.1 ≤ q)) 7 zk_E V mc ms 5 [(0, .ref a0), (1, .int i1), (2, .int i2), (3, .int i3'), (4, .int i4')] [] S rc rs) {S : zm_S} (h : zf_X14_isCalled_J38 N k a0 i1 i2 i3 i4 S = some res) : zw p l e R s m args below meth c (vx_MQ below (zm_Qc zk_E V (zo_i out)) (zm_XC zk_E V zo_x) args s mc ms (fun q => V.2.2.2.1 ≤ q)) 7 zk_E V mc ms 38 [(0, .ref a0), (1, .int i1), (2, .int i2), (3, .int i3), (4, .int i4)] [] S rc rs := by
  unfold zf_X14_isCalled_J38 at h
  refine zw_iconst (v := (0 : Int32)) hX dX14_isCalled_38 (by decide) ?_
  refine zw_sub (lv' := [(0, .ref a0), (1, .int i1), (2, .int i2), (3, .int i3), (4, .int i4)]) (List.forall_mem_cons.mpr ⟨rfl, (List.forall_mem_cons.mpr ⟨rfl, (List.forall_mem_cons.mpr ⟨rfl, (List.forall_mem_cons.mpr ⟨rfl, (List.forall_mem_cons.mpr ⟨rfl, zs_nil⟩)⟩)⟩)⟩)⟩) ?_
  exact zt_X14_isCalled_J39 hX hr hR hd hf hk hrec h
set_option maxHeartbeats 4000000 in
set_option maxRecDepth 100000 in
theorem zt_X14_isCalled_L5 {p : Program} {l : Launch} {e : Env} {R : Room} {s : State} {m : MethodId} {args : Array Value} {below : List Frame} {meth : Method} {c : Code} {V : zm_V} {mc ms d rc rs : Nat} (hX : zm_X p R s m args meth c RX14 "isCalled" cX14_isCalled 7 zk_E V mc ms) (hr : meth.sig.returnType = (some .boolean)) (hR : R.frames = d ∧ R.locals = 64 * d) (hd : 5 ≤ d) {N : Nat} {res : (Int32 × zm_S) ⊕ ((Int32) × zm_S)} {out : (Int32 × zm_S)} (a0 : Nat) (i1 : Int32) (i2 : Int32) (hf : ∀ o, res = .inl o → o = out) (hk : ∀ (x3 : Int32) (S' : zm_S), res = .inr (x3, S') → zw p l e R s m args below meth c (vx_MQ below (zm_Qc zk_E V (zo_i out)) (zm_XC zk_E V zo_x) args s mc ms (fun q => V.2.2.2.1 ≤ q)) 7 zk_E V mc ms 124 [(3, .int x3)] [] S' rc rs) : ∀ (n : Nat) (i3 : Int32) (i4 : Int32) (S : zm_S), zf_X14_isCalled_L5 N n a0 i1 i2 i3 i4 S = some res → zw p l e R s m args below meth c (vx_MQ below (zm_Qc zk_E V (zo_i out)) (zm_XC zk_E V zo_x) args s mc ms (fun q => V.2.2.2.1 ≤ q)) 7 zk_E V mc ms 5 [(0, .ref a0), (1, .int i1), (2, .int i2), (3, .int i3), (4, .int i4)] [] S rc rs := by
  intro n
  induction n with
  | zero => intro i3 i4 S h; cases h
  | succ n ih =>
    intro i3 i4 S h
    rw [zf_X14_isCalled_L5] at h
    refine zw_iload hX dX14_isCalled_5 rfl ?_
    refine zw_aload_n hX dX14_isCalled_7 rfl ?_
    obtain ⟨v1, g, h⟩ := zb_some h
    refine zw_geti hX zl_X14_196 dX14_isCalled_8 g ?_
    refine zw_icmp_ge (tgt := 124) hX dX14_isCalled_11 (by decide) (fun c11 => ?_) (fun c11 => ?_)
    · rw [if_pos c11] at h
      refine zw_sub (lv' := [(3, .int i3)]) (List.forall_mem_cons.mpr ⟨rfl, zs_nil⟩) ?_
      exact hk _ _ (Option.some.inj h).symm
    · rw [if_neg c11] at h
      refine zw_aload_n hX dX14_isCalled_14 rfl ?_
      obtain ⟨b2, g, h⟩ := zb_some h
      refine zw_getr hX zl_X14_62 dX14_isCalled_15 g ?_
      refine zw_iload hX dX14_isCalled_18 rfl ?_
      obtain ⟨v3, g, h⟩ := zb_some h
      refine zw_xi hX dX14_isCalled_20 g ?_
      refine zw_iload_n hX dX14_isCalled_21 rfl ?_
      refine zw_icmp_ne (tgt := 38) hX dX14_isCalled_22 (by decide) (fun c22 => ?_) (fun c22 => ?_)
      · rw [if_neg c22] at h
        refine zw_sub (lv' := [(0, .ref a0), (1, .int i1), (2, .int i2), (3, .int i3), (4, .int i4)]) (List.forall_mem_cons.mpr ⟨rfl, (List.forall_mem_cons.mpr ⟨rfl, (List.forall_mem_cons.mpr ⟨rfl, (List.forall_mem_cons.mpr ⟨rfl, (List.forall_mem_cons.mpr ⟨rfl, zs_nil⟩)⟩)⟩)⟩)⟩) ?_
        exact zt_X14_isCalled_J38 hX hr hR hd hf hk ih h
      · rw [if_pos c22] at h
        refine zw_aload_n hX dX14_isCalled_25 rfl ?_
        refine zw_iload hX dX14_isCalled_26 rfl ?_
        obtain ⟨_, gi, h⟩ := zb_some h
        obtain ⟨r15, g, h⟩ := zb_some h
        refine zc_Vi (as := [.int i4]) hX gi (zt_X14_isMet (d := d - 1) (by omega) g) zl_X14_215 rfl dX14_isCalled_28 ⟨rfl, rfl, Nat.le_of_ble_eq_true rfl⟩ ⟨by omega, by omega⟩ ?_
        refine zw_if_eq (tgt := 38) hX dX14_isCalled_31 (by decide) (fun c31 => ?_) (fun c31 => ?_)
        · rw [if_pos c31] at h
          refine zw_sub (lv' := [(0, .ref a0), (1, .int i1), (2, .int i2), (3, .int i3), (4, .int i4)]) (List.forall_mem_cons.mpr ⟨rfl, (List.forall_mem_cons.mpr ⟨rfl, (List.forall_mem_cons.mpr ⟨rfl, (List.forall_mem_cons.mpr ⟨rfl, (List.forall_mem_cons.mpr ⟨rfl, zs_nil⟩)⟩)⟩)⟩)⟩) ?_
          exact zt_X14_isCalled_J38 hX hr hR hd hf hk ih h
        · rw [if_neg c31] at h
          refine zw_iconst (v := (1 : Int32)) hX dX14_isCalled_34 (by decide) ?_
          refine zw_goto (tgt := 39) hX dX14_isCalled_35 (by decide) ?_
          refine zw_sub (lv' := [(0, .ref a0), (1, .int i1), (2, .int i2), (3, .int i3), (4, .int i4)]) (List.forall_mem_cons.mpr ⟨rfl, (List.forall_mem_cons.mpr ⟨rfl, (List.forall_mem_cons.mpr ⟨rfl, (List.forall_mem_cons.mpr ⟨rfl, (List.forall_mem_cons.mpr ⟨rfl, zs_nil⟩)⟩)⟩)⟩)⟩) ?_
          exact zt_X14_isCalled_J39 hX hr hR hd hf hk ih h
set_option maxHeartbeats 4000000 in
set_option maxRecDepth 100000 in
theorem zt_X14_isCalled {l : Launch} {V : zm_V} {N : Nat} {S : zm_S} {out : (Int32 × zm_S)} {d : Nat} {a0 : Nat} {i1 : Int32} {i2 : Int32} (hd : 5 ≤ d) (h : zf_X14_isCalled N a0 i1 i2 S = some out) : zm_Met l zk_E V yX14_isCalled (.code yX14_isCalled cX14_isCalled 7 (some .boolean)) d [.ref a0, .int i1, .int i2] S 0 0 (zo_i out) zo_x := by
  refine zm_of (by decide +kernel) (Nat.le_of_ble_eq_true rfl) ?_
  intro p e R s m args below meth c hRR hX hr hxt
  have hR : R.frames = d ∧ R.locals = 64 * d := by rw [hRR]; exact ⟨rfl, rfl⟩
  have hX : zm_X p R s m args meth c RX14 "isCalled" cX14_isCalled 7 zk_E V 0 0 := hX
  unfold zf_X14_isCalled at h
  refine zw_sub (lv' := [(0, .ref a0), (1, .int i1), (2, .int i2)]) (List.forall_mem_cons.mpr ⟨rfl, (List.forall_mem_cons.mpr ⟨rfl, (List.forall_mem_cons.mpr ⟨rfl, zs_nil⟩)⟩)⟩) ?_
  refine zw_iconst (v := (0 : Int32)) hX dX14_isCalled_0 (by decide) ?_
  refine zw_istore_n hX dX14_isCalled_1 (by decide) ?_
  refine zw_iconst (v := (0 : Int32)) hX dX14_isCalled_2 (by decide) ?_
  refine zw_istore hX dX14_isCalled_3 (by decide) ?_
  obtain ⟨r, g, h⟩ := zb_some h
  refine zw_sub (lv' := [(0, .ref a0), (1, .int i1), (2, .int i2), (3, .int (0 : Int32)), (4, .int (0 : Int32))]) (List.forall_mem_cons.mpr ⟨rfl, (List.forall_mem_cons.mpr ⟨rfl, (List.forall_mem_cons.mpr ⟨rfl, (List.forall_mem_cons.mpr ⟨rfl, (List.forall_mem_cons.mpr ⟨rfl, zs_nil⟩)⟩)⟩)⟩)⟩) ?_
  refine zt_X14_isCalled_L5 hX hr hR hd (res := r) (out := out) a0 i1 i2 ?_ ?_ N _ _ _ g
  · intro o ho
    subst ho
    exact Option.some.inj h
  · intro v17 S16 hx
    subst hx
    try dsimp only at h
    refine zw_iload_n hX dX14_isCalled_124 rfl ?_
    by_cases cz : v17 = 0 ∨ v17 = 1
    · rw [if_pos cz] at h
      obtain rfl := Option.some.inj h
      exact zw_iret hX hr dX14_isCalled_125 (zn_z cz) ⟨rfl, rfl⟩
    · rw [if_neg cz] at h
      cases h
set_option maxHeartbeats 4000000 in
set_option maxRecDepth 100000 in
theorem zt_X14_tell_J75 {p : Program} {l : Launch} {e : Env} {R : Room} {s : State} {m : MethodId} {args : Array Value} {below : List Frame} {meth : Method} {c : Code} {V : zm_V} {mc ms d rc rs : Nat} (hX : zm_X p R s m args meth c RX14 "tell" cX14_tell 4 zk_E V mc ms) (hr : meth.sig.returnType = none) (hR : R.frames = d ∧ R.locals = 64 * d) (hd : 1 ≤ d) {N : Nat} {a0 : Nat} {i1 : Int32} {i2 : Int32} {out : (Unit × zm_S)} {S : zm_S} (h : zf_X14_tell_J75 N a0 i1 i2 S = some out) : zw p l e R s m args below meth c (vx_MQ below (zm_Qc zk_E V (zo_v out)) (zm_XC zk_E V zo_x) args s mc ms (fun q => V.2.2.2.1 ≤ q)) 4 zk_E V mc ms 75 [(0, .ref a0), (1, .int i1), (2, .int i2)] [] S rc rs := by
  unfold zf_X14_tell_J75 at h
  refine zw_aload_n hX dX14_tell_75 rfl ?_
  obtain ⟨b2, g, h⟩ := zb_some h
  refine zw_getr hX zl_X14_77 dX14_tell_76 g ?_
  refine zw_aload_n hX dX14_tell_79 rfl ?_
  obtain ⟨v3, g, h⟩ := zb_some h
  refine zw_geti hX zl_X14_221 dX14_tell_80 g ?_
  refine zw_aload_n hX dX14_tell_83 rfl ?_
  obtain ⟨v4, g, h⟩ := zb_some h
  refine zw_geti hX zl_X14_202 dX14_tell_84 g ?_
  obtain ⟨S5, g, h⟩ := zb_some h
  refine zw_si hX dX14_tell_87 g ?_
  refine zw_aload_n hX dX14_tell_88 rfl ?_
  obtain ⟨b6, g, h⟩ := zb_some h
  refine zw_getr hX zl_X14_80 dX14_tell_89 g ?_
  refine zw_aload_n hX dX14_tell_92 rfl ?_
  obtain ⟨v7, g, h⟩ := zb_some h
  refine zw_geti hX zl_X14_221 dX14_tell_93 g ?_
  refine zw_iload_n hX dX14_tell_96 rfl ?_
  obtain ⟨S8, g, h⟩ := zb_some h
  refine zw_si hX dX14_tell_97 g ?_
  refine zw_aload_n hX dX14_tell_98 rfl ?_
  obtain ⟨b9, g, h⟩ := zb_some h
  refine zw_getr hX zl_X14_83 dX14_tell_99 g ?_
  refine zw_aload_n hX dX14_tell_102 rfl ?_
  obtain ⟨v10, g, h⟩ := zb_some h
  refine zw_geti hX zl_X14_221 dX14_tell_103 g ?_
  refine zw_iload_n hX dX14_tell_106 rfl ?_
  obtain ⟨S11, g, h⟩ := zb_some h
  refine zw_si hX dX14_tell_107 g ?_
  refine zw_aload_n hX dX14_tell_108 rfl ?_
  refine zw_dup hX dX14_tell_109 rfl ?_
  obtain ⟨v12, g, h⟩ := zb_some h
  refine zw_geti hX zl_X14_221 dX14_tell_110 g ?_
  refine zw_iconst (v := (1 : Int32)) hX dX14_tell_113 (by decide) ?_
  refine zw_iadd hX dX14_tell_114 ?_
  obtain ⟨S13, g, h⟩ := zb_some h
  refine zw_putv hX zl_X14_221 zt_14_30 dX14_tell_115 rfl rfl g ?_
  obtain rfl := Option.some.inj h
  exact zw_vret hX hr dX14_tell_118 ⟨rfl, rfl⟩
set_option maxHeartbeats 4000000 in
set_option maxRecDepth 100000 in
theorem zt_X14_tell_L11 {p : Program} {l : Launch} {e : Env} {R : Room} {s : State} {m : MethodId} {args : Array Value} {below : List Frame} {meth : Method} {c : Code} {V : zm_V} {mc ms d rc rs : Nat} (hX : zm_X p R s m args meth c RX14 "tell" cX14_tell 4 zk_E V mc ms) (hr : meth.sig.returnType = none) (hR : R.frames = d ∧ R.locals = 64 * d) (hd : 1 ≤ d) {N : Nat} {res : (Unit × zm_S) ⊕ ((Unit) × zm_S)} {out : (Unit × zm_S)} (a0 : Nat) (i1 : Int32) (i2 : Int32) (hf : ∀ o, res = .inl o → o = out) (hk : ∀ (S' : zm_S), res = .inr ((), S') → zw p l e R s m args below meth c (vx_MQ below (zm_Qc zk_E V (zo_v out)) (zm_XC zk_E V zo_x) args s mc ms (fun q => V.2.2.2.1 ≤ q)) 4 zk_E V mc ms 65 [(0, .ref a0), (1, .int i1), (2, .int i2)] [] S' rc rs) : ∀ (n : Nat) (i3 : Int32) (S : zm_S), zf_X14_tell_L11 N n a0 i1 i2 i3 S = some res → zw p l e R s m args below meth c (vx_MQ below (zm_Qc zk_E V (zo_v out)) (zm_XC zk_E V zo_x) args s mc ms (fun q => V.2.2.2.1 ≤ q)) 4 zk_E V mc ms 11 [(0, .ref a0), (1, .int i1), (2, .int i2), (3, .int i3)] [] S rc rs := by
  intro n
  induction n with
  | zero => intro i3 S h; cases h
  | succ n ih =>
    intro i3 S h
    rw [zf_X14_tell_L11] at h
    refine zw_iload_n hX dX14_tell_11 rfl ?_
    refine zw_bipush (v := (60 : Int32)) hX dX14_tell_12 (by decide) ?_
    refine zw_icmp_ge (tgt := 65) hX dX14_tell_14 (by decide) (fun c14 => ?_) (fun c14 => ?_)
    · rw [if_pos c14] at h
      refine zw_sub (lv' := [(0, .ref a0), (1, .int i1), (2, .int i2)]) (List.forall_mem_cons.mpr ⟨rfl, (List.forall_mem_cons.mpr ⟨rfl, (List.forall_mem_cons.mpr ⟨rfl, zs_nil⟩)⟩)⟩) ?_
      exact hk  _ (Option.some.inj h).symm
    · rw [if_neg c14] at h
      refine zw_aload_n hX dX14_tell_17 rfl ?_
      obtain ⟨b14, g, h⟩ := zb_some h
      refine zw_getr hX zl_X14_77 dX14_tell_18 g ?_
      refine zw_iload_n hX dX14_tell_21 rfl ?_
      refine zw_iconst (v := (1 : Int32)) hX dX14_tell_22 (by decide) ?_
      refine zw_isub hX dX14_tell_23 ?_
      refine zw_aload_n hX dX14_tell_24 rfl ?_
      obtain ⟨b15, g, h⟩ := zb_some h
      refine zw_getr hX zl_X14_77 dX14_tell_25 g ?_
      refine zw_iload_n hX dX14_tell_28 rfl ?_
      obtain ⟨v16, g, h⟩ := zb_some h
      refine zw_xi hX dX14_tell_29 g ?_
      obtain ⟨S17, g, h⟩ := zb_some h
      refine zw_si hX dX14_tell_30 g ?_
      refine zw_aload_n hX dX14_tell_31 rfl ?_
      obtain ⟨b18, g, h⟩ := zb_some h
      refine zw_getr hX zl_X14_80 dX14_tell_32 g ?_
      refine zw_iload_n hX dX14_tell_35 rfl ?_
      refine zw_iconst (v := (1 : Int32)) hX dX14_tell_36 (by decide) ?_
      refine zw_isub hX dX14_tell_37 ?_
      refine zw_aload_n hX dX14_tell_38 rfl ?_
      obtain ⟨b19, g, h⟩ := zb_some h
      refine zw_getr hX zl_X14_80 dX14_tell_39 g ?_
      refine zw_iload_n hX dX14_tell_42 rfl ?_
      obtain ⟨v20, g, h⟩ := zb_some h
      refine zw_xi hX dX14_tell_43 g ?_
      obtain ⟨S21, g, h⟩ := zb_some h
      refine zw_si hX dX14_tell_44 g ?_
      refine zw_aload_n hX dX14_tell_45 rfl ?_
      obtain ⟨b22, g, h⟩ := zb_some h
      refine zw_getr hX zl_X14_83 dX14_tell_46 g ?_
      refine zw_iload_n hX dX14_tell_49 rfl ?_
      refine zw_iconst (v := (1 : Int32)) hX dX14_tell_50 (by decide) ?_
      refine zw_isub hX dX14_tell_51 ?_
      refine zw_aload_n hX dX14_tell_52 rfl ?_
      obtain ⟨b23, g, h⟩ := zb_some h
      refine zw_getr hX zl_X14_83 dX14_tell_53 g ?_
      refine zw_iload_n hX dX14_tell_56 rfl ?_
      obtain ⟨v24, g, h⟩ := zb_some h
      refine zw_xi hX dX14_tell_57 g ?_
      obtain ⟨S25, g, h⟩ := zb_some h
      refine zw_si hX dX14_tell_58 g ?_
      refine zw_iinc (v := (i3 + (1 : Int32))) hX dX14_tell_59 rfl rfl (by decide) ?_
      refine zw_goto (tgt := 11) hX dX14_tell_62 (by decide) ?_
      refine zw_sub (lv' := [(0, .ref a0), (1, .int i1), (2, .int i2), (3, .int (i3 + (1 : Int32)))]) (List.forall_mem_cons.mpr ⟨rfl, (List.forall_mem_cons.mpr ⟨rfl, (List.forall_mem_cons.mpr ⟨rfl, (List.forall_mem_cons.mpr ⟨rfl, zs_nil⟩)⟩)⟩)⟩) ?_
      exact ih _ _ h
set_option maxHeartbeats 4000000 in
set_option maxRecDepth 100000 in
theorem zt_X14_tell {l : Launch} {V : zm_V} {N : Nat} {S : zm_S} {out : (Unit × zm_S)} {d : Nat} {a0 : Nat} {i1 : Int32} {i2 : Int32} (hd : 1 ≤ d) (h : zf_X14_tell N a0 i1 i2 S = some out) : zm_Met l zk_E V yX14_tell (.code yX14_tell cX14_tell 4 none) d [.ref a0, .int i1, .int i2] S 0 0 (zo_v out) zo_x := by
  refine zm_of (by decide +kernel) (Nat.le_of_ble_eq_true rfl) ?_
  intro p e R s m args below meth c hRR hX hr hxt
  have hR : R.frames = d ∧ R.locals = 64 * d := by rw [hRR]; exact ⟨rfl, rfl⟩
  have hX : zm_X p R s m args meth c RX14 "tell" cX14_tell 4 zk_E V 0 0 := hX
  unfold zf_X14_tell at h
  refine zw_sub (lv' := [(0, .ref a0), (1, .int i1), (2, .int i2)]) (List.forall_mem_cons.mpr ⟨rfl, (List.forall_mem_cons.mpr ⟨rfl, (List.forall_mem_cons.mpr ⟨rfl, zs_nil⟩)⟩)⟩) ?_
  refine zw_aload_n hX dX14_tell_0 rfl ?_
  obtain ⟨v1, g, h⟩ := zb_some h
  refine zw_geti hX zl_X14_221 dX14_tell_1 g ?_
  refine zw_bipush (v := (60 : Int32)) hX dX14_tell_4 (by decide) ?_
  refine zw_icmp_ne (tgt := 75) hX dX14_tell_6 (by decide) (fun c6 => ?_) (fun c6 => ?_)
  · rw [if_neg c6] at h
    refine zw_sub (lv' := [(0, .ref a0), (1, .int i1), (2, .int i2)]) (List.forall_mem_cons.mpr ⟨rfl, (List.forall_mem_cons.mpr ⟨rfl, (List.forall_mem_cons.mpr ⟨rfl, zs_nil⟩)⟩)⟩) ?_
    exact zt_X14_tell_J75 hX hr hR hd h
  · rw [if_pos c6] at h
    refine zw_iconst (v := (1 : Int32)) hX dX14_tell_9 (by decide) ?_
    refine zw_istore_n hX dX14_tell_10 (by decide) ?_
    obtain ⟨r, g, h⟩ := zb_some h
    refine zw_sub (lv' := [(0, .ref a0), (1, .int i1), (2, .int i2), (3, .int (1 : Int32))]) (List.forall_mem_cons.mpr ⟨rfl, (List.forall_mem_cons.mpr ⟨rfl, (List.forall_mem_cons.mpr ⟨rfl, (List.forall_mem_cons.mpr ⟨rfl, zs_nil⟩)⟩)⟩)⟩) ?_
    refine zt_X14_tell_L11 hX hr hR hd (res := r) (out := out) a0 i1 i2 ?_ ?_ N _ _ g
    · intro o ho
      subst ho
      exact Option.some.inj h
    · intro  S26 hx
      subst hx
      try dsimp only at h
      refine zw_aload_n hX dX14_tell_65 rfl ?_
      refine zw_dup hX dX14_tell_66 rfl ?_
      obtain ⟨v27, g, h⟩ := zb_some h
      refine zw_geti hX zl_X14_221 dX14_tell_67 g ?_
      refine zw_iconst (v := (1 : Int32)) hX dX14_tell_70 (by decide) ?_
      refine zw_isub hX dX14_tell_71 ?_
      obtain ⟨S28, g, h⟩ := zb_some h
      refine zw_putv hX zl_X14_221 zt_14_30 dX14_tell_72 rfl rfl g ?_
      refine zw_sub (lv' := [(0, .ref a0), (1, .int i1), (2, .int i2)]) (List.forall_mem_cons.mpr ⟨rfl, (List.forall_mem_cons.mpr ⟨rfl, (List.forall_mem_cons.mpr ⟨rfl, zs_nil⟩)⟩)⟩) ?_
      exact zt_X14_tell_J75 hX hr hR hd h
set_option maxHeartbeats 4000000 in
set_option maxRecDepth 100000 in
theorem zt_X14_rankedOne_J86 {p : Program} {l : Launch} {e : Env} {R : Room} {s : State} {m : MethodId} {args : Array Value} {below : List Frame} {meth : Method} {c : Code} {V : zm_V} {mc ms d rc rs : Nat} (hX : zm_X p R s m args meth c RX14 "rankedOne" cX14_rankedOne 6 zk_E V mc ms) (hr : meth.sig.returnType = (some .int)) (hR : R.frames = d ∧ R.locals = 64 * d) (hd : 1 ≤ d) {N : Nat} {k : Nat → Int32 → Int32 → Int32 → Int32 → zm_S → Option ((Int32 × zm_S) ⊕ ((Int32) × zm_S))} {a0 : Nat} {i1 : Int32} {i2 : Int32} {i4 : Int32} {t0 : Int32} {t1 : Int32} {res : (Int32 × zm_S) ⊕ ((Int32) × zm_S)} {out : (Int32 × zm_S)}   (hf : ∀ o, res = .inl o → o = out) (hk : ∀ (x3 : Int32) (S' : zm_S), res = .inr (x3, S') → zw p l e R s m args below meth c (vx_MQ below (zm_Qc zk_E V (zo_i out)) (zm_XC zk_E V zo_x) args s mc ms (fun q => V.2.2.2.1 ≤ q)) 6 zk_E V mc ms 94 [(0, .ref a0), (1, .int i1), (2, .int i2), (3, .int x3)] [] S' rc rs) (hrec : ∀ (i3' : Int32) (i4' : Int32) (S : zm_S), k a0 i1 i2 i3' i4' S = some res → zw p l e R s m args below meth c (vx_MQ below (zm_Qc zk_E V (zo_i out)) (zm_XC zk_E V zo_x) args s mc ms (fun q => V.2.2.2.1 ≤ q)) 6 zk_E V mc ms 13 [(0, .ref a0), (1, .int i1), (2, .int i2), (3, .int i3'), (4, .int i4')] [] S rc rs) {S : zm_S} (h : zf_X14_rankedOne_J86 N k a0 i1 i2 i4 t0 t1 S = some res) : zw p l e R s m args below meth c (vx_MQ below (zm_Qc zk_E V (zo_i out)) (zm_XC zk_E V zo_x) args s mc ms (fun q => V.2.2.2.1 ≤ q)) 6 zk_E V mc ms 86 [(0, .ref a0), (1, .int i1), (2, .int i2), (4, .int i4)] [.int t1, .int t0] S rc rs := by
  unfold zf_X14_rankedOne_J86 at h
  refine zw_iadd hX dX14_rankedOne_86 ?_
  refine zw_istore_n hX dX14_rankedOne_87 (by decide) ?_
  refine zw_iinc (v := (i4 + (1 : Int32))) hX dX14_rankedOne_88 rfl rfl (by decide) ?_
  refine zw_goto (tgt := 13) hX dX14_rankedOne_91 (by decide) ?_
  refine zw_sub (lv' := [(0, .ref a0), (1, .int i1), (2, .int i2), (3, .int (t0 + t1)), (4, .int (i4 + (1 : Int32)))]) (List.forall_mem_cons.mpr ⟨rfl, (List.forall_mem_cons.mpr ⟨rfl, (List.forall_mem_cons.mpr ⟨rfl, (List.forall_mem_cons.mpr ⟨rfl, (List.forall_mem_cons.mpr ⟨rfl, zs_nil⟩)⟩)⟩)⟩)⟩) ?_
  exact hrec _ _ _ h
set_option maxHeartbeats 4000000 in
set_option maxRecDepth 100000 in
theorem zt_X14_rankedOne_J85 {p : Program} {l : Launch} {e : Env} {R : Room} {s : State} {m : MethodId} {args : Array Value} {below : List Frame} {meth : Method} {c : Code} {V : zm_V} {mc ms d rc rs : Nat} (hX : zm_X p R s m args meth c RX14 "rankedOne" cX14_rankedOne 6 zk_E V mc ms) (hr : meth.sig.returnType = (some .int)) (hR : R.frames = d ∧ R.locals = 64 * d) (hd : 1 ≤ d) {N : Nat} {k : Nat → Int32 → Int32 → Int32 → Int32 → zm_S → Option ((Int32 × zm_S) ⊕ ((Int32) × zm_S))} {a0 : Nat} {i1 : Int32} {i2 : Int32} {i4 : Int32} {t0 : Int32} {res : (Int32 × zm_S) ⊕ ((Int32) × zm_S)} {out : (Int32 × zm_S)}   (hf : ∀ o, res = .inl o → o = out) (hk : ∀ (x3 : Int32) (S' : zm_S), res = .inr (x3, S') → zw p l e R s m args below meth c (vx_MQ below (zm_Qc zk_E V (zo_i out)) (zm_XC zk_E V zo_x) args s mc ms (fun q => V.2.2.2.1 ≤ q)) 6 zk_E V mc ms 94 [(0, .ref a0), (1, .int i1), (2, .int i2), (3, .int x3)] [] S' rc rs) (hrec : ∀ (i3' : Int32) (i4' : Int32) (S : zm_S), k a0 i1 i2 i3' i4' S = some res → zw p l e R s m args below meth c (vx_MQ below (zm_Qc zk_E V (zo_i out)) (zm_XC zk_E V zo_x) args s mc ms (fun q => V.2.2.2.1 ≤ q)) 6 zk_E V mc ms 13 [(0, .ref a0), (1, .int i1), (2, .int i2), (3, .int i3'), (4, .int i4')] [] S rc rs) {S : zm_S} (h : zf_X14_rankedOne_J85 N k a0 i1 i2 i4 t0 S = some res) : zw p l e R s m args below meth c (vx_MQ below (zm_Qc zk_E V (zo_i out)) (zm_XC zk_E V zo_x) args s mc ms (fun q => V.2.2.2.1 ≤ q)) 6 zk_E V mc ms 85 [(0, .ref a0), (1, .int i1), (2, .int i2), (4, .int i4)] [.int t0] S rc rs := by
  unfold zf_X14_rankedOne_J85 at h
  refine zw_iconst (v := (0 : Int32)) hX dX14_rankedOne_85 (by decide) ?_
  refine zw_sub (lv' := [(0, .ref a0), (1, .int i1), (2, .int i2), (4, .int i4)]) (List.forall_mem_cons.mpr ⟨rfl, (List.forall_mem_cons.mpr ⟨rfl, (List.forall_mem_cons.mpr ⟨rfl, (List.forall_mem_cons.mpr ⟨rfl, zs_nil⟩)⟩)⟩)⟩) ?_
  exact zt_X14_rankedOne_J86 hX hr hR hd hf hk hrec h
set_option maxHeartbeats 4000000 in
set_option maxRecDepth 100000 in
theorem zt_X14_rankedOne_J63 {p : Program} {l : Launch} {e : Env} {R : Room} {s : State} {m : MethodId} {args : Array Value} {below : List Frame} {meth : Method} {c : Code} {V : zm_V} {mc ms d rc rs : Nat} (hX : zm_X p R s m args meth c RX14 "rankedOne" cX14_rankedOne 6 zk_E V mc ms) (hr : meth.sig.returnType = (some .int)) (hR : R.frames = d ∧ R.locals = 64 * d) (hd : 1 ≤ d) {N : Nat} {k : Nat → Int32 → Int32 → Int32 → Int32 → zm_S → Option ((Int32 × zm_S) ⊕ ((Int32) × zm_S))} {a0 : Nat} {i1 : Int32} {i2 : Int32} {i3 : Int32} {i4 : Int32} {t0 : Int32} {res : (Int32 × zm_S) ⊕ ((Int32) × zm_S)} {out : (Int32 × zm_S)}   (hf : ∀ o, res = .inl o → o = out) (hk : ∀ (x3 : Int32) (S' : zm_S), res = .inr (x3, S') → zw p l e R s m args below meth c (vx_MQ below (zm_Qc zk_E V (zo_i out)) (zm_XC zk_E V zo_x) args s mc ms (fun q => V.2.2.2.1 ≤ q)) 6 zk_E V mc ms 94 [(0, .ref a0), (1, .int i1), (2, .int i2), (3, .int x3)] [] S' rc rs) (hrec : ∀ (i3' : Int32) (i4' : Int32) (S : zm_S), k a0 i1 i2 i3' i4' S = some res → zw p l e R s m args below meth c (vx_MQ below (zm_Qc zk_E V (zo_i out)) (zm_XC zk_E V zo_x) args s mc ms (fun q => V.2.2.2.1 ≤ q)) 6 zk_E V mc ms 13 [(0, .ref a0), (1, .int i1), (2, .int i2), (3, .int i3'), (4, .int i4')] [] S rc rs) {S : zm_S} (h : zf_X14_rankedOne_J63 N k a0 i1 i2 i3 i4 t0 S = some res) : zw p l e R s m args below meth c (vx_MQ below (zm_Qc zk_E V (zo_i out)) (zm_XC zk_E V zo_x) args s mc ms (fun q => V.2.2.2.1 ≤ q)) 6 zk_E V mc ms 63 [(0, .ref a0), (1, .int i1), (2, .int i2), (3, .int i3), (4, .int i4)] [.int t0] S rc rs := by
  unfold zf_X14_rankedOne_J63 at h
  refine zw_istore hX dX14_rankedOne_63 (by decide) ?_
  refine zw_iload_n hX dX14_rankedOne_65 rfl ?_
  refine zw_aload_n hX dX14_rankedOne_66 rfl ?_
  obtain ⟨b5, g, h⟩ := zb_some h
  refine zw_getr hX zl_X14_41 dX14_rankedOne_67 g ?_
  refine zw_iload hX dX14_rankedOne_70 rfl ?_
  obtain ⟨v6, g, h⟩ := zb_some h
  refine zw_xz hX dX14_rankedOne_72 g ?_
  refine zw_if_eq (tgt := 85) hX dX14_rankedOne_73 (by decide) (fun c73 => ?_) (fun c73 => ?_)
  · rw [if_pos c73] at h
    refine zw_sub (lv' := [(0, .ref a0), (1, .int i1), (2, .int i2), (4, .int i4)]) (List.forall_mem_cons.mpr ⟨rfl, (List.forall_mem_cons.mpr ⟨rfl, (List.forall_mem_cons.mpr ⟨rfl, (List.forall_mem_cons.mpr ⟨rfl, zs_nil⟩)⟩)⟩)⟩) ?_
    exact zt_X14_rankedOne_J85 hX hr hR hd hf hk hrec h
  · rw [if_neg c73] at h
    refine zw_iload hX dX14_rankedOne_76 rfl ?_
    refine zw_if_eq (tgt := 85) hX dX14_rankedOne_78 (by decide) (fun c78 => ?_) (fun c78 => ?_)
    · rw [if_pos c78] at h
      refine zw_sub (lv' := [(0, .ref a0), (1, .int i1), (2, .int i2), (4, .int i4)]) (List.forall_mem_cons.mpr ⟨rfl, (List.forall_mem_cons.mpr ⟨rfl, (List.forall_mem_cons.mpr ⟨rfl, (List.forall_mem_cons.mpr ⟨rfl, zs_nil⟩)⟩)⟩)⟩) ?_
      exact zt_X14_rankedOne_J85 hX hr hR hd hf hk hrec h
    · rw [if_neg c78] at h
      refine zw_iconst (v := (1 : Int32)) hX dX14_rankedOne_81 (by decide) ?_
      refine zw_goto (tgt := 86) hX dX14_rankedOne_82 (by decide) ?_
      refine zw_sub (lv' := [(0, .ref a0), (1, .int i1), (2, .int i2), (4, .int i4)]) (List.forall_mem_cons.mpr ⟨rfl, (List.forall_mem_cons.mpr ⟨rfl, (List.forall_mem_cons.mpr ⟨rfl, (List.forall_mem_cons.mpr ⟨rfl, zs_nil⟩)⟩)⟩)⟩) ?_
      exact zt_X14_rankedOne_J86 hX hr hR hd hf hk hrec h
set_option maxHeartbeats 4000000 in
set_option maxRecDepth 100000 in
theorem zt_X14_rankedOne_J58 {p : Program} {l : Launch} {e : Env} {R : Room} {s : State} {m : MethodId} {args : Array Value} {below : List Frame} {meth : Method} {c : Code} {V : zm_V} {mc ms d rc rs : Nat} (hX : zm_X p R s m args meth c RX14 "rankedOne" cX14_rankedOne 6 zk_E V mc ms) (hr : meth.sig.returnType = (some .int)) (hR : R.frames = d ∧ R.locals = 64 * d) (hd : 1 ≤ d) {N : Nat} {k : Nat → Int32 → Int32 → Int32 → Int32 → zm_S → Option ((Int32 × zm_S) ⊕ ((Int32) × zm_S))} {a0 : Nat} {i1 : Int32} {i2 : Int32} {i3 : Int32} {i4 : Int32} {res : (Int32 × zm_S) ⊕ ((Int32) × zm_S)} {out : (Int32 × zm_S)}   (hf : ∀ o, res = .inl o → o = out) (hk : ∀ (x3 : Int32) (S' : zm_S), res = .inr (x3, S') → zw p l e R s m args below meth c (vx_MQ below (zm_Qc zk_E V (zo_i out)) (zm_XC zk_E V zo_x) args s mc ms (fun q => V.2.2.2.1 ≤ q)) 6 zk_E V mc ms 94 [(0, .ref a0), (1, .int i1), (2, .int i2), (3, .int x3)] [] S' rc rs) (hrec : ∀ (i3' : Int32) (i4' : Int32) (S : zm_S), k a0 i1 i2 i3' i4' S = some res → zw p l e R s m args below meth c (vx_MQ below (zm_Qc zk_E V (zo_i out)) (zm_XC zk_E V zo_x) args s mc ms (fun q => V.2.2.2.1 ≤ q)) 6 zk_E V mc ms 13 [(0, .ref a0), (1, .int i1), (2, .int i2), (3, .int i3'), (4, .int i4')] [] S rc rs) {S : zm_S} (h : zf_X14_rankedOne_J58 N k a0 i1 i2 i3 i4 S = some res) : zw p l e R s m args below meth c (vx_MQ below (zm_Qc zk_E V (zo_i out)) (zm_XC zk_E V zo_x) args s mc ms (fun q => V.2.2.2.1 ≤ q)) 6 zk_E V mc ms 58 [(0, .ref a0), (1, .int i1), (2, .int i2), (3, .int i3), (4, .int i4)] [] S rc rs := by
  unfold zf_X14_rankedOne_J58 at h
  refine zw_iconst (v := (1 : Int32)) hX dX14_rankedOne_58 (by decide) ?_
  refine zw_goto (tgt := 63) hX dX14_rankedOne_59 (by decide) ?_
  refine zw_sub (lv' := [(0, .ref a0), (1, .int i1), (2, .int i2), (3, .int i3), (4, .int i4)]) (List.forall_mem_cons.mpr ⟨rfl, (List.forall_mem_cons.mpr ⟨rfl, (List.forall_mem_cons.mpr ⟨rfl, (List.forall_mem_cons.mpr ⟨rfl, (List.forall_mem_cons.mpr ⟨rfl, zs_nil⟩)⟩)⟩)⟩)⟩) ?_
  exact zt_X14_rankedOne_J63 hX hr hR hd hf hk hrec h
set_option maxHeartbeats 4000000 in
set_option maxRecDepth 100000 in
theorem zt_X14_rankedOne_J62 {p : Program} {l : Launch} {e : Env} {R : Room} {s : State} {m : MethodId} {args : Array Value} {below : List Frame} {meth : Method} {c : Code} {V : zm_V} {mc ms d rc rs : Nat} (hX : zm_X p R s m args meth c RX14 "rankedOne" cX14_rankedOne 6 zk_E V mc ms) (hr : meth.sig.returnType = (some .int)) (hR : R.frames = d ∧ R.locals = 64 * d) (hd : 1 ≤ d) {N : Nat} {k : Nat → Int32 → Int32 → Int32 → Int32 → zm_S → Option ((Int32 × zm_S) ⊕ ((Int32) × zm_S))} {a0 : Nat} {i1 : Int32} {i2 : Int32} {i3 : Int32} {i4 : Int32} {res : (Int32 × zm_S) ⊕ ((Int32) × zm_S)} {out : (Int32 × zm_S)}   (hf : ∀ o, res = .inl o → o = out) (hk : ∀ (x3 : Int32) (S' : zm_S), res = .inr (x3, S') → zw p l e R s m args below meth c (vx_MQ below (zm_Qc zk_E V (zo_i out)) (zm_XC zk_E V zo_x) args s mc ms (fun q => V.2.2.2.1 ≤ q)) 6 zk_E V mc ms 94 [(0, .ref a0), (1, .int i1), (2, .int i2), (3, .int x3)] [] S' rc rs) (hrec : ∀ (i3' : Int32) (i4' : Int32) (S : zm_S), k a0 i1 i2 i3' i4' S = some res → zw p l e R s m args below meth c (vx_MQ below (zm_Qc zk_E V (zo_i out)) (zm_XC zk_E V zo_x) args s mc ms (fun q => V.2.2.2.1 ≤ q)) 6 zk_E V mc ms 13 [(0, .ref a0), (1, .int i1), (2, .int i2), (3, .int i3'), (4, .int i4')] [] S rc rs) {S : zm_S} (h : zf_X14_rankedOne_J62 N k a0 i1 i2 i3 i4 S = some res) : zw p l e R s m args below meth c (vx_MQ below (zm_Qc zk_E V (zo_i out)) (zm_XC zk_E V zo_x) args s mc ms (fun q => V.2.2.2.1 ≤ q)) 6 zk_E V mc ms 62 [(0, .ref a0), (1, .int i1), (2, .int i2), (3, .int i3), (4, .int i4)] [] S rc rs := by
  unfold zf_X14_rankedOne_J62 at h
  refine zw_iconst (v := (0 : Int32)) hX dX14_rankedOne_62 (by decide) ?_
  refine zw_sub (lv' := [(0, .ref a0), (1, .int i1), (2, .int i2), (3, .int i3), (4, .int i4)]) (List.forall_mem_cons.mpr ⟨rfl, (List.forall_mem_cons.mpr ⟨rfl, (List.forall_mem_cons.mpr ⟨rfl, (List.forall_mem_cons.mpr ⟨rfl, (List.forall_mem_cons.mpr ⟨rfl, zs_nil⟩)⟩)⟩)⟩)⟩) ?_
  exact zt_X14_rankedOne_J63 hX hr hR hd hf hk hrec h
set_option maxHeartbeats 4000000 in
set_option maxRecDepth 100000 in
theorem zt_X14_rankedOne_L13 {p : Program} {l : Launch} {e : Env} {R : Room} {s : State} {m : MethodId} {args : Array Value} {below : List Frame} {meth : Method} {c : Code} {V : zm_V} {mc ms d rc rs : Nat} (hX : zm_X p R s m args meth c RX14 "rankedOne" cX14_rankedOne 6 zk_E V mc ms) (hr : meth.sig.returnType = (some .int)) (hR : R.frames = d ∧ R.locals = 64 * d) (hd : 1 ≤ d) {N : Nat} {res : (Int32 × zm_S) ⊕ ((Int32) × zm_S)} {out : (Int32 × zm_S)} (a0 : Nat) (i1 : Int32) (i2 : Int32) (hf : ∀ o, res = .inl o → o = out) (hk : ∀ (x3 : Int32) (S' : zm_S), res = .inr (x3, S') → zw p l e R s m args below meth c (vx_MQ below (zm_Qc zk_E V (zo_i out)) (zm_XC zk_E V zo_x) args s mc ms (fun q => V.2.2.2.1 ≤ q)) 6 zk_E V mc ms 94 [(0, .ref a0), (1, .int i1), (2, .int i2), (3, .int x3)] [] S' rc rs) : ∀ (n : Nat) (i3 : Int32) (i4 : Int32) (S : zm_S), zf_X14_rankedOne_L13 N n a0 i1 i2 i3 i4 S = some res → zw p l e R s m args below meth c (vx_MQ below (zm_Qc zk_E V (zo_i out)) (zm_XC zk_E V zo_x) args s mc ms (fun q => V.2.2.2.1 ≤ q)) 6 zk_E V mc ms 13 [(0, .ref a0), (1, .int i1), (2, .int i2), (3, .int i3), (4, .int i4)] [] S rc rs := by
  intro n
  induction n with
  | zero => intro i3 i4 S h; cases h
  | succ n ih =>
    intro i3 i4 S h
    rw [zf_X14_rankedOne_L13] at h
    refine zw_iload hX dX14_rankedOne_13 rfl ?_
    refine zw_bipush (v := (20 : Int32)) hX dX14_rankedOne_15 (by decide) ?_
    refine zw_icmp_ge (tgt := 94) hX dX14_rankedOne_17 (by decide) (fun c17 => ?_) (fun c17 => ?_)
    · rw [if_pos c17] at h
      refine zw_sub (lv' := [(0, .ref a0), (1, .int i1), (2, .int i2), (3, .int i3)]) (List.forall_mem_cons.mpr ⟨rfl, (List.forall_mem_cons.mpr ⟨rfl, (List.forall_mem_cons.mpr ⟨rfl, (List.forall_mem_cons.mpr ⟨rfl, zs_nil⟩)⟩)⟩)⟩) ?_
      exact hk _ _ (Option.some.inj h).symm
    · rw [if_neg c17] at h
      refine zw_aload_n hX dX14_rankedOne_20 rfl ?_
      obtain ⟨b1, g, h⟩ := zb_some h
      refine zw_getr hX zl_X14_47 dX14_rankedOne_21 g ?_
      refine zw_iload hX dX14_rankedOne_24 rfl ?_
      obtain ⟨v2, g, h⟩ := zb_some h
      refine zw_xi hX dX14_rankedOne_26 g ?_
      refine zw_aload_n hX dX14_rankedOne_27 rfl ?_
      obtain ⟨b3, g, h⟩ := zb_some h
      refine zw_getr hX zl_X14_47 dX14_rankedOne_28 g ?_
      refine zw_iload_n hX dX14_rankedOne_31 rfl ?_
      obtain ⟨v4, g, h⟩ := zb_some h
      refine zw_xi hX dX14_rankedOne_32 g ?_
      refine zw_icmp_gt (tgt := 58) hX dX14_rankedOne_33 (by decide) (fun c33 => ?_) (fun c33 => ?_)
      · rw [if_pos c33] at h
        refine zw_sub (lv' := [(0, .ref a0), (1, .int i1), (2, .int i2), (3, .int i3), (4, .int i4)]) (List.forall_mem_cons.mpr ⟨rfl, (List.forall_mem_cons.mpr ⟨rfl, (List.forall_mem_cons.mpr ⟨rfl, (List.forall_mem_cons.mpr ⟨rfl, (List.forall_mem_cons.mpr ⟨rfl, zs_nil⟩)⟩)⟩)⟩)⟩) ?_
        exact zt_X14_rankedOne_J58 hX hr hR hd hf hk ih h
      · rw [if_neg c33] at h
        refine zw_aload_n hX dX14_rankedOne_36 rfl ?_
        obtain ⟨b7, g, h⟩ := zb_some h
        refine zw_getr hX zl_X14_47 dX14_rankedOne_37 g ?_
        refine zw_iload hX dX14_rankedOne_40 rfl ?_
        obtain ⟨v8, g, h⟩ := zb_some h
        refine zw_xi hX dX14_rankedOne_42 g ?_
        refine zw_aload_n hX dX14_rankedOne_43 rfl ?_
        obtain ⟨b9, g, h⟩ := zb_some h
        refine zw_getr hX zl_X14_47 dX14_rankedOne_44 g ?_
        refine zw_iload_n hX dX14_rankedOne_47 rfl ?_
        obtain ⟨v10, g, h⟩ := zb_some h
        refine zw_xi hX dX14_rankedOne_48 g ?_
        refine zw_icmp_ne (tgt := 62) hX dX14_rankedOne_49 (by decide) (fun c49 => ?_) (fun c49 => ?_)
        · rw [if_neg c49] at h
          refine zw_sub (lv' := [(0, .ref a0), (1, .int i1), (2, .int i2), (3, .int i3), (4, .int i4)]) (List.forall_mem_cons.mpr ⟨rfl, (List.forall_mem_cons.mpr ⟨rfl, (List.forall_mem_cons.mpr ⟨rfl, (List.forall_mem_cons.mpr ⟨rfl, (List.forall_mem_cons.mpr ⟨rfl, zs_nil⟩)⟩)⟩)⟩)⟩) ?_
          exact zt_X14_rankedOne_J62 hX hr hR hd hf hk ih h
        · rw [if_pos c49] at h
          refine zw_iload hX dX14_rankedOne_52 rfl ?_
          refine zw_iload_n hX dX14_rankedOne_54 rfl ?_
          refine zw_icmp_ge (tgt := 62) hX dX14_rankedOne_55 (by decide) (fun c55 => ?_) (fun c55 => ?_)
          · rw [if_pos c55] at h
            refine zw_sub (lv' := [(0, .ref a0), (1, .int i1), (2, .int i2), (3, .int i3), (4, .int i4)]) (List.forall_mem_cons.mpr ⟨rfl, (List.forall_mem_cons.mpr ⟨rfl, (List.forall_mem_cons.mpr ⟨rfl, (List.forall_mem_cons.mpr ⟨rfl, (List.forall_mem_cons.mpr ⟨rfl, zs_nil⟩)⟩)⟩)⟩)⟩) ?_
            exact zt_X14_rankedOne_J62 hX hr hR hd hf hk ih h
          · rw [if_neg c55] at h
            refine zw_sub (lv' := [(0, .ref a0), (1, .int i1), (2, .int i2), (3, .int i3), (4, .int i4)]) (List.forall_mem_cons.mpr ⟨rfl, (List.forall_mem_cons.mpr ⟨rfl, (List.forall_mem_cons.mpr ⟨rfl, (List.forall_mem_cons.mpr ⟨rfl, (List.forall_mem_cons.mpr ⟨rfl, zs_nil⟩)⟩)⟩)⟩)⟩) ?_
            exact zt_X14_rankedOne_J58 hX hr hR hd hf hk ih h
set_option maxHeartbeats 4000000 in
set_option maxRecDepth 100000 in
theorem zt_X14_rankedOne_L2 {p : Program} {l : Launch} {e : Env} {R : Room} {s : State} {m : MethodId} {args : Array Value} {below : List Frame} {meth : Method} {c : Code} {V : zm_V} {mc ms d rc rs : Nat} (hX : zm_X p R s m args meth c RX14 "rankedOne" cX14_rankedOne 6 zk_E V mc ms) (hr : meth.sig.returnType = (some .int)) (hR : R.frames = d ∧ R.locals = 64 * d) (hd : 1 ≤ d) {N : Nat} {res : (Int32 × zm_S) ⊕ ((Unit) × zm_S)} {out : (Int32 × zm_S)} (a0 : Nat) (i1 : Int32) (hf : ∀ o, res = .inl o → o = out) (hk : ∀ (S' : zm_S), res = .inr ((), S') → zw p l e R s m args below meth c (vx_MQ below (zm_Qc zk_E V (zo_i out)) (zm_XC zk_E V zo_x) args s mc ms (fun q => V.2.2.2.1 ≤ q)) 6 zk_E V mc ms 116 [] [] S' rc rs) : ∀ (n : Nat) (i2 : Int32) (S : zm_S), zf_X14_rankedOne_L2 N n a0 i1 i2 S = some res → zw p l e R s m args below meth c (vx_MQ below (zm_Qc zk_E V (zo_i out)) (zm_XC zk_E V zo_x) args s mc ms (fun q => V.2.2.2.1 ≤ q)) 6 zk_E V mc ms 2 [(0, .ref a0), (1, .int i1), (2, .int i2)] [] S rc rs := by
  intro n
  induction n with
  | zero => intro i2 S h; cases h
  | succ n ih =>
    intro i2 S h
    rw [zf_X14_rankedOne_L2] at h
    refine zw_iload_n hX dX14_rankedOne_2 rfl ?_
    refine zw_bipush (v := (20 : Int32)) hX dX14_rankedOne_3 (by decide) ?_
    refine zw_icmp_ge (tgt := 116) hX dX14_rankedOne_5 (by decide) (fun c5 => ?_) (fun c5 => ?_)
    · rw [if_pos c5] at h
      refine zw_sub (lv' := []) zs_nil ?_
      exact hk  _ (Option.some.inj h).symm
    · rw [if_neg c5] at h
      refine zw_iconst (v := (0 : Int32)) hX dX14_rankedOne_8 (by decide) ?_
      refine zw_istore_n hX dX14_rankedOne_9 (by decide) ?_
      refine zw_iconst (v := (0 : Int32)) hX dX14_rankedOne_10 (by decide) ?_
      refine zw_istore hX dX14_rankedOne_11 (by decide) ?_
      obtain ⟨r, g, h⟩ := zb_some h
      refine zw_sub (lv' := [(0, .ref a0), (1, .int i1), (2, .int i2), (3, .int (0 : Int32)), (4, .int (0 : Int32))]) (List.forall_mem_cons.mpr ⟨rfl, (List.forall_mem_cons.mpr ⟨rfl, (List.forall_mem_cons.mpr ⟨rfl, (List.forall_mem_cons.mpr ⟨rfl, (List.forall_mem_cons.mpr ⟨rfl, zs_nil⟩)⟩)⟩)⟩)⟩) ?_
      refine zt_X14_rankedOne_L13 hX hr hR hd (res := r) (out := out) a0 i1 i2 ?_ ?_ N _ _ _ g
      · intro o ho
        subst ho
        exact hf _ (Option.some.inj h).symm
      · intro v12 S11 hx
        subst hx
        try dsimp only at h
        refine zw_aload_n hX dX14_rankedOne_94 rfl ?_
        obtain ⟨b13, g, h⟩ := zb_some h
        refine zw_getr hX zl_X14_41 dX14_rankedOne_95 g ?_
        refine zw_iload_n hX dX14_rankedOne_98 rfl ?_
        obtain ⟨v14, g, h⟩ := zb_some h
        refine zw_xz hX dX14_rankedOne_99 g ?_
        refine zw_if_eq (tgt := 110) hX dX14_rankedOne_100 (by decide) (fun c100 => ?_) (fun c100 => ?_)
        · rw [if_pos c100] at h
          refine zw_iinc (v := (i2 + (1 : Int32))) hX dX14_rankedOne_110 rfl rfl (by decide) ?_
          refine zw_goto (tgt := 2) hX dX14_rankedOne_113 (by decide) ?_
          refine zw_sub (lv' := [(0, .ref a0), (1, .int i1), (2, .int (i2 + (1 : Int32)))]) (List.forall_mem_cons.mpr ⟨rfl, (List.forall_mem_cons.mpr ⟨rfl, (List.forall_mem_cons.mpr ⟨rfl, zs_nil⟩)⟩)⟩) ?_
          exact ih _ _ h
        · rw [if_neg c100] at h
          refine zw_iload_n hX dX14_rankedOne_103 rfl ?_
          refine zw_iload_n hX dX14_rankedOne_104 rfl ?_
          refine zw_icmp_ne (tgt := 110) hX dX14_rankedOne_105 (by decide) (fun c105 => ?_) (fun c105 => ?_)
          · rw [if_neg c105] at h
            refine zw_iinc (v := (i2 + (1 : Int32))) hX dX14_rankedOne_110 rfl rfl (by decide) ?_
            refine zw_goto (tgt := 2) hX dX14_rankedOne_113 (by decide) ?_
            refine zw_sub (lv' := [(0, .ref a0), (1, .int i1), (2, .int (i2 + (1 : Int32)))]) (List.forall_mem_cons.mpr ⟨rfl, (List.forall_mem_cons.mpr ⟨rfl, (List.forall_mem_cons.mpr ⟨rfl, zs_nil⟩)⟩)⟩) ?_
            exact ih _ _ h
          · rw [if_pos c105] at h
            refine zw_iload_n hX dX14_rankedOne_108 rfl ?_
            have hz := hf _ (Option.some.inj h).symm
            subst hz
            exact zw_iret hX hr dX14_rankedOne_109 rfl ⟨rfl, rfl⟩
set_option maxHeartbeats 4000000 in
set_option maxRecDepth 100000 in
theorem zt_X14_rankedOne {l : Launch} {V : zm_V} {N : Nat} {S : zm_S} {out : (Int32 × zm_S)} {d : Nat} {a0 : Nat} {i1 : Int32} (hd : 1 ≤ d) (h : zf_X14_rankedOne N a0 i1 S = some out) : zm_Met l zk_E V yX14_rankedOne (.code yX14_rankedOne cX14_rankedOne 6 (some .int)) d [.ref a0, .int i1] S 0 0 (zo_i out) zo_x := by
  refine zm_of (by decide +kernel) (Nat.le_of_ble_eq_true rfl) ?_
  intro p e R s m args below meth c hRR hX hr hxt
  have hR : R.frames = d ∧ R.locals = 64 * d := by rw [hRR]; exact ⟨rfl, rfl⟩
  have hX : zm_X p R s m args meth c RX14 "rankedOne" cX14_rankedOne 6 zk_E V 0 0 := hX
  unfold zf_X14_rankedOne at h
  refine zw_sub (lv' := [(0, .ref a0), (1, .int i1)]) (List.forall_mem_cons.mpr ⟨rfl, (List.forall_mem_cons.mpr ⟨rfl, zs_nil⟩)⟩) ?_
  refine zw_iconst (v := (0 : Int32)) hX dX14_rankedOne_0 (by decide) ?_
  refine zw_istore_n hX dX14_rankedOne_1 (by decide) ?_
  obtain ⟨r, g, h⟩ := zb_some h
  refine zw_sub (lv' := [(0, .ref a0), (1, .int i1), (2, .int (0 : Int32))]) (List.forall_mem_cons.mpr ⟨rfl, (List.forall_mem_cons.mpr ⟨rfl, (List.forall_mem_cons.mpr ⟨rfl, zs_nil⟩)⟩)⟩) ?_
  refine zt_X14_rankedOne_L2 hX hr hR hd (res := r) (out := out) a0 i1 ?_ ?_ N _ _ g
  · intro o ho
    subst ho
    exact Option.some.inj h
  · intro  S15 hx
    subst hx
    try dsimp only at h
    refine zw_iconst (v := (-1 : Int32)) hX dX14_rankedOne_116 (by decide) ?_
    obtain rfl := Option.some.inj h
    exact zw_iret hX hr dX14_rankedOne_117 rfl ⟨rfl, rfl⟩
set_option maxHeartbeats 4000000 in
set_option maxRecDepth 100000 in
theorem zt_X14_go_J151 {p : Program} {l : Launch} {e : Env} {R : Room} {s : State} {m : MethodId} {args : Array Value} {below : List Frame} {meth : Method} {c : Code} {V : zm_V} {mc ms d rc rs : Nat} (hX : zm_X p R s m args meth c RX14 "go" cX14_go 3 zk_E V mc ms) (hr : meth.sig.returnType = (some .int)) (hR : R.frames = d ∧ R.locals = 64 * d) (hd : 6 ≤ d) {N : Nat} {a0 : Nat} {i1 : Int32} {out : (Int32 × zm_S)} {S : zm_S} (h : zf_X14_go_J151 N a0 i1 S = some out) : zw p l e R s m args below meth c (vx_MQ below (zm_Qc zk_E V (zo_i out)) (zm_XC zk_E V zo_x) args s mc ms (fun q => V.2.2.2.1 ≤ q)) 3 zk_E V mc ms 151 [(0, .ref a0), (1, .int i1)] [] S rc rs := by
  unfold zf_X14_go_J151 at h
  refine zw_aload_n hX dX14_go_151 rfl ?_
  refine zw_iload_n hX dX14_go_152 rfl ?_
  obtain ⟨_, gi, h⟩ := zb_some h
  obtain ⟨r13, g, h⟩ := zb_some h
  refine zc_Vv (as := [.int i1]) hX gi (zt_X14_rests (d := d - 1) (by omega) g) zl_X14_199 rfl dX14_go_153 ⟨rfl, rfl, Nat.le_of_ble_eq_true rfl⟩ ⟨by omega, by omega⟩ ?_
  refine zw_aload_n hX dX14_go_156 rfl ?_
  obtain ⟨b14, g, h⟩ := zb_some h
  refine zw_getr hX zl_X14_65 dX14_go_157 g ?_
  refine zw_iload_n hX dX14_go_160 rfl ?_
  refine zw_iconst (v := (2 : Int32)) hX dX14_go_161 (by decide) ?_
  obtain ⟨S15, g, h⟩ := zb_some h
  refine zw_si hX dX14_go_162 g ?_
  refine zw_aload_n hX dX14_go_163 rfl ?_
  refine zw_iload_n hX dX14_go_164 rfl ?_
  refine zw_iconst (v := (1 : Int32)) hX dX14_go_165 (by decide) ?_
  obtain ⟨_, gi, h⟩ := zb_some h
  obtain ⟨r17, g, h⟩ := zb_some h
  refine zc_Vv (as := [.int i1, .int (1 : Int32)]) hX gi (zt_X14_tell (d := d - 1) (by omega) g) zl_X14_228 rfl dX14_go_166 ⟨rfl, rfl, Nat.le_of_ble_eq_true rfl⟩ ⟨by omega, by omega⟩ ?_
  refine zw_iconst (v := (1 : Int32)) hX dX14_go_169 (by decide) ?_
  obtain rfl := Option.some.inj h
  exact zw_iret hX hr dX14_go_170 rfl ⟨rfl, rfl⟩
set_option maxHeartbeats 4000000 in
set_option maxRecDepth 100000 in
theorem zt_X14_go_J111 {p : Program} {l : Launch} {e : Env} {R : Room} {s : State} {m : MethodId} {args : Array Value} {below : List Frame} {meth : Method} {c : Code} {V : zm_V} {mc ms d rc rs : Nat} (hX : zm_X p R s m args meth c RX14 "go" cX14_go 3 zk_E V mc ms) (hr : meth.sig.returnType = (some .int)) (hR : R.frames = d ∧ R.locals = 64 * d) (hd : 6 ≤ d) {N : Nat} {a0 : Nat} {i1 : Int32} {out : (Int32 × zm_S)} {S : zm_S} (h : zf_X14_go_J111 N a0 i1 S = some out) : zw p l e R s m args below meth c (vx_MQ below (zm_Qc zk_E V (zo_i out)) (zm_XC zk_E V zo_x) args s mc ms (fun q => V.2.2.2.1 ≤ q)) 3 zk_E V mc ms 111 [(0, .ref a0), (1, .int i1)] [] S rc rs := by
  unfold zf_X14_go_J111 at h
  refine zw_aload_n hX dX14_go_111 rfl ?_
  obtain ⟨v7, g, h⟩ := zb_some h
  refine zw_geti hX zl_X14_202 dX14_go_112 g ?_
  refine zw_aload_n hX dX14_go_115 rfl ?_
  obtain ⟨b8, g, h⟩ := zb_some h
  refine zw_getr hX zl_X14_68 dX14_go_116 g ?_
  refine zw_iload_n hX dX14_go_119 rfl ?_
  obtain ⟨v9, g, h⟩ := zb_some h
  refine zw_xi hX dX14_go_120 g ?_
  refine zw_aload_n hX dX14_go_121 rfl ?_
  obtain ⟨b10, g, h⟩ := zb_some h
  refine zw_getr hX zl_X14_50 dX14_go_122 g ?_
  refine zw_iload_n hX dX14_go_125 rfl ?_
  obtain ⟨v11, g, h⟩ := zb_some h
  refine zw_xi hX dX14_go_126 g ?_
  refine zw_iadd hX dX14_go_127 ?_
  refine zw_icmp_ge (tgt := 151) hX dX14_go_128 (by decide) (fun c128 => ?_) (fun c128 => ?_)
  · rw [if_pos c128] at h
    refine zw_sub (lv' := [(0, .ref a0), (1, .int i1)]) (List.forall_mem_cons.mpr ⟨rfl, (List.forall_mem_cons.mpr ⟨rfl, zs_nil⟩)⟩) ?_
    exact zt_X14_go_J151 hX hr hR hd h
  · rw [if_neg c128] at h
    refine zw_aload_n hX dX14_go_131 rfl ?_
    obtain ⟨b18, g, h⟩ := zb_some h
    refine zw_getr hX zl_X14_74 dX14_go_132 g ?_
    refine zw_iload_n hX dX14_go_135 rfl ?_
    obtain ⟨v19, g, h⟩ := zb_some h
    refine zw_xz hX dX14_go_136 g ?_
    refine zw_if_ne (tgt := 151) hX dX14_go_137 (by decide) (fun c137 => ?_) (fun c137 => ?_)
    · rw [if_neg c137] at h
      refine zw_sub (lv' := [(0, .ref a0), (1, .int i1)]) (List.forall_mem_cons.mpr ⟨rfl, (List.forall_mem_cons.mpr ⟨rfl, zs_nil⟩)⟩) ?_
      exact zt_X14_go_J151 hX hr hR hd h
    · rw [if_pos c137] at h
      refine zw_aload_n hX dX14_go_140 rfl ?_
      refine zw_iload_n hX dX14_go_141 rfl ?_
      refine zw_iconst (v := (1 : Int32)) hX dX14_go_142 (by decide) ?_
      obtain ⟨_, gi, h⟩ := zb_some h
      obtain ⟨r21, g, h⟩ := zb_some h
      refine zc_Vi (as := [.int i1, .int (1 : Int32)]) hX gi (zt_X14_isCalled (d := d - 1) (by omega) g) zl_X14_224 rfl dX14_go_143 ⟨rfl, rfl, Nat.le_of_ble_eq_true rfl⟩ ⟨by omega, by omega⟩ ?_
      refine zw_if_ne (tgt := 151) hX dX14_go_146 (by decide) (fun c146 => ?_) (fun c146 => ?_)
      · rw [if_neg c146] at h
        refine zw_sub (lv' := [(0, .ref a0), (1, .int i1)]) (List.forall_mem_cons.mpr ⟨rfl, (List.forall_mem_cons.mpr ⟨rfl, zs_nil⟩)⟩) ?_
        exact zt_X14_go_J151 hX hr hR hd h
      · rw [if_pos c146] at h
        refine zw_iconst (v := (-1 : Int32)) hX dX14_go_149 (by decide) ?_
        obtain rfl := Option.some.inj h
        exact zw_iret hX hr dX14_go_150 rfl ⟨rfl, rfl⟩
set_option maxHeartbeats 4000000 in
set_option maxRecDepth 100000 in
theorem zt_X14_go_J63 {p : Program} {l : Launch} {e : Env} {R : Room} {s : State} {m : MethodId} {args : Array Value} {below : List Frame} {meth : Method} {c : Code} {V : zm_V} {mc ms d rc rs : Nat} (hX : zm_X p R s m args meth c RX14 "go" cX14_go 3 zk_E V mc ms) (hr : meth.sig.returnType = (some .int)) (hR : R.frames = d ∧ R.locals = 64 * d) (hd : 6 ≤ d) {N : Nat} {i2 : Int32} {out : (Int32 × zm_S)} {S : zm_S} (h : zf_X14_go_J63 N i2 S = some out) : zw p l e R s m args below meth c (vx_MQ below (zm_Qc zk_E V (zo_i out)) (zm_XC zk_E V zo_x) args s mc ms (fun q => V.2.2.2.1 ≤ q)) 3 zk_E V mc ms 63 [(2, .int i2)] [] S rc rs := by
  unfold zf_X14_go_J63 at h
  refine zw_iload_n hX dX14_go_63 rfl ?_
  refine zw_if_eq (tgt := 71) hX dX14_go_64 (by decide) (fun c64 => ?_) (fun c64 => ?_)
  · rw [if_pos c64] at h
    refine zw_iconst (v := (-1 : Int32)) hX dX14_go_71 (by decide) ?_
    obtain rfl := Option.some.inj h
    exact zw_iret hX hr dX14_go_72 rfl ⟨rfl, rfl⟩
  · rw [if_neg c64] at h
    refine zw_iconst (v := (0 : Int32)) hX dX14_go_67 (by decide) ?_
    refine zw_goto (tgt := 72) hX dX14_go_68 (by decide) ?_
    obtain rfl := Option.some.inj h
    exact zw_iret hX hr dX14_go_72 rfl ⟨rfl, rfl⟩
set_option maxHeartbeats 4000000 in
set_option maxRecDepth 100000 in
theorem zt_X14_go_J58 {p : Program} {l : Launch} {e : Env} {R : Room} {s : State} {m : MethodId} {args : Array Value} {below : List Frame} {meth : Method} {c : Code} {V : zm_V} {mc ms d rc rs : Nat} (hX : zm_X p R s m args meth c RX14 "go" cX14_go 3 zk_E V mc ms) (hr : meth.sig.returnType = (some .int)) (hR : R.frames = d ∧ R.locals = 64 * d) (hd : 6 ≤ d) {N : Nat} {a0 : Nat} {i1 : Int32} {i2 : Int32} {out : (Int32 × zm_S)} {S : zm_S} (h : zf_X14_go_J58 N a0 i1 i2 S = some out) : zw p l e R s m args below meth c (vx_MQ below (zm_Qc zk_E V (zo_i out)) (zm_XC zk_E V zo_x) args s mc ms (fun q => V.2.2.2.1 ≤ q)) 3 zk_E V mc ms 58 [(0, .ref a0), (1, .int i1), (2, .int i2)] [] S rc rs := by
  unfold zf_X14_go_J58 at h
  refine zw_aload_n hX dX14_go_58 rfl ?_
  refine zw_iload_n hX dX14_go_59 rfl ?_
  obtain ⟨_, gi, h⟩ := zb_some h
  obtain ⟨r30, g, h⟩ := zb_some h
  refine zc_Vv (as := [.int i1]) hX gi (zt_X14_rests (d := d - 1) (by omega) g) zl_X14_199 rfl dX14_go_60 ⟨rfl, rfl, Nat.le_of_ble_eq_true rfl⟩ ⟨by omega, by omega⟩ ?_
  refine zw_sub (lv' := [(2, .int i2)]) (List.forall_mem_cons.mpr ⟨rfl, zs_nil⟩) ?_
  exact zt_X14_go_J63 hX hr hR hd h
set_option maxHeartbeats 4000000 in
set_option maxRecDepth 100000 in
theorem zt_X14_go_J44 {p : Program} {l : Launch} {e : Env} {R : Room} {s : State} {m : MethodId} {args : Array Value} {below : List Frame} {meth : Method} {c : Code} {V : zm_V} {mc ms d rc rs : Nat} (hX : zm_X p R s m args meth c RX14 "go" cX14_go 3 zk_E V mc ms) (hr : meth.sig.returnType = (some .int)) (hR : R.frames = d ∧ R.locals = 64 * d) (hd : 6 ≤ d) {N : Nat} {a0 : Nat} {i1 : Int32} {i2 : Int32} {out : (Int32 × zm_S)} {S : zm_S} (h : zf_X14_go_J44 N a0 i1 i2 S = some out) : zw p l e R s m args below meth c (vx_MQ below (zm_Qc zk_E V (zo_i out)) (zm_XC zk_E V zo_x) args s mc ms (fun q => V.2.2.2.1 ≤ q)) 3 zk_E V mc ms 44 [(0, .ref a0), (1, .int i1), (2, .int i2)] [] S rc rs := by
  unfold zf_X14_go_J44 at h
  refine zw_iload_n hX dX14_go_44 rfl ?_
  refine zw_if_ne (tgt := 58) hX dX14_go_45 (by decide) (fun c45 => ?_) (fun c45 => ?_)
  · rw [if_neg c45] at h
    refine zw_sub (lv' := [(0, .ref a0), (1, .int i1), (2, .int i2)]) (List.forall_mem_cons.mpr ⟨rfl, (List.forall_mem_cons.mpr ⟨rfl, (List.forall_mem_cons.mpr ⟨rfl, zs_nil⟩)⟩)⟩) ?_
    exact zt_X14_go_J58 hX hr hR hd h
  · rw [if_pos c45] at h
    refine zw_aload_n hX dX14_go_48 rfl ?_
    obtain ⟨b31, g, h⟩ := zb_some h
    refine zw_getr hX zl_X14_65 dX14_go_49 g ?_
    refine zw_iload_n hX dX14_go_52 rfl ?_
    obtain ⟨v32, g, h⟩ := zb_some h
    refine zw_xi hX dX14_go_53 g ?_
    refine zw_iconst (v := (1 : Int32)) hX dX14_go_54 (by decide) ?_
    refine zw_icmp_ne (tgt := 63) hX dX14_go_55 (by decide) (fun c55 => ?_) (fun c55 => ?_)
    · rw [if_neg c55] at h
      refine zw_sub (lv' := [(2, .int i2)]) (List.forall_mem_cons.mpr ⟨rfl, zs_nil⟩) ?_
      exact zt_X14_go_J63 hX hr hR hd h
    · rw [if_pos c55] at h
      refine zw_sub (lv' := [(0, .ref a0), (1, .int i1), (2, .int i2)]) (List.forall_mem_cons.mpr ⟨rfl, (List.forall_mem_cons.mpr ⟨rfl, (List.forall_mem_cons.mpr ⟨rfl, zs_nil⟩)⟩)⟩) ?_
      exact zt_X14_go_J58 hX hr hR hd h
set_option maxHeartbeats 4000000 in
set_option maxRecDepth 100000 in
theorem zt_X14_go_J33 {p : Program} {l : Launch} {e : Env} {R : Room} {s : State} {m : MethodId} {args : Array Value} {below : List Frame} {meth : Method} {c : Code} {V : zm_V} {mc ms d rc rs : Nat} (hX : zm_X p R s m args meth c RX14 "go" cX14_go 3 zk_E V mc ms) (hr : meth.sig.returnType = (some .int)) (hR : R.frames = d ∧ R.locals = 64 * d) (hd : 6 ≤ d) {N : Nat} {a0 : Nat} {i1 : Int32} {t0 : Int32} {out : (Int32 × zm_S)} {S : zm_S} (h : zf_X14_go_J33 N a0 i1 t0 S = some out) : zw p l e R s m args below meth c (vx_MQ below (zm_Qc zk_E V (zo_i out)) (zm_XC zk_E V zo_x) args s mc ms (fun q => V.2.2.2.1 ≤ q)) 3 zk_E V mc ms 33 [(0, .ref a0), (1, .int i1)] [.int t0] S rc rs := by
  unfold zf_X14_go_J33 at h
  refine zw_istore_n hX dX14_go_33 (by decide) ?_
  refine zw_iload_n hX dX14_go_34 rfl ?_
  refine zw_if_eq (tgt := 44) hX dX14_go_35 (by decide) (fun c35 => ?_) (fun c35 => ?_)
  · rw [if_pos c35] at h
    refine zw_sub (lv' := [(0, .ref a0), (1, .int i1), (2, .int t0)]) (List.forall_mem_cons.mpr ⟨rfl, (List.forall_mem_cons.mpr ⟨rfl, (List.forall_mem_cons.mpr ⟨rfl, zs_nil⟩)⟩)⟩) ?_
    exact zt_X14_go_J44 hX hr hR hd h
  · rw [if_neg c35] at h
    refine zw_aload_n hX dX14_go_38 rfl ?_
    refine zw_iload_n hX dX14_go_39 rfl ?_
    refine zw_iconst (v := (0 : Int32)) hX dX14_go_40 (by decide) ?_
    obtain ⟨_, gi, h⟩ := zb_some h
    obtain ⟨r34, g, h⟩ := zb_some h
    refine zc_Vv (as := [.int i1, .int (0 : Int32)]) hX gi (zt_X14_tell (d := d - 1) (by omega) g) zl_X14_228 rfl dX14_go_41 ⟨rfl, rfl, Nat.le_of_ble_eq_true rfl⟩ ⟨by omega, by omega⟩ ?_
    refine zw_sub (lv' := [(0, .ref a0), (1, .int i1), (2, .int t0)]) (List.forall_mem_cons.mpr ⟨rfl, (List.forall_mem_cons.mpr ⟨rfl, (List.forall_mem_cons.mpr ⟨rfl, zs_nil⟩)⟩)⟩) ?_
    exact zt_X14_go_J44 hX hr hR hd h
set_option maxHeartbeats 4000000 in
set_option maxRecDepth 100000 in
theorem zt_X14_go_J32 {p : Program} {l : Launch} {e : Env} {R : Room} {s : State} {m : MethodId} {args : Array Value} {below : List Frame} {meth : Method} {c : Code} {V : zm_V} {mc ms d rc rs : Nat} (hX : zm_X p R s m args meth c RX14 "go" cX14_go 3 zk_E V mc ms) (hr : meth.sig.returnType = (some .int)) (hR : R.frames = d ∧ R.locals = 64 * d) (hd : 6 ≤ d) {N : Nat} {a0 : Nat} {i1 : Int32} {out : (Int32 × zm_S)} {S : zm_S} (h : zf_X14_go_J32 N a0 i1 S = some out) : zw p l e R s m args below meth c (vx_MQ below (zm_Qc zk_E V (zo_i out)) (zm_XC zk_E V zo_x) args s mc ms (fun q => V.2.2.2.1 ≤ q)) 3 zk_E V mc ms 32 [(0, .ref a0), (1, .int i1)] [] S rc rs := by
  unfold zf_X14_go_J32 at h
  refine zw_iconst (v := (0 : Int32)) hX dX14_go_32 (by decide) ?_
  refine zw_sub (lv' := [(0, .ref a0), (1, .int i1)]) (List.forall_mem_cons.mpr ⟨rfl, (List.forall_mem_cons.mpr ⟨rfl, zs_nil⟩)⟩) ?_
  exact zt_X14_go_J33 hX hr hR hd h
set_option maxHeartbeats 4000000 in
set_option maxRecDepth 100000 in
theorem zt_X14_go {l : Launch} {V : zm_V} {N : Nat} {S : zm_S} {out : (Int32 × zm_S)} {d : Nat} {a0 : Nat} {i1 : Int32} (hd : 6 ≤ d) (h : zf_X14_go N a0 i1 S = some out) : zm_Met l zk_E V yX14_go (.code yX14_go cX14_go 3 (some .int)) d [.ref a0, .int i1] S 0 0 (zo_i out) zo_x := by
  refine zm_of (by decide +kernel) (Nat.le_of_ble_eq_true rfl) ?_
  intro p e R s m args below meth c hRR hX hr hxt
  have hR : R.frames = d ∧ R.locals = 64 * d := by rw [hRR]; exact ⟨rfl, rfl⟩
  have hX : zm_X p R s m args meth c RX14 "go" cX14_go 3 zk_E V 0 0 := hX
  unfold zf_X14_go at h
  refine zw_sub (lv' := [(0, .ref a0), (1, .int i1)]) (List.forall_mem_cons.mpr ⟨rfl, (List.forall_mem_cons.mpr ⟨rfl, zs_nil⟩)⟩) ?_
  refine zw_aload_n hX dX14_go_0 rfl ?_
  refine zw_iload_n hX dX14_go_1 rfl ?_
  refine zw_iconst (v := (0 : Int32)) hX dX14_go_2 (by decide) ?_
  obtain ⟨_, gi, h⟩ := zb_some h
  obtain ⟨r2, g, h⟩ := zb_some h
  refine zc_Vi (as := [.int i1, .int (0 : Int32)]) hX gi (zt_X14_isCalled (d := d - 1) (by omega) g) zl_X14_224 rfl dX14_go_3 ⟨rfl, rfl, Nat.le_of_ble_eq_true rfl⟩ ⟨by omega, by omega⟩ ?_
  refine zw_if_ne (tgt := 73) hX dX14_go_6 (by decide) (fun c6 => ?_) (fun c6 => ?_)
  · rw [if_neg c6] at h
    refine zw_aload_n hX dX14_go_73 rfl ?_
    obtain ⟨b3, g, h⟩ := zb_some h
    refine zw_getr hX zl_X14_65 dX14_go_74 g ?_
    refine zw_iload_n hX dX14_go_77 rfl ?_
    obtain ⟨v4, g, h⟩ := zb_some h
    refine zw_xi hX dX14_go_78 g ?_
    refine zw_iconst (v := (2 : Int32)) hX dX14_go_79 (by decide) ?_
    refine zw_icmp_ne (tgt := 85) hX dX14_go_80 (by decide) (fun c80 => ?_) (fun c80 => ?_)
    · rw [if_neg c80] at h
      refine zw_aload_n hX dX14_go_85 rfl ?_
      obtain ⟨b5, g, h⟩ := zb_some h
      refine zw_getr hX zl_X14_65 dX14_go_86 g ?_
      refine zw_iload_n hX dX14_go_89 rfl ?_
      obtain ⟨v6, g, h⟩ := zb_some h
      refine zw_xi hX dX14_go_90 g ?_
      refine zw_if_ne (tgt := 111) hX dX14_go_91 (by decide) (fun c91 => ?_) (fun c91 => ?_)
      · rw [if_neg c91] at h
        refine zw_sub (lv' := [(0, .ref a0), (1, .int i1)]) (List.forall_mem_cons.mpr ⟨rfl, (List.forall_mem_cons.mpr ⟨rfl, zs_nil⟩)⟩) ?_
        exact zt_X14_go_J111 hX hr hR hd h
      · rw [if_pos c91] at h
        refine zw_aload_n hX dX14_go_94 rfl ?_
        obtain ⟨b22, g, h⟩ := zb_some h
        refine zw_getr hX zl_X14_65 dX14_go_95 g ?_
        refine zw_iload_n hX dX14_go_98 rfl ?_
        refine zw_iconst (v := (1 : Int32)) hX dX14_go_99 (by decide) ?_
        obtain ⟨S23, g, h⟩ := zb_some h
        refine zw_si hX dX14_go_100 g ?_
        refine zw_aload_n hX dX14_go_101 rfl ?_
        obtain ⟨b24, g, h⟩ := zb_some h
        refine zw_getr hX zl_X14_68 dX14_go_102 g ?_
        refine zw_iload_n hX dX14_go_105 rfl ?_
        refine zw_aload_n hX dX14_go_106 rfl ?_
        obtain ⟨v25, g, h⟩ := zb_some h
        refine zw_geti hX zl_X14_202 dX14_go_107 g ?_
        obtain ⟨S26, g, h⟩ := zb_some h
        refine zw_si hX dX14_go_110 g ?_
        refine zw_sub (lv' := [(0, .ref a0), (1, .int i1)]) (List.forall_mem_cons.mpr ⟨rfl, (List.forall_mem_cons.mpr ⟨rfl, zs_nil⟩)⟩) ?_
        exact zt_X14_go_J111 hX hr hR hd h
    · rw [if_pos c80] at h
      refine zw_iconst (v := (-1 : Int32)) hX dX14_go_83 (by decide) ?_
      obtain rfl := Option.some.inj h
      exact zw_iret hX hr dX14_go_84 rfl ⟨rfl, rfl⟩
  · rw [if_pos c6] at h
    refine zw_aload_n hX dX14_go_9 rfl ?_
    obtain ⟨b27, g, h⟩ := zb_some h
    refine zw_getr hX zl_X14_65 dX14_go_10 g ?_
    refine zw_iload_n hX dX14_go_13 rfl ?_
    obtain ⟨v28, g, h⟩ := zb_some h
    refine zw_xi hX dX14_go_14 g ?_
    refine zw_iconst (v := (2 : Int32)) hX dX14_go_15 (by decide) ?_
    refine zw_icmp_ne (tgt := 32) hX dX14_go_16 (by decide) (fun c16 => ?_) (fun c16 => ?_)
    · rw [if_neg c16] at h
      refine zw_sub (lv' := [(0, .ref a0), (1, .int i1)]) (List.forall_mem_cons.mpr ⟨rfl, (List.forall_mem_cons.mpr ⟨rfl, zs_nil⟩)⟩) ?_
      exact zt_X14_go_J32 hX hr hR hd h
    · rw [if_pos c16] at h
      refine zw_aload_n hX dX14_go_19 rfl ?_
      obtain ⟨b35, g, h⟩ := zb_some h
      refine zw_getr hX zl_X14_53 dX14_go_20 g ?_
      refine zw_iload_n hX dX14_go_23 rfl ?_
      obtain ⟨v36, g, h⟩ := zb_some h
      refine zw_xz hX dX14_go_24 g ?_
      refine zw_if_ne (tgt := 32) hX dX14_go_25 (by decide) (fun c25 => ?_) (fun c25 => ?_)
      · rw [if_neg c25] at h
        refine zw_sub (lv' := [(0, .ref a0), (1, .int i1)]) (List.forall_mem_cons.mpr ⟨rfl, (List.forall_mem_cons.mpr ⟨rfl, zs_nil⟩)⟩) ?_
        exact zt_X14_go_J32 hX hr hR hd h
      · rw [if_pos c25] at h
        refine zw_iconst (v := (1 : Int32)) hX dX14_go_28 (by decide) ?_
        refine zw_goto (tgt := 33) hX dX14_go_29 (by decide) ?_
        refine zw_sub (lv' := [(0, .ref a0), (1, .int i1)]) (List.forall_mem_cons.mpr ⟨rfl, (List.forall_mem_cons.mpr ⟨rfl, zs_nil⟩)⟩) ?_
        exact zt_X14_go_J33 hX hr hR hd h
set_option maxHeartbeats 4000000 in
set_option maxRecDepth 100000 in
theorem zt_X14_resets {l : Launch} {V : zm_V} {N : Nat} {S : zm_S} {out : (Int32 × zm_S)} {d : Nat} {a0 : Nat} {i1 : Int32} (hd : 6 ≤ d) (h : zf_X14_resets N a0 i1 S = some out) : zm_Met l zk_E V yX14_resets (.code yX14_resets cX14_resets 2 (some .boolean)) d [.ref a0, .int i1] S 0 0 (zo_i out) zo_x := by
  refine zm_of (by decide +kernel) (Nat.le_of_ble_eq_true rfl) ?_
  intro p e R s m args below meth c hRR hX hr hxt
  have hR : R.frames = d ∧ R.locals = 64 * d := by rw [hRR]; exact ⟨rfl, rfl⟩
  have hX : zm_X p R s m args meth c RX14 "resets" cX14_resets 2 zk_E V 0 0 := hX
  unfold zf_X14_resets at h
  refine zw_sub (lv' := [(0, .ref a0), (1, .int i1)]) (List.forall_mem_cons.mpr ⟨rfl, (List.forall_mem_cons.mpr ⟨rfl, zs_nil⟩)⟩) ?_
  refine zw_aload_n hX dX14_resets_0 rfl ?_
  obtain ⟨b1, g, h⟩ := zb_some h
  refine zw_getr hX zl_X14_53 dX14_resets_1 g ?_
  refine zw_iload_n hX dX14_resets_4 rfl ?_
  obtain ⟨v2, g, h⟩ := zb_some h
  refine zw_xz hX dX14_resets_5 g ?_
  refine zw_if_eq (tgt := 28) hX dX14_resets_6 (by decide) (fun c6 => ?_) (fun c6 => ?_)
  · rw [if_pos c6] at h
    refine zw_iconst (v := (0 : Int32)) hX dX14_resets_28 (by decide) ?_
    obtain rfl := Option.some.inj h
    exact zw_iret hX hr dX14_resets_29 rfl ⟨rfl, rfl⟩
  · rw [if_neg c6] at h
    refine zw_aload_n hX dX14_resets_9 rfl ?_
    obtain ⟨b3, g, h⟩ := zb_some h
    refine zw_getr hX zl_X14_65 dX14_resets_10 g ?_
    refine zw_iload_n hX dX14_resets_13 rfl ?_
    obtain ⟨v4, g, h⟩ := zb_some h
    refine zw_xi hX dX14_resets_14 g ?_
    refine zw_iconst (v := (2 : Int32)) hX dX14_resets_15 (by decide) ?_
    refine zw_icmp_ne (tgt := 28) hX dX14_resets_16 (by decide) (fun c16 => ?_) (fun c16 => ?_)
    · rw [if_neg c16] at h
      refine zw_iconst (v := (0 : Int32)) hX dX14_resets_28 (by decide) ?_
      obtain rfl := Option.some.inj h
      exact zw_iret hX hr dX14_resets_29 rfl ⟨rfl, rfl⟩
    · rw [if_pos c16] at h
      refine zw_aload_n hX dX14_resets_19 rfl ?_
      refine zw_iload_n hX dX14_resets_20 rfl ?_
      refine zw_iconst (v := (0 : Int32)) hX dX14_resets_21 (by decide) ?_
      obtain ⟨_, gi, h⟩ := zb_some h
      obtain ⟨r6, g, h⟩ := zb_some h
      refine zc_Vi (as := [.int i1, .int (0 : Int32)]) hX gi (zt_X14_isCalled (d := d - 1) (by omega) g) zl_X14_224 rfl dX14_resets_22 ⟨rfl, rfl, Nat.le_of_ble_eq_true rfl⟩ ⟨by omega, by omega⟩ ?_
      refine zw_if_eq (tgt := 30) hX dX14_resets_25 (by decide) (fun c25 => ?_) (fun c25 => ?_)
      · rw [if_pos c25] at h
        refine zw_aload_n hX dX14_resets_30 rfl ?_
        refine zw_iload_n hX dX14_resets_31 rfl ?_
        obtain ⟨_, gi, h⟩ := zb_some h
        obtain ⟨r8, g, h⟩ := zb_some h
        refine zc_Vv (as := [.int i1]) hX gi (zt_X14_rests (d := d - 1) (by omega) g) zl_X14_199 rfl dX14_resets_32 ⟨rfl, rfl, Nat.le_of_ble_eq_true rfl⟩ ⟨by omega, by omega⟩ ?_
        refine zw_aload_n hX dX14_resets_35 rfl ?_
        refine zw_iload_n hX dX14_resets_36 rfl ?_
        refine zw_iconst (v := (0 : Int32)) hX dX14_resets_37 (by decide) ?_
        obtain ⟨_, gi, h⟩ := zb_some h
        obtain ⟨r10, g, h⟩ := zb_some h
        refine zc_Vv (as := [.int i1, .int (0 : Int32)]) hX gi (zt_X14_tell (d := d - 1) (by omega) g) zl_X14_228 rfl dX14_resets_38 ⟨rfl, rfl, Nat.le_of_ble_eq_true rfl⟩ ⟨by omega, by omega⟩ ?_
        refine zw_iconst (v := (1 : Int32)) hX dX14_resets_41 (by decide) ?_
        obtain rfl := Option.some.inj h
        exact zw_iret hX hr dX14_resets_42 rfl ⟨rfl, rfl⟩
      · rw [if_neg c25] at h
        refine zw_iconst (v := (0 : Int32)) hX dX14_resets_28 (by decide) ?_
        obtain rfl := Option.some.inj h
        exact zw_iret hX hr dX14_resets_29 rfl ⟨rfl, rfl⟩
set_option maxHeartbeats 4000000 in
set_option maxRecDepth 100000 in
theorem zt_X14_attend_J113 {p : Program} {l : Launch} {e : Env} {R : Room} {s : State} {m : MethodId} {args : Array Value} {below : List Frame} {meth : Method} {c : Code} {V : zm_V} {mc ms d rc rs : Nat} (hX : zm_X p R s m args meth c RX14 "attend" cX14_attend 5 zk_E V mc ms) (hr : meth.sig.returnType = (some .int)) (hR : R.frames = d ∧ R.locals = 64 * d) (hd : 1 ≤ d) {N : Nat} {k : Nat → Int32 → Int32 → Int32 → zm_S → Option ((Int32 × zm_S) ⊕ ((Int32) × zm_S))} {a0 : Nat} {i1 : Int32} {i3 : Int32} {t0 : Int32} {t1 : Int32} {res : (Int32 × zm_S) ⊕ ((Int32) × zm_S)} {out : (Int32 × zm_S)}   (hf : ∀ o, res = .inl o → o = out) (hk : ∀ (x2 : Int32) (S' : zm_S), res = .inr (x2, S') → zw p l e R s m args below meth c (vx_MQ below (zm_Qc zk_E V (zo_i out)) (zm_XC zk_E V zo_x) args s mc ms (fun q => V.2.2.2.1 ≤ q)) 5 zk_E V mc ms 121 [(2, .int x2)] [] S' rc rs) (hrec : ∀ (i2' : Int32) (i3' : Int32) (S : zm_S), k a0 i1 i2' i3' S = some res → zw p l e R s m args below meth c (vx_MQ below (zm_Qc zk_E V (zo_i out)) (zm_XC zk_E V zo_x) args s mc ms (fun q => V.2.2.2.1 ≤ q)) 5 zk_E V mc ms 4 [(0, .ref a0), (1, .int i1), (2, .int i2'), (3, .int i3')] [] S rc rs) {S : zm_S} (h : zf_X14_attend_J113 N k a0 i1 i3 t0 t1 S = some res) : zw p l e R s m args below meth c (vx_MQ below (zm_Qc zk_E V (zo_i out)) (zm_XC zk_E V zo_x) args s mc ms (fun q => V.2.2.2.1 ≤ q)) 5 zk_E V mc ms 113 [(0, .ref a0), (1, .int i1), (3, .int i3)] [.int t1, .int t0] S rc rs := by
  unfold zf_X14_attend_J113 at h
  refine zw_iadd hX dX14_attend_113 ?_
  refine zw_istore_n hX dX14_attend_114 (by decide) ?_
  refine zw_iinc (v := (i3 + (1 : Int32))) hX dX14_attend_115 rfl rfl (by decide) ?_
  refine zw_goto (tgt := 4) hX dX14_attend_118 (by decide) ?_
  refine zw_sub (lv' := [(0, .ref a0), (1, .int i1), (2, .int (t0 + t1)), (3, .int (i3 + (1 : Int32)))]) (List.forall_mem_cons.mpr ⟨rfl, (List.forall_mem_cons.mpr ⟨rfl, (List.forall_mem_cons.mpr ⟨rfl, (List.forall_mem_cons.mpr ⟨rfl, zs_nil⟩)⟩)⟩)⟩) ?_
  exact hrec _ _ _ h
set_option maxHeartbeats 4000000 in
set_option maxRecDepth 100000 in
theorem zt_X14_attend_J102 {p : Program} {l : Launch} {e : Env} {R : Room} {s : State} {m : MethodId} {args : Array Value} {below : List Frame} {meth : Method} {c : Code} {V : zm_V} {mc ms d rc rs : Nat} (hX : zm_X p R s m args meth c RX14 "attend" cX14_attend 5 zk_E V mc ms) (hr : meth.sig.returnType = (some .int)) (hR : R.frames = d ∧ R.locals = 64 * d) (hd : 1 ≤ d) {N : Nat} {k : Nat → Int32 → Int32 → Int32 → zm_S → Option ((Int32 × zm_S) ⊕ ((Int32) × zm_S))} {a0 : Nat} {i1 : Int32} {i2 : Int32} {i3 : Int32} {i4 : Int32} {res : (Int32 × zm_S) ⊕ ((Int32) × zm_S)} {out : (Int32 × zm_S)}   (hf : ∀ o, res = .inl o → o = out) (hk : ∀ (x2 : Int32) (S' : zm_S), res = .inr (x2, S') → zw p l e R s m args below meth c (vx_MQ below (zm_Qc zk_E V (zo_i out)) (zm_XC zk_E V zo_x) args s mc ms (fun q => V.2.2.2.1 ≤ q)) 5 zk_E V mc ms 121 [(2, .int x2)] [] S' rc rs) (hrec : ∀ (i2' : Int32) (i3' : Int32) (S : zm_S), k a0 i1 i2' i3' S = some res → zw p l e R s m args below meth c (vx_MQ below (zm_Qc zk_E V (zo_i out)) (zm_XC zk_E V zo_x) args s mc ms (fun q => V.2.2.2.1 ≤ q)) 5 zk_E V mc ms 4 [(0, .ref a0), (1, .int i1), (2, .int i2'), (3, .int i3')] [] S rc rs) {S : zm_S} (h : zf_X14_attend_J102 N k a0 i1 i2 i3 i4 S = some res) : zw p l e R s m args below meth c (vx_MQ below (zm_Qc zk_E V (zo_i out)) (zm_XC zk_E V zo_x) args s mc ms (fun q => V.2.2.2.1 ≤ q)) 5 zk_E V mc ms 102 [(0, .ref a0), (1, .int i1), (2, .int i2), (3, .int i3), (4, .int i4)] [] S rc rs := by
  unfold zf_X14_attend_J102 at h
  refine zw_iload_n hX dX14_attend_102 rfl ?_
  refine zw_iload hX dX14_attend_103 rfl ?_
  refine zw_if_eq (tgt := 112) hX dX14_attend_105 (by decide) (fun c105 => ?_) (fun c105 => ?_)
  · rw [if_pos c105] at h
    refine zw_iconst (v := (0 : Int32)) hX dX14_attend_112 (by decide) ?_
    refine zw_sub (lv' := [(0, .ref a0), (1, .int i1), (3, .int i3)]) (List.forall_mem_cons.mpr ⟨rfl, (List.forall_mem_cons.mpr ⟨rfl, (List.forall_mem_cons.mpr ⟨rfl, zs_nil⟩)⟩)⟩) ?_
    exact zt_X14_attend_J113 hX hr hR hd hf hk hrec h
  · rw [if_neg c105] at h
    refine zw_iconst (v := (1 : Int32)) hX dX14_attend_108 (by decide) ?_
    refine zw_goto (tgt := 113) hX dX14_attend_109 (by decide) ?_
    refine zw_sub (lv' := [(0, .ref a0), (1, .int i1), (3, .int i3)]) (List.forall_mem_cons.mpr ⟨rfl, (List.forall_mem_cons.mpr ⟨rfl, (List.forall_mem_cons.mpr ⟨rfl, zs_nil⟩)⟩)⟩) ?_
    exact zt_X14_attend_J113 hX hr hR hd hf hk hrec h
set_option maxHeartbeats 4000000 in
set_option maxRecDepth 100000 in
theorem zt_X14_attend_J90 {p : Program} {l : Launch} {e : Env} {R : Room} {s : State} {m : MethodId} {args : Array Value} {below : List Frame} {meth : Method} {c : Code} {V : zm_V} {mc ms d rc rs : Nat} (hX : zm_X p R s m args meth c RX14 "attend" cX14_attend 5 zk_E V mc ms) (hr : meth.sig.returnType = (some .int)) (hR : R.frames = d ∧ R.locals = 64 * d) (hd : 1 ≤ d) {N : Nat} {k : Nat → Int32 → Int32 → Int32 → zm_S → Option ((Int32 × zm_S) ⊕ ((Int32) × zm_S))} {a0 : Nat} {i1 : Int32} {i2 : Int32} {i3 : Int32} {i4 : Int32} {res : (Int32 × zm_S) ⊕ ((Int32) × zm_S)} {out : (Int32 × zm_S)}   (hf : ∀ o, res = .inl o → o = out) (hk : ∀ (x2 : Int32) (S' : zm_S), res = .inr (x2, S') → zw p l e R s m args below meth c (vx_MQ below (zm_Qc zk_E V (zo_i out)) (zm_XC zk_E V zo_x) args s mc ms (fun q => V.2.2.2.1 ≤ q)) 5 zk_E V mc ms 121 [(2, .int x2)] [] S' rc rs) (hrec : ∀ (i2' : Int32) (i3' : Int32) (S : zm_S), k a0 i1 i2' i3' S = some res → zw p l e R s m args below meth c (vx_MQ below (zm_Qc zk_E V (zo_i out)) (zm_XC zk_E V zo_x) args s mc ms (fun q => V.2.2.2.1 ≤ q)) 5 zk_E V mc ms 4 [(0, .ref a0), (1, .int i1), (2, .int i2'), (3, .int i3')] [] S rc rs) {S : zm_S} (h : zf_X14_attend_J90 N k a0 i1 i2 i3 i4 S = some res) : zw p l e R s m args below meth c (vx_MQ below (zm_Qc zk_E V (zo_i out)) (zm_XC zk_E V zo_x) args s mc ms (fun q => V.2.2.2.1 ≤ q)) 5 zk_E V mc ms 90 [(0, .ref a0), (1, .int i1), (2, .int i2), (3, .int i3), (4, .int i4)] [] S rc rs := by
  unfold zf_X14_attend_J90 at h
  refine zw_iload hX dX14_attend_90 rfl ?_
  refine zw_if_eq (tgt := 102) hX dX14_attend_92 (by decide) (fun c92 => ?_) (fun c92 => ?_)
  · rw [if_pos c92] at h
    refine zw_sub (lv' := [(0, .ref a0), (1, .int i1), (2, .int i2), (3, .int i3), (4, .int i4)]) (List.forall_mem_cons.mpr ⟨rfl, (List.forall_mem_cons.mpr ⟨rfl, (List.forall_mem_cons.mpr ⟨rfl, (List.forall_mem_cons.mpr ⟨rfl, (List.forall_mem_cons.mpr ⟨rfl, zs_nil⟩)⟩)⟩)⟩)⟩) ?_
    exact zt_X14_attend_J102 hX hr hR hd hf hk hrec h
  · rw [if_neg c92] at h
    refine zw_aload_n hX dX14_attend_95 rfl ?_
    obtain ⟨b3, g, h⟩ := zb_some h
    refine zw_getr hX zl_X14_74 dX14_attend_96 g ?_
    refine zw_iload_n hX dX14_attend_99 rfl ?_
    refine zw_iconst (v := (1 : Int32)) hX dX14_attend_100 (by decide) ?_
    obtain ⟨S4, g, h⟩ := zb_some h
    refine zw_sz hX dX14_attend_101 g ?_
    refine zw_sub (lv' := [(0, .ref a0), (1, .int i1), (2, .int i2), (3, .int i3), (4, .int i4)]) (List.forall_mem_cons.mpr ⟨rfl, (List.forall_mem_cons.mpr ⟨rfl, (List.forall_mem_cons.mpr ⟨rfl, (List.forall_mem_cons.mpr ⟨rfl, (List.forall_mem_cons.mpr ⟨rfl, zs_nil⟩)⟩)⟩)⟩)⟩) ?_
    exact zt_X14_attend_J102 hX hr hR hd hf hk hrec h
set_option maxHeartbeats 4000000 in
set_option maxRecDepth 100000 in
theorem zt_X14_attend_J59 {p : Program} {l : Launch} {e : Env} {R : Room} {s : State} {m : MethodId} {args : Array Value} {below : List Frame} {meth : Method} {c : Code} {V : zm_V} {mc ms d rc rs : Nat} (hX : zm_X p R s m args meth c RX14 "attend" cX14_attend 5 zk_E V mc ms) (hr : meth.sig.returnType = (some .int)) (hR : R.frames = d ∧ R.locals = 64 * d) (hd : 1 ≤ d) {N : Nat} {k : Nat → Int32 → Int32 → Int32 → zm_S → Option ((Int32 × zm_S) ⊕ ((Int32) × zm_S))} {a0 : Nat} {i1 : Int32} {i2 : Int32} {i3 : Int32} {t0 : Int32} {res : (Int32 × zm_S) ⊕ ((Int32) × zm_S)} {out : (Int32 × zm_S)}   (hf : ∀ o, res = .inl o → o = out) (hk : ∀ (x2 : Int32) (S' : zm_S), res = .inr (x2, S') → zw p l e R s m args below meth c (vx_MQ below (zm_Qc zk_E V (zo_i out)) (zm_XC zk_E V zo_x) args s mc ms (fun q => V.2.2.2.1 ≤ q)) 5 zk_E V mc ms 121 [(2, .int x2)] [] S' rc rs) (hrec : ∀ (i2' : Int32) (i3' : Int32) (S : zm_S), k a0 i1 i2' i3' S = some res → zw p l e R s m args below meth c (vx_MQ below (zm_Qc zk_E V (zo_i out)) (zm_XC zk_E V zo_x) args s mc ms (fun q => V.2.2.2.1 ≤ q)) 5 zk_E V mc ms 4 [(0, .ref a0), (1, .int i1), (2, .int i2'), (3, .int i3')] [] S rc rs) {S : zm_S} (h : zf_X14_attend_J59 N k a0 i1 i2 i3 t0 S = some res) : zw p l e R s m args below meth c (vx_MQ below (zm_Qc zk_E V (zo_i out)) (zm_XC zk_E V zo_x) args s mc ms (fun q => V.2.2.2.1 ≤ q)) 5 zk_E V mc ms 59 [(0, .ref a0), (1, .int i1), (2, .int i2), (3, .int i3)] [.int t0] S rc rs := by
  unfold zf_X14_attend_J59 at h
  refine zw_istore hX dX14_attend_59 (by decide) ?_
  refine zw_iload hX dX14_attend_61 rfl ?_
  refine zw_if_eq (tgt := 90) hX dX14_attend_63 (by decide) (fun c63 => ?_) (fun c63 => ?_)
  · rw [if_pos c63] at h
    refine zw_sub (lv' := [(0, .ref a0), (1, .int i1), (2, .int i2), (3, .int i3), (4, .int t0)]) (List.forall_mem_cons.mpr ⟨rfl, (List.forall_mem_cons.mpr ⟨rfl, (List.forall_mem_cons.mpr ⟨rfl, (List.forall_mem_cons.mpr ⟨rfl, (List.forall_mem_cons.mpr ⟨rfl, zs_nil⟩)⟩)⟩)⟩)⟩) ?_
    exact zt_X14_attend_J90 hX hr hR hd hf hk hrec h
  · rw [if_neg c63] at h
    refine zw_iload_n hX dX14_attend_66 rfl ?_
    refine zw_if_ne (tgt := 90) hX dX14_attend_67 (by decide) (fun c67 => ?_) (fun c67 => ?_)
    · rw [if_neg c67] at h
      refine zw_sub (lv' := [(0, .ref a0), (1, .int i1), (2, .int i2), (3, .int i3), (4, .int t0)]) (List.forall_mem_cons.mpr ⟨rfl, (List.forall_mem_cons.mpr ⟨rfl, (List.forall_mem_cons.mpr ⟨rfl, (List.forall_mem_cons.mpr ⟨rfl, (List.forall_mem_cons.mpr ⟨rfl, zs_nil⟩)⟩)⟩)⟩)⟩) ?_
      exact zt_X14_attend_J90 hX hr hR hd hf hk hrec h
    · rw [if_pos c67] at h
      refine zw_aload_n hX dX14_attend_70 rfl ?_
      obtain ⟨b5, g, h⟩ := zb_some h
      refine zw_getr hX zl_X14_68 dX14_attend_71 g ?_
      refine zw_iload_n hX dX14_attend_74 rfl ?_
      refine zw_aload_n hX dX14_attend_75 rfl ?_
      obtain ⟨v6, g, h⟩ := zb_some h
      refine zw_geti hX zl_X14_202 dX14_attend_76 g ?_
      obtain ⟨S7, g, h⟩ := zb_some h
      refine zw_si hX dX14_attend_79 g ?_
      refine zw_aload_n hX dX14_attend_80 rfl ?_
      obtain ⟨b8, g, h⟩ := zb_some h
      refine zw_getr hX zl_X14_71 dX14_attend_81 g ?_
      refine zw_iload_n hX dX14_attend_84 rfl ?_
      refine zw_iconst (v := (1 : Int32)) hX dX14_attend_85 (by decide) ?_
      obtain ⟨S9, g, h⟩ := zb_some h
      refine zw_sz hX dX14_attend_86 g ?_
      refine zw_goto (tgt := 102) hX dX14_attend_87 (by decide) ?_
      refine zw_sub (lv' := [(0, .ref a0), (1, .int i1), (2, .int i2), (3, .int i3), (4, .int t0)]) (List.forall_mem_cons.mpr ⟨rfl, (List.forall_mem_cons.mpr ⟨rfl, (List.forall_mem_cons.mpr ⟨rfl, (List.forall_mem_cons.mpr ⟨rfl, (List.forall_mem_cons.mpr ⟨rfl, zs_nil⟩)⟩)⟩)⟩)⟩) ?_
      exact zt_X14_attend_J102 hX hr hR hd hf hk hrec h
set_option maxHeartbeats 4000000 in
set_option maxRecDepth 100000 in
theorem zt_X14_attend_J58 {p : Program} {l : Launch} {e : Env} {R : Room} {s : State} {m : MethodId} {args : Array Value} {below : List Frame} {meth : Method} {c : Code} {V : zm_V} {mc ms d rc rs : Nat} (hX : zm_X p R s m args meth c RX14 "attend" cX14_attend 5 zk_E V mc ms) (hr : meth.sig.returnType = (some .int)) (hR : R.frames = d ∧ R.locals = 64 * d) (hd : 1 ≤ d) {N : Nat} {k : Nat → Int32 → Int32 → Int32 → zm_S → Option ((Int32 × zm_S) ⊕ ((Int32) × zm_S))} {a0 : Nat} {i1 : Int32} {i2 : Int32} {i3 : Int32} {res : (Int32 × zm_S) ⊕ ((Int32) × zm_S)} {out : (Int32 × zm_S)}   (hf : ∀ o, res = .inl o → o = out) (hk : ∀ (x2 : Int32) (S' : zm_S), res = .inr (x2, S') → zw p l e R s m args below meth c (vx_MQ below (zm_Qc zk_E V (zo_i out)) (zm_XC zk_E V zo_x) args s mc ms (fun q => V.2.2.2.1 ≤ q)) 5 zk_E V mc ms 121 [(2, .int x2)] [] S' rc rs) (hrec : ∀ (i2' : Int32) (i3' : Int32) (S : zm_S), k a0 i1 i2' i3' S = some res → zw p l e R s m args below meth c (vx_MQ below (zm_Qc zk_E V (zo_i out)) (zm_XC zk_E V zo_x) args s mc ms (fun q => V.2.2.2.1 ≤ q)) 5 zk_E V mc ms 4 [(0, .ref a0), (1, .int i1), (2, .int i2'), (3, .int i3')] [] S rc rs) {S : zm_S} (h : zf_X14_attend_J58 N k a0 i1 i2 i3 S = some res) : zw p l e R s m args below meth c (vx_MQ below (zm_Qc zk_E V (zo_i out)) (zm_XC zk_E V zo_x) args s mc ms (fun q => V.2.2.2.1 ≤ q)) 5 zk_E V mc ms 58 [(0, .ref a0), (1, .int i1), (2, .int i2), (3, .int i3)] [] S rc rs := by
  unfold zf_X14_attend_J58 at h
  refine zw_iconst (v := (0 : Int32)) hX dX14_attend_58 (by decide) ?_
  refine zw_sub (lv' := [(0, .ref a0), (1, .int i1), (2, .int i2), (3, .int i3)]) (List.forall_mem_cons.mpr ⟨rfl, (List.forall_mem_cons.mpr ⟨rfl, (List.forall_mem_cons.mpr ⟨rfl, (List.forall_mem_cons.mpr ⟨rfl, zs_nil⟩)⟩)⟩)⟩) ?_
  exact zt_X14_attend_J59 hX hr hR hd hf hk hrec h
set_option maxHeartbeats 4000000 in
set_option maxRecDepth 100000 in
theorem zt_X14_attend_J54 {p : Program} {l : Launch} {e : Env} {R : Room} {s : State} {m : MethodId} {args : Array Value} {below : List Frame} {meth : Method} {c : Code} {V : zm_V} {mc ms d rc rs : Nat} (hX : zm_X p R s m args meth c RX14 "attend" cX14_attend 5 zk_E V mc ms) (hr : meth.sig.returnType = (some .int)) (hR : R.frames = d ∧ R.locals = 64 * d) (hd : 1 ≤ d) {N : Nat} {k : Nat → Int32 → Int32 → Int32 → zm_S → Option ((Int32 × zm_S) ⊕ ((Int32) × zm_S))} {a0 : Nat} {i1 : Int32} {i2 : Int32} {i3 : Int32} {res : (Int32 × zm_S) ⊕ ((Int32) × zm_S)} {out : (Int32 × zm_S)}   (hf : ∀ o, res = .inl o → o = out) (hk : ∀ (x2 : Int32) (S' : zm_S), res = .inr (x2, S') → zw p l e R s m args below meth c (vx_MQ below (zm_Qc zk_E V (zo_i out)) (zm_XC zk_E V zo_x) args s mc ms (fun q => V.2.2.2.1 ≤ q)) 5 zk_E V mc ms 121 [(2, .int x2)] [] S' rc rs) (hrec : ∀ (i2' : Int32) (i3' : Int32) (S : zm_S), k a0 i1 i2' i3' S = some res → zw p l e R s m args below meth c (vx_MQ below (zm_Qc zk_E V (zo_i out)) (zm_XC zk_E V zo_x) args s mc ms (fun q => V.2.2.2.1 ≤ q)) 5 zk_E V mc ms 4 [(0, .ref a0), (1, .int i1), (2, .int i2'), (3, .int i3')] [] S rc rs) {S : zm_S} (h : zf_X14_attend_J54 N k a0 i1 i2 i3 S = some res) : zw p l e R s m args below meth c (vx_MQ below (zm_Qc zk_E V (zo_i out)) (zm_XC zk_E V zo_x) args s mc ms (fun q => V.2.2.2.1 ≤ q)) 5 zk_E V mc ms 54 [(0, .ref a0), (1, .int i1), (2, .int i2), (3, .int i3)] [] S rc rs := by
  unfold zf_X14_attend_J54 at h
  refine zw_iconst (v := (1 : Int32)) hX dX14_attend_54 (by decide) ?_
  refine zw_goto (tgt := 59) hX dX14_attend_55 (by decide) ?_
  refine zw_sub (lv' := [(0, .ref a0), (1, .int i1), (2, .int i2), (3, .int i3)]) (List.forall_mem_cons.mpr ⟨rfl, (List.forall_mem_cons.mpr ⟨rfl, (List.forall_mem_cons.mpr ⟨rfl, (List.forall_mem_cons.mpr ⟨rfl, zs_nil⟩)⟩)⟩)⟩) ?_
  exact zt_X14_attend_J59 hX hr hR hd hf hk hrec h
set_option maxHeartbeats 4000000 in
set_option maxRecDepth 100000 in
theorem zt_X14_attend_L4 {p : Program} {l : Launch} {e : Env} {R : Room} {s : State} {m : MethodId} {args : Array Value} {below : List Frame} {meth : Method} {c : Code} {V : zm_V} {mc ms d rc rs : Nat} (hX : zm_X p R s m args meth c RX14 "attend" cX14_attend 5 zk_E V mc ms) (hr : meth.sig.returnType = (some .int)) (hR : R.frames = d ∧ R.locals = 64 * d) (hd : 1 ≤ d) {N : Nat} {res : (Int32 × zm_S) ⊕ ((Int32) × zm_S)} {out : (Int32 × zm_S)} (a0 : Nat) (i1 : Int32) (hf : ∀ o, res = .inl o → o = out) (hk : ∀ (x2 : Int32) (S' : zm_S), res = .inr (x2, S') → zw p l e R s m args below meth c (vx_MQ below (zm_Qc zk_E V (zo_i out)) (zm_XC zk_E V zo_x) args s mc ms (fun q => V.2.2.2.1 ≤ q)) 5 zk_E V mc ms 121 [(2, .int x2)] [] S' rc rs) : ∀ (n : Nat) (i2 : Int32) (i3 : Int32) (S : zm_S), zf_X14_attend_L4 N n a0 i1 i2 i3 S = some res → zw p l e R s m args below meth c (vx_MQ below (zm_Qc zk_E V (zo_i out)) (zm_XC zk_E V zo_x) args s mc ms (fun q => V.2.2.2.1 ≤ q)) 5 zk_E V mc ms 4 [(0, .ref a0), (1, .int i1), (2, .int i2), (3, .int i3)] [] S rc rs := by
  intro n
  induction n with
  | zero => intro i2 i3 S h; cases h
  | succ n ih =>
    intro i2 i3 S h
    rw [zf_X14_attend_L4] at h
    refine zw_iload_n hX dX14_attend_4 rfl ?_
    refine zw_bipush (v := (20 : Int32)) hX dX14_attend_5 (by decide) ?_
    refine zw_icmp_ge (tgt := 121) hX dX14_attend_7 (by decide) (fun c7 => ?_) (fun c7 => ?_)
    · rw [if_pos c7] at h
      refine zw_sub (lv' := [(2, .int i2)]) (List.forall_mem_cons.mpr ⟨rfl, zs_nil⟩) ?_
      exact hk _ _ (Option.some.inj h).symm
    · rw [if_neg c7] at h
      refine zw_aload_n hX dX14_attend_10 rfl ?_
      obtain ⟨b1, g, h⟩ := zb_some h
      refine zw_getr hX zl_X14_41 dX14_attend_11 g ?_
      refine zw_iload_n hX dX14_attend_14 rfl ?_
      obtain ⟨v2, g, h⟩ := zb_some h
      refine zw_xz hX dX14_attend_15 g ?_
      refine zw_if_eq (tgt := 58) hX dX14_attend_16 (by decide) (fun c16 => ?_) (fun c16 => ?_)
      · rw [if_pos c16] at h
        refine zw_sub (lv' := [(0, .ref a0), (1, .int i1), (2, .int i2), (3, .int i3)]) (List.forall_mem_cons.mpr ⟨rfl, (List.forall_mem_cons.mpr ⟨rfl, (List.forall_mem_cons.mpr ⟨rfl, (List.forall_mem_cons.mpr ⟨rfl, zs_nil⟩)⟩)⟩)⟩) ?_
        exact zt_X14_attend_J58 hX hr hR hd hf hk ih h
      · rw [if_neg c16] at h
        refine zw_aload_n hX dX14_attend_19 rfl ?_
        obtain ⟨b10, g, h⟩ := zb_some h
        refine zw_getr hX zl_X14_65 dX14_attend_20 g ?_
        refine zw_iload_n hX dX14_attend_23 rfl ?_
        obtain ⟨v11, g, h⟩ := zb_some h
        refine zw_xi hX dX14_attend_24 g ?_
        refine zw_iconst (v := (1 : Int32)) hX dX14_attend_25 (by decide) ?_
        refine zw_icmp_ne (tgt := 58) hX dX14_attend_26 (by decide) (fun c26 => ?_) (fun c26 => ?_)
        · rw [if_neg c26] at h
          refine zw_sub (lv' := [(0, .ref a0), (1, .int i1), (2, .int i2), (3, .int i3)]) (List.forall_mem_cons.mpr ⟨rfl, (List.forall_mem_cons.mpr ⟨rfl, (List.forall_mem_cons.mpr ⟨rfl, (List.forall_mem_cons.mpr ⟨rfl, zs_nil⟩)⟩)⟩)⟩) ?_
          exact zt_X14_attend_J58 hX hr hR hd hf hk ih h
        · rw [if_pos c26] at h
          refine zw_iload_n hX dX14_attend_29 rfl ?_
          refine zw_if_ne (tgt := 45) hX dX14_attend_30 (by decide) (fun c30 => ?_) (fun c30 => ?_)
          · rw [if_neg c30] at h
            refine zw_aload_n hX dX14_attend_45 rfl ?_
            obtain ⟨b12, g, h⟩ := zb_some h
            refine zw_getr hX zl_X14_74 dX14_attend_46 g ?_
            refine zw_iload_n hX dX14_attend_49 rfl ?_
            obtain ⟨v13, g, h⟩ := zb_some h
            refine zw_xz hX dX14_attend_50 g ?_
            refine zw_if_ne (tgt := 58) hX dX14_attend_51 (by decide) (fun c51 => ?_) (fun c51 => ?_)
            · rw [if_neg c51] at h
              refine zw_sub (lv' := [(0, .ref a0), (1, .int i1), (2, .int i2), (3, .int i3)]) (List.forall_mem_cons.mpr ⟨rfl, (List.forall_mem_cons.mpr ⟨rfl, (List.forall_mem_cons.mpr ⟨rfl, (List.forall_mem_cons.mpr ⟨rfl, zs_nil⟩)⟩)⟩)⟩) ?_
              exact zt_X14_attend_J58 hX hr hR hd hf hk ih h
            · rw [if_pos c51] at h
              refine zw_sub (lv' := [(0, .ref a0), (1, .int i1), (2, .int i2), (3, .int i3)]) (List.forall_mem_cons.mpr ⟨rfl, (List.forall_mem_cons.mpr ⟨rfl, (List.forall_mem_cons.mpr ⟨rfl, (List.forall_mem_cons.mpr ⟨rfl, zs_nil⟩)⟩)⟩)⟩) ?_
              exact zt_X14_attend_J54 hX hr hR hd hf hk ih h
          · rw [if_pos c30] at h
            refine zw_aload_n hX dX14_attend_33 rfl ?_
            obtain ⟨b14, g, h⟩ := zb_some h
            refine zw_getr hX zl_X14_71 dX14_attend_34 g ?_
            refine zw_iload_n hX dX14_attend_37 rfl ?_
            obtain ⟨v15, g, h⟩ := zb_some h
            refine zw_xz hX dX14_attend_38 g ?_
            refine zw_if_eq (tgt := 54) hX dX14_attend_39 (by decide) (fun c39 => ?_) (fun c39 => ?_)
            · rw [if_pos c39] at h
              refine zw_sub (lv' := [(0, .ref a0), (1, .int i1), (2, .int i2), (3, .int i3)]) (List.forall_mem_cons.mpr ⟨rfl, (List.forall_mem_cons.mpr ⟨rfl, (List.forall_mem_cons.mpr ⟨rfl, (List.forall_mem_cons.mpr ⟨rfl, zs_nil⟩)⟩)⟩)⟩) ?_
              exact zt_X14_attend_J54 hX hr hR hd hf hk ih h
            · rw [if_neg c39] at h
              refine zw_goto (tgt := 58) hX dX14_attend_42 (by decide) ?_
              refine zw_sub (lv' := [(0, .ref a0), (1, .int i1), (2, .int i2), (3, .int i3)]) (List.forall_mem_cons.mpr ⟨rfl, (List.forall_mem_cons.mpr ⟨rfl, (List.forall_mem_cons.mpr ⟨rfl, (List.forall_mem_cons.mpr ⟨rfl, zs_nil⟩)⟩)⟩)⟩) ?_
              exact zt_X14_attend_J58 hX hr hR hd hf hk ih h
set_option maxHeartbeats 4000000 in
set_option maxRecDepth 100000 in
theorem zt_X14_attend {l : Launch} {V : zm_V} {N : Nat} {S : zm_S} {out : (Int32 × zm_S)} {d : Nat} {a0 : Nat} {i1 : Int32} (hd : 1 ≤ d) (h : zf_X14_attend N a0 i1 S = some out) : zm_Met l zk_E V yX14_attend (.code yX14_attend cX14_attend 5 (some .int)) d [.ref a0, .int i1] S 0 0 (zo_i out) zo_x := by
  refine zm_of (by decide +kernel) (Nat.le_of_ble_eq_true rfl) ?_
  intro p e R s m args below meth c hRR hX hr hxt
  have hR : R.frames = d ∧ R.locals = 64 * d := by rw [hRR]; exact ⟨rfl, rfl⟩
  have hX : zm_X p R s m args meth c RX14 "attend" cX14_attend 5 zk_E V 0 0 := hX
  unfold zf_X14_attend at h
  refine zw_sub (lv' := [(0, .ref a0), (1, .int i1)]) (List.forall_mem_cons.mpr ⟨rfl, (List.forall_mem_cons.mpr ⟨rfl, zs_nil⟩)⟩) ?_
  refine zw_iconst (v := (0 : Int32)) hX dX14_attend_0 (by decide) ?_
  refine zw_istore_n hX dX14_attend_1 (by decide) ?_
  refine zw_iconst (v := (0 : Int32)) hX dX14_attend_2 (by decide) ?_
  refine zw_istore_n hX dX14_attend_3 (by decide) ?_
  obtain ⟨r, g, h⟩ := zb_some h
  refine zw_sub (lv' := [(0, .ref a0), (1, .int i1), (2, .int (0 : Int32)), (3, .int (0 : Int32))]) (List.forall_mem_cons.mpr ⟨rfl, (List.forall_mem_cons.mpr ⟨rfl, (List.forall_mem_cons.mpr ⟨rfl, (List.forall_mem_cons.mpr ⟨rfl, zs_nil⟩)⟩)⟩)⟩) ?_
  refine zt_X14_attend_L4 hX hr hR hd (res := r) (out := out) a0 i1 ?_ ?_ N _ _ _ g
  · intro o ho
    subst ho
    exact Option.some.inj h
  · intro v17 S16 hx
    subst hx
    try dsimp only at h
    refine zw_iload_n hX dX14_attend_121 rfl ?_
    obtain rfl := Option.some.inj h
    exact zw_iret hX hr dX14_attend_122 rfl ⟨rfl, rfl⟩
set_option maxHeartbeats 4000000 in
set_option maxRecDepth 100000 in
theorem zt_X14_done_J49 {p : Program} {l : Launch} {e : Env} {R : Room} {s : State} {m : MethodId} {args : Array Value} {below : List Frame} {meth : Method} {c : Code} {V : zm_V} {mc ms d rc rs : Nat} (hX : zm_X p R s m args meth c RX14 "done" cX14_done 4 zk_E V mc ms) (hr : meth.sig.returnType = (some .int)) (hR : R.frames = d ∧ R.locals = 64 * d) (hd : 1 ≤ d) {N : Nat} {k : Nat → Int32 → Int32 → Int32 → zm_S → Option ((Int32 × zm_S) ⊕ ((Int32) × zm_S))} {a0 : Nat} {i1 : Int32} {i3 : Int32} {t0 : Int32} {t1 : Int32} {res : (Int32 × zm_S) ⊕ ((Int32) × zm_S)} {out : (Int32 × zm_S)}   (hf : ∀ o, res = .inl o → o = out) (hk : ∀ (x2 : Int32) (S' : zm_S), res = .inr (x2, S') → zw p l e R s m args below meth c (vx_MQ below (zm_Qc zk_E V (zo_i out)) (zm_XC zk_E V zo_x) args s mc ms (fun q => V.2.2.2.1 ≤ q)) 4 zk_E V mc ms 57 [(2, .int x2)] [] S' rc rs) (hrec : ∀ (i2' : Int32) (i3' : Int32) (S : zm_S), k a0 i1 i2' i3' S = some res → zw p l e R s m args below meth c (vx_MQ below (zm_Qc zk_E V (zo_i out)) (zm_XC zk_E V zo_x) args s mc ms (fun q => V.2.2.2.1 ≤ q)) 4 zk_E V mc ms 4 [(0, .ref a0), (1, .int i1), (2, .int i2'), (3, .int i3')] [] S rc rs) {S : zm_S} (h : zf_X14_done_J49 N k a0 i1 i3 t0 t1 S = some res) : zw p l e R s m args below meth c (vx_MQ below (zm_Qc zk_E V (zo_i out)) (zm_XC zk_E V zo_x) args s mc ms (fun q => V.2.2.2.1 ≤ q)) 4 zk_E V mc ms 49 [(0, .ref a0), (1, .int i1), (3, .int i3)] [.int t1, .int t0] S rc rs := by
  unfold zf_X14_done_J49 at h
  refine zw_iadd hX dX14_done_49 ?_
  refine zw_istore_n hX dX14_done_50 (by decide) ?_
  refine zw_iinc (v := (i3 + (1 : Int32))) hX dX14_done_51 rfl rfl (by decide) ?_
  refine zw_goto (tgt := 4) hX dX14_done_54 (by decide) ?_
  refine zw_sub (lv' := [(0, .ref a0), (1, .int i1), (2, .int (t0 + t1)), (3, .int (i3 + (1 : Int32)))]) (List.forall_mem_cons.mpr ⟨rfl, (List.forall_mem_cons.mpr ⟨rfl, (List.forall_mem_cons.mpr ⟨rfl, (List.forall_mem_cons.mpr ⟨rfl, zs_nil⟩)⟩)⟩)⟩) ?_
  exact hrec _ _ _ h
set_option maxHeartbeats 4000000 in
set_option maxRecDepth 100000 in
theorem zt_X14_done_J48 {p : Program} {l : Launch} {e : Env} {R : Room} {s : State} {m : MethodId} {args : Array Value} {below : List Frame} {meth : Method} {c : Code} {V : zm_V} {mc ms d rc rs : Nat} (hX : zm_X p R s m args meth c RX14 "done" cX14_done 4 zk_E V mc ms) (hr : meth.sig.returnType = (some .int)) (hR : R.frames = d ∧ R.locals = 64 * d) (hd : 1 ≤ d) {N : Nat} {k : Nat → Int32 → Int32 → Int32 → zm_S → Option ((Int32 × zm_S) ⊕ ((Int32) × zm_S))} {a0 : Nat} {i1 : Int32} {i3 : Int32} {t0 : Int32} {res : (Int32 × zm_S) ⊕ ((Int32) × zm_S)} {out : (Int32 × zm_S)}   (hf : ∀ o, res = .inl o → o = out) (hk : ∀ (x2 : Int32) (S' : zm_S), res = .inr (x2, S') → zw p l e R s m args below meth c (vx_MQ below (zm_Qc zk_E V (zo_i out)) (zm_XC zk_E V zo_x) args s mc ms (fun q => V.2.2.2.1 ≤ q)) 4 zk_E V mc ms 57 [(2, .int x2)] [] S' rc rs) (hrec : ∀ (i2' : Int32) (i3' : Int32) (S : zm_S), k a0 i1 i2' i3' S = some res → zw p l e R s m args below meth c (vx_MQ below (zm_Qc zk_E V (zo_i out)) (zm_XC zk_E V zo_x) args s mc ms (fun q => V.2.2.2.1 ≤ q)) 4 zk_E V mc ms 4 [(0, .ref a0), (1, .int i1), (2, .int i2'), (3, .int i3')] [] S rc rs) {S : zm_S} (h : zf_X14_done_J48 N k a0 i1 i3 t0 S = some res) : zw p l e R s m args below meth c (vx_MQ below (zm_Qc zk_E V (zo_i out)) (zm_XC zk_E V zo_x) args s mc ms (fun q => V.2.2.2.1 ≤ q)) 4 zk_E V mc ms 48 [(0, .ref a0), (1, .int i1), (3, .int i3)] [.int t0] S rc rs := by
  unfold zf_X14_done_J48 at h
  refine zw_iconst (v := (0 : Int32)) hX dX14_done_48 (by decide) ?_
  refine zw_sub (lv' := [(0, .ref a0), (1, .int i1), (3, .int i3)]) (List.forall_mem_cons.mpr ⟨rfl, (List.forall_mem_cons.mpr ⟨rfl, (List.forall_mem_cons.mpr ⟨rfl, zs_nil⟩)⟩)⟩) ?_
  exact zt_X14_done_J49 hX hr hR hd hf hk hrec h
set_option maxHeartbeats 4000000 in
set_option maxRecDepth 100000 in
theorem zt_X14_done_J44 {p : Program} {l : Launch} {e : Env} {R : Room} {s : State} {m : MethodId} {args : Array Value} {below : List Frame} {meth : Method} {c : Code} {V : zm_V} {mc ms d rc rs : Nat} (hX : zm_X p R s m args meth c RX14 "done" cX14_done 4 zk_E V mc ms) (hr : meth.sig.returnType = (some .int)) (hR : R.frames = d ∧ R.locals = 64 * d) (hd : 1 ≤ d) {N : Nat} {k : Nat → Int32 → Int32 → Int32 → zm_S → Option ((Int32 × zm_S) ⊕ ((Int32) × zm_S))} {a0 : Nat} {i1 : Int32} {i3 : Int32} {t0 : Int32} {res : (Int32 × zm_S) ⊕ ((Int32) × zm_S)} {out : (Int32 × zm_S)}   (hf : ∀ o, res = .inl o → o = out) (hk : ∀ (x2 : Int32) (S' : zm_S), res = .inr (x2, S') → zw p l e R s m args below meth c (vx_MQ below (zm_Qc zk_E V (zo_i out)) (zm_XC zk_E V zo_x) args s mc ms (fun q => V.2.2.2.1 ≤ q)) 4 zk_E V mc ms 57 [(2, .int x2)] [] S' rc rs) (hrec : ∀ (i2' : Int32) (i3' : Int32) (S : zm_S), k a0 i1 i2' i3' S = some res → zw p l e R s m args below meth c (vx_MQ below (zm_Qc zk_E V (zo_i out)) (zm_XC zk_E V zo_x) args s mc ms (fun q => V.2.2.2.1 ≤ q)) 4 zk_E V mc ms 4 [(0, .ref a0), (1, .int i1), (2, .int i2'), (3, .int i3')] [] S rc rs) {S : zm_S} (h : zf_X14_done_J44 N k a0 i1 i3 t0 S = some res) : zw p l e R s m args below meth c (vx_MQ below (zm_Qc zk_E V (zo_i out)) (zm_XC zk_E V zo_x) args s mc ms (fun q => V.2.2.2.1 ≤ q)) 4 zk_E V mc ms 44 [(0, .ref a0), (1, .int i1), (3, .int i3)] [.int t0] S rc rs := by
  unfold zf_X14_done_J44 at h
  refine zw_iconst (v := (1 : Int32)) hX dX14_done_44 (by decide) ?_
  refine zw_goto (tgt := 49) hX dX14_done_45 (by decide) ?_
  refine zw_sub (lv' := [(0, .ref a0), (1, .int i1), (3, .int i3)]) (List.forall_mem_cons.mpr ⟨rfl, (List.forall_mem_cons.mpr ⟨rfl, (List.forall_mem_cons.mpr ⟨rfl, zs_nil⟩)⟩)⟩) ?_
  exact zt_X14_done_J49 hX hr hR hd hf hk hrec h
set_option maxHeartbeats 4000000 in
set_option maxRecDepth 100000 in
theorem zt_X14_done_L4 {p : Program} {l : Launch} {e : Env} {R : Room} {s : State} {m : MethodId} {args : Array Value} {below : List Frame} {meth : Method} {c : Code} {V : zm_V} {mc ms d rc rs : Nat} (hX : zm_X p R s m args meth c RX14 "done" cX14_done 4 zk_E V mc ms) (hr : meth.sig.returnType = (some .int)) (hR : R.frames = d ∧ R.locals = 64 * d) (hd : 1 ≤ d) {N : Nat} {res : (Int32 × zm_S) ⊕ ((Int32) × zm_S)} {out : (Int32 × zm_S)} (a0 : Nat) (i1 : Int32) (hf : ∀ o, res = .inl o → o = out) (hk : ∀ (x2 : Int32) (S' : zm_S), res = .inr (x2, S') → zw p l e R s m args below meth c (vx_MQ below (zm_Qc zk_E V (zo_i out)) (zm_XC zk_E V zo_x) args s mc ms (fun q => V.2.2.2.1 ≤ q)) 4 zk_E V mc ms 57 [(2, .int x2)] [] S' rc rs) : ∀ (n : Nat) (i2 : Int32) (i3 : Int32) (S : zm_S), zf_X14_done_L4 N n a0 i1 i2 i3 S = some res → zw p l e R s m args below meth c (vx_MQ below (zm_Qc zk_E V (zo_i out)) (zm_XC zk_E V zo_x) args s mc ms (fun q => V.2.2.2.1 ≤ q)) 4 zk_E V mc ms 4 [(0, .ref a0), (1, .int i1), (2, .int i2), (3, .int i3)] [] S rc rs := by
  intro n
  induction n with
  | zero => intro i2 i3 S h; cases h
  | succ n ih =>
    intro i2 i3 S h
    rw [zf_X14_done_L4] at h
    refine zw_iload_n hX dX14_done_4 rfl ?_
    refine zw_bipush (v := (20 : Int32)) hX dX14_done_5 (by decide) ?_
    refine zw_icmp_ge (tgt := 57) hX dX14_done_7 (by decide) (fun c7 => ?_) (fun c7 => ?_)
    · rw [if_pos c7] at h
      refine zw_sub (lv' := [(2, .int i2)]) (List.forall_mem_cons.mpr ⟨rfl, zs_nil⟩) ?_
      exact hk _ _ (Option.some.inj h).symm
    · rw [if_neg c7] at h
      refine zw_iload_n hX dX14_done_10 rfl ?_
      refine zw_aload_n hX dX14_done_11 rfl ?_
      obtain ⟨b1, g, h⟩ := zb_some h
      refine zw_getr hX zl_X14_41 dX14_done_12 g ?_
      refine zw_iload_n hX dX14_done_15 rfl ?_
      obtain ⟨v2, g, h⟩ := zb_some h
      refine zw_xz hX dX14_done_16 g ?_
      refine zw_if_eq (tgt := 48) hX dX14_done_17 (by decide) (fun c17 => ?_) (fun c17 => ?_)
      · rw [if_pos c17] at h
        refine zw_sub (lv' := [(0, .ref a0), (1, .int i1), (3, .int i3)]) (List.forall_mem_cons.mpr ⟨rfl, (List.forall_mem_cons.mpr ⟨rfl, (List.forall_mem_cons.mpr ⟨rfl, zs_nil⟩)⟩)⟩) ?_
        exact zt_X14_done_J48 hX hr hR hd hf hk ih h
      · rw [if_neg c17] at h
        refine zw_aload_n hX dX14_done_20 rfl ?_
        obtain ⟨b3, g, h⟩ := zb_some h
        refine zw_getr hX zl_X14_65 dX14_done_21 g ?_
        refine zw_iload_n hX dX14_done_24 rfl ?_
        obtain ⟨v4, g, h⟩ := zb_some h
        refine zw_xi hX dX14_done_25 g ?_
        refine zw_iconst (v := (2 : Int32)) hX dX14_done_26 (by decide) ?_
        refine zw_icmp_ne (tgt := 48) hX dX14_done_27 (by decide) (fun c27 => ?_) (fun c27 => ?_)
        · rw [if_neg c27] at h
          refine zw_sub (lv' := [(0, .ref a0), (1, .int i1), (3, .int i3)]) (List.forall_mem_cons.mpr ⟨rfl, (List.forall_mem_cons.mpr ⟨rfl, (List.forall_mem_cons.mpr ⟨rfl, zs_nil⟩)⟩)⟩) ?_
          exact zt_X14_done_J48 hX hr hR hd hf hk ih h
        · rw [if_pos c27] at h
          refine zw_iload_n hX dX14_done_30 rfl ?_
          refine zw_if_lt (tgt := 44) hX dX14_done_31 (by decide) (fun c31 => ?_) (fun c31 => ?_)
          · rw [if_pos c31] at h
            refine zw_sub (lv' := [(0, .ref a0), (1, .int i1), (3, .int i3)]) (List.forall_mem_cons.mpr ⟨rfl, (List.forall_mem_cons.mpr ⟨rfl, (List.forall_mem_cons.mpr ⟨rfl, zs_nil⟩)⟩)⟩) ?_
            exact zt_X14_done_J44 hX hr hR hd hf hk ih h
          · rw [if_neg c31] at h
            refine zw_aload_n hX dX14_done_34 rfl ?_
            obtain ⟨b5, g, h⟩ := zb_some h
            refine zw_getr hX zl_X14_44 dX14_done_35 g ?_
            refine zw_iload_n hX dX14_done_38 rfl ?_
            obtain ⟨v6, g, h⟩ := zb_some h
            refine zw_xi hX dX14_done_39 g ?_
            refine zw_iload_n hX dX14_done_40 rfl ?_
            refine zw_icmp_ne (tgt := 48) hX dX14_done_41 (by decide) (fun c41 => ?_) (fun c41 => ?_)
            · rw [if_neg c41] at h
              refine zw_sub (lv' := [(0, .ref a0), (1, .int i1), (3, .int i3)]) (List.forall_mem_cons.mpr ⟨rfl, (List.forall_mem_cons.mpr ⟨rfl, (List.forall_mem_cons.mpr ⟨rfl, zs_nil⟩)⟩)⟩) ?_
              exact zt_X14_done_J48 hX hr hR hd hf hk ih h
            · rw [if_pos c41] at h
              refine zw_sub (lv' := [(0, .ref a0), (1, .int i1), (3, .int i3)]) (List.forall_mem_cons.mpr ⟨rfl, (List.forall_mem_cons.mpr ⟨rfl, (List.forall_mem_cons.mpr ⟨rfl, zs_nil⟩)⟩)⟩) ?_
              exact zt_X14_done_J44 hX hr hR hd hf hk ih h
set_option maxHeartbeats 4000000 in
set_option maxRecDepth 100000 in
theorem zt_X14_done {l : Launch} {V : zm_V} {N : Nat} {S : zm_S} {out : (Int32 × zm_S)} {d : Nat} {a0 : Nat} {i1 : Int32} (hd : 1 ≤ d) (h : zf_X14_done N a0 i1 S = some out) : zm_Met l zk_E V yX14_done (.code yX14_done cX14_done 4 (some .int)) d [.ref a0, .int i1] S 0 0 (zo_i out) zo_x := by
  refine zm_of (by decide +kernel) (Nat.le_of_ble_eq_true rfl) ?_
  intro p e R s m args below meth c hRR hX hr hxt
  have hR : R.frames = d ∧ R.locals = 64 * d := by rw [hRR]; exact ⟨rfl, rfl⟩
  have hX : zm_X p R s m args meth c RX14 "done" cX14_done 4 zk_E V 0 0 := hX
  unfold zf_X14_done at h
  refine zw_sub (lv' := [(0, .ref a0), (1, .int i1)]) (List.forall_mem_cons.mpr ⟨rfl, (List.forall_mem_cons.mpr ⟨rfl, zs_nil⟩)⟩) ?_
  refine zw_iconst (v := (0 : Int32)) hX dX14_done_0 (by decide) ?_
  refine zw_istore_n hX dX14_done_1 (by decide) ?_
  refine zw_iconst (v := (0 : Int32)) hX dX14_done_2 (by decide) ?_
  refine zw_istore_n hX dX14_done_3 (by decide) ?_
  obtain ⟨r, g, h⟩ := zb_some h
  refine zw_sub (lv' := [(0, .ref a0), (1, .int i1), (2, .int (0 : Int32)), (3, .int (0 : Int32))]) (List.forall_mem_cons.mpr ⟨rfl, (List.forall_mem_cons.mpr ⟨rfl, (List.forall_mem_cons.mpr ⟨rfl, (List.forall_mem_cons.mpr ⟨rfl, zs_nil⟩)⟩)⟩)⟩) ?_
  refine zt_X14_done_L4 hX hr hR hd (res := r) (out := out) a0 i1 ?_ ?_ N _ _ _ g
  · intro o ho
    subst ho
    exact Option.some.inj h
  · intro v8 S7 hx
    subst hx
    try dsimp only at h
    refine zw_iload_n hX dX14_done_57 rfl ?_
    obtain rfl := Option.some.inj h
    exact zw_iret hX hr dX14_done_58 rfl ⟨rfl, rfl⟩
set_option maxHeartbeats 4000000 in
set_option maxRecDepth 100000 in
theorem zt_X14_act {l : Launch} {V : zm_V} {N : Nat} {S : zm_S} {out : (Int32 × zm_S)} {d : Nat} {a0 : Nat} {i1 : Int32} {i2 : Int32} (hd : 1 ≤ d) (h : zf_X14_act N a0 i1 i2 S = some out) : zm_Met l zk_E V yX14_act (.code yX14_act cX14_act 3 (some .int)) d [.ref a0, .int i1, .int i2] S 0 0 (zo_i out) zo_x := by
  refine zm_of (by decide +kernel) (Nat.le_of_ble_eq_true rfl) ?_
  intro p e R s m args below meth c hRR hX hr hxt
  have hR : R.frames = d ∧ R.locals = 64 * d := by rw [hRR]; exact ⟨rfl, rfl⟩
  have hX : zm_X p R s m args meth c RX14 "act" cX14_act 3 zk_E V 0 0 := hX
  unfold zf_X14_act at h
  refine zw_sub (lv' := [(0, .ref a0), (1, .int i1), (2, .int i2)]) (List.forall_mem_cons.mpr ⟨rfl, (List.forall_mem_cons.mpr ⟨rfl, (List.forall_mem_cons.mpr ⟨rfl, zs_nil⟩)⟩)⟩) ?_
  refine zw_iload_n hX dX14_act_0 rfl ?_
  refine zw_if_ne (tgt := 13) hX dX14_act_1 (by decide) (fun c1 => ?_) (fun c1 => ?_)
  · rw [if_neg c1] at h
    refine zw_iload_n hX dX14_act_13 rfl ?_
    refine zw_iconst (v := (1 : Int32)) hX dX14_act_14 (by decide) ?_
    refine zw_icmp_ne (tgt := 27) hX dX14_act_15 (by decide) (fun c15 => ?_) (fun c15 => ?_)
    · rw [if_neg c15] at h
      refine zw_iload_n hX dX14_act_27 rfl ?_
      refine zw_iconst (v := (2 : Int32)) hX dX14_act_28 (by decide) ?_
      refine zw_icmp_ne (tgt := 41) hX dX14_act_29 (by decide) (fun c29 => ?_) (fun c29 => ?_)
      · rw [if_neg c29] at h
        refine zw_iload_n hX dX14_act_41 rfl ?_
        refine zw_iconst (v := (3 : Int32)) hX dX14_act_42 (by decide) ?_
        refine zw_icmp_ne (tgt := 55) hX dX14_act_43 (by decide) (fun c43 => ?_) (fun c43 => ?_)
        · rw [if_neg c43] at h
          refine zw_iload_n hX dX14_act_55 rfl ?_
          refine zw_iconst (v := (4 : Int32)) hX dX14_act_56 (by decide) ?_
          refine zw_icmp_ne (tgt := 69) hX dX14_act_57 (by decide) (fun c57 => ?_) (fun c57 => ?_)
          · rw [if_neg c57] at h
            refine zw_aload_n hX dX14_act_69 rfl ?_
            obtain ⟨b1, g, h⟩ := zb_some h
            refine zw_getr hX zl_X14_53 dX14_act_70 g ?_
            refine zw_iload_n hX dX14_act_73 rfl ?_
            obtain ⟨v2, g, h⟩ := zb_some h
            refine zw_xz hX dX14_act_74 g ?_
            refine zw_if_eq (tgt := 82) hX dX14_act_75 (by decide) (fun c75 => ?_) (fun c75 => ?_)
            · rw [if_pos c75] at h
              refine zw_iconst (v := (0 : Int32)) hX dX14_act_82 (by decide) ?_
              obtain rfl := Option.some.inj h
              exact zw_iret hX hr dX14_act_83 rfl ⟨rfl, rfl⟩
            · rw [if_neg c75] at h
              refine zw_iconst (v := (1 : Int32)) hX dX14_act_78 (by decide) ?_
              refine zw_goto (tgt := 83) hX dX14_act_79 (by decide) ?_
              obtain rfl := Option.some.inj h
              exact zw_iret hX hr dX14_act_83 rfl ⟨rfl, rfl⟩
          · rw [if_pos c57] at h
            refine zw_aload_n hX dX14_act_60 rfl ?_
            obtain ⟨b3, g, h⟩ := zb_some h
            refine zw_getr hX zl_X14_50 dX14_act_61 g ?_
            refine zw_iload_n hX dX14_act_64 rfl ?_
            obtain ⟨v4, g, h⟩ := zb_some h
            refine zw_xi hX dX14_act_65 g ?_
            refine zw_goto (tgt := 83) hX dX14_act_66 (by decide) ?_
            obtain rfl := Option.some.inj h
            exact zw_iret hX hr dX14_act_83 rfl ⟨rfl, rfl⟩
        · rw [if_pos c43] at h
          refine zw_aload_n hX dX14_act_46 rfl ?_
          obtain ⟨b5, g, h⟩ := zb_some h
          refine zw_getr hX zl_X14_47 dX14_act_47 g ?_
          refine zw_iload_n hX dX14_act_50 rfl ?_
          obtain ⟨v6, g, h⟩ := zb_some h
          refine zw_xi hX dX14_act_51 g ?_
          refine zw_goto (tgt := 83) hX dX14_act_52 (by decide) ?_
          obtain rfl := Option.some.inj h
          exact zw_iret hX hr dX14_act_83 rfl ⟨rfl, rfl⟩
      · rw [if_pos c29] at h
        refine zw_aload_n hX dX14_act_32 rfl ?_
        obtain ⟨b7, g, h⟩ := zb_some h
        refine zw_getr hX zl_X14_44 dX14_act_33 g ?_
        refine zw_iload_n hX dX14_act_36 rfl ?_
        obtain ⟨v8, g, h⟩ := zb_some h
        refine zw_xi hX dX14_act_37 g ?_
        refine zw_goto (tgt := 83) hX dX14_act_38 (by decide) ?_
        obtain rfl := Option.some.inj h
        exact zw_iret hX hr dX14_act_83 rfl ⟨rfl, rfl⟩
    · rw [if_pos c15] at h
      refine zw_aload_n hX dX14_act_18 rfl ?_
      obtain ⟨b9, g, h⟩ := zb_some h
      refine zw_getr hX zl_X14_68 dX14_act_19 g ?_
      refine zw_iload_n hX dX14_act_22 rfl ?_
      obtain ⟨v10, g, h⟩ := zb_some h
      refine zw_xi hX dX14_act_23 g ?_
      refine zw_goto (tgt := 83) hX dX14_act_24 (by decide) ?_
      obtain rfl := Option.some.inj h
      exact zw_iret hX hr dX14_act_83 rfl ⟨rfl, rfl⟩
  · rw [if_pos c1] at h
    refine zw_aload_n hX dX14_act_4 rfl ?_
    obtain ⟨b11, g, h⟩ := zb_some h
    refine zw_getr hX zl_X14_65 dX14_act_5 g ?_
    refine zw_iload_n hX dX14_act_8 rfl ?_
    obtain ⟨v12, g, h⟩ := zb_some h
    refine zw_xi hX dX14_act_9 g ?_
    refine zw_goto (tgt := 83) hX dX14_act_10 (by decide) ?_
    obtain rfl := Option.some.inj h
    exact zw_iret hX hr dX14_act_83 rfl ⟨rfl, rfl⟩
set_option maxHeartbeats 4000000 in
set_option maxRecDepth 100000 in
theorem zt_X14_event {l : Launch} {V : zm_V} {N : Nat} {S : zm_S} {out : (Int32 × zm_S)} {d : Nat} {a0 : Nat} {i1 : Int32} {i2 : Int32} (hd : 1 ≤ d) (h : zf_X14_event N a0 i1 i2 S = some out) : zm_Met l zk_E V yX14_event (.code yX14_event cX14_event 4 (some .int)) d [.ref a0, .int i1, .int i2] S 0 0 (zo_i out) zo_x := by
  refine zm_of (by decide +kernel) (Nat.le_of_ble_eq_true rfl) ?_
  intro p e R s m args below meth c hRR hX hr hxt
  have hR : R.frames = d ∧ R.locals = 64 * d := by rw [hRR]; exact ⟨rfl, rfl⟩
  have hX : zm_X p R s m args meth c RX14 "event" cX14_event 4 zk_E V 0 0 := hX
  unfold zf_X14_event at h
  refine zw_sub (lv' := [(0, .ref a0), (1, .int i1), (2, .int i2)]) (List.forall_mem_cons.mpr ⟨rfl, (List.forall_mem_cons.mpr ⟨rfl, (List.forall_mem_cons.mpr ⟨rfl, zs_nil⟩)⟩)⟩) ?_
  refine zw_aload_n hX dX14_event_0 rfl ?_
  obtain ⟨v1, g, h⟩ := zb_some h
  refine zw_geti hX zl_X14_221 dX14_event_1 g ?_
  refine zw_iconst (v := (1 : Int32)) hX dX14_event_4 (by decide) ?_
  refine zw_isub hX dX14_event_5 ?_
  refine zw_iload_n hX dX14_event_6 rfl ?_
  refine zw_isub hX dX14_event_7 ?_
  refine zw_istore_n hX dX14_event_8 (by decide) ?_
  refine zw_iload_n hX dX14_event_9 rfl ?_
  refine zw_if_ne (tgt := 22) hX dX14_event_10 (by decide) (fun c10 => ?_) (fun c10 => ?_)
  · rw [if_neg c10] at h
    refine zw_iload_n hX dX14_event_22 rfl ?_
    refine zw_iconst (v := (1 : Int32)) hX dX14_event_23 (by decide) ?_
    refine zw_icmp_ne (tgt := 36) hX dX14_event_24 (by decide) (fun c24 => ?_) (fun c24 => ?_)
    · rw [if_neg c24] at h
      refine zw_aload_n hX dX14_event_36 rfl ?_
      obtain ⟨b2, g, h⟩ := zb_some h
      refine zw_getr hX zl_X14_83 dX14_event_37 g ?_
      refine zw_iload_n hX dX14_event_40 rfl ?_
      obtain ⟨v3, g, h⟩ := zb_some h
      refine zw_xi hX dX14_event_41 g ?_
      obtain rfl := Option.some.inj h
      exact zw_iret hX hr dX14_event_42 rfl ⟨rfl, rfl⟩
    · rw [if_pos c24] at h
      refine zw_aload_n hX dX14_event_27 rfl ?_
      obtain ⟨b4, g, h⟩ := zb_some h
      refine zw_getr hX zl_X14_80 dX14_event_28 g ?_
      refine zw_iload_n hX dX14_event_31 rfl ?_
      obtain ⟨v5, g, h⟩ := zb_some h
      refine zw_xi hX dX14_event_32 g ?_
      refine zw_goto (tgt := 42) hX dX14_event_33 (by decide) ?_
      obtain rfl := Option.some.inj h
      exact zw_iret hX hr dX14_event_42 rfl ⟨rfl, rfl⟩
  · rw [if_pos c10] at h
    refine zw_aload_n hX dX14_event_13 rfl ?_
    obtain ⟨b6, g, h⟩ := zb_some h
    refine zw_getr hX zl_X14_77 dX14_event_14 g ?_
    refine zw_iload_n hX dX14_event_17 rfl ?_
    obtain ⟨v7, g, h⟩ := zb_some h
    refine zw_xi hX dX14_event_18 g ?_
    refine zw_goto (tgt := 42) hX dX14_event_19 (by decide) ?_
    obtain rfl := Option.some.inj h
    exact zw_iret hX hr dX14_event_42 rfl ⟨rfl, rfl⟩
set_option maxHeartbeats 4000000 in
set_option maxRecDepth 100000 in
theorem zt_X15_init {l : Launch} {V : zm_V} {N : Nat} {S : zm_S} {out : (Unit × zm_S)} {d : Nat} {a0 : Nat} (hd : 2 ≤ d) (h : zf_X15_init N a0 S = some out) : zm_Met l zk_E V yX15_init (.code yX15_init cX15_init 1 none) d [.ref a0] S 23 3600 (zo_v out) zo_x := by
  refine zm_of (by decide +kernel) (Nat.le_of_ble_eq_true rfl) ?_
  intro p e R s m args below meth c hRR hX hr hxt
  have hR : R.frames = d ∧ R.locals = 64 * d := by rw [hRR]; exact ⟨rfl, rfl⟩
  have hX : zm_X p R s m args meth c RX15 "<init>" cX15_init 1 zk_E V 23 3600 := hX
  unfold zf_X15_init at h
  refine zw_sub (lv' := [(0, .ref a0)]) (List.forall_mem_cons.mpr ⟨rfl, zs_nil⟩) ?_
  refine zw_aload_n hX dX15_init_0 rfl ?_
  refine zw_objInit hX zl_X15_1.1 zl_X15_1.2.1 zl_X15_1.2.2 dX15_init_1 (by omega) (by show 0 + 12 ≤ R.locals; omega) ?_
  refine zw_aload_n hX dX15_init_4 rfl ?_
  refine zw_sipush (v := (800 : Int32)) hX dX15_init_5 (by decide) ?_
  obtain ⟨S1, g, h⟩ := zb_some h
  refine zw_ni (b := 800) hX zk_ai dX15_init_8 (by omega) (by omega) (by decide) g ?_
  obtain ⟨S2, g, h⟩ := zb_some h
  refine zw_putvF hX zl_X15_7 zt_15_0 dX15_init_10 rfl rfl g ?_
  refine zw_aload_n hX dX15_init_13 rfl ?_
  refine zw_bipush (v := (40 : Int32)) hX dX15_init_14 (by decide) ?_
  obtain ⟨S3, g, h⟩ := zb_some h
  refine zw_nl (b := 40) hX zk_al dX15_init_16 (by omega) (by omega) (by decide) g ?_
  obtain ⟨S4, g, h⟩ := zb_some h
  refine zw_putvF hX zl_X15_13 zt_15_3 dX15_init_18 rfl rfl g ?_
  refine zw_aload_n hX dX15_init_21 rfl ?_
  refine zw_bipush (v := (40 : Int32)) hX dX15_init_22 (by decide) ?_
  obtain ⟨S5, g, h⟩ := zb_some h
  refine zw_ni (b := 40) hX zk_ai dX15_init_24 (by omega) (by omega) (by decide) g ?_
  obtain ⟨S6, g, h⟩ := zb_some h
  refine zw_putvF hX zl_X15_17 zt_15_4 dX15_init_26 rfl rfl g ?_
  refine zw_aload_n hX dX15_init_29 rfl ?_
  refine zw_bipush (v := (24 : Int32)) hX dX15_init_30 (by decide) ?_
  obtain ⟨S7, g, h⟩ := zb_some h
  refine zw_nl (b := 24) hX zk_al dX15_init_32 (by omega) (by omega) (by decide) g ?_
  obtain ⟨S8, g, h⟩ := zb_some h
  refine zw_putvF hX zl_X15_20 zt_15_6 dX15_init_34 rfl rfl g ?_
  refine zw_aload_n hX dX15_init_37 rfl ?_
  refine zw_bipush (v := (24 : Int32)) hX dX15_init_38 (by decide) ?_
  obtain ⟨S9, g, h⟩ := zb_some h
  refine zw_ni (b := 24) hX zk_ai dX15_init_40 (by omega) (by omega) (by decide) g ?_
  obtain ⟨S10, g, h⟩ := zb_some h
  refine zw_putvF hX zl_X15_23 zt_15_7 dX15_init_42 rfl rfl g ?_
  refine zw_aload_n hX dX15_init_45 rfl ?_
  refine zw_bipush (v := (24 : Int32)) hX dX15_init_46 (by decide) ?_
  obtain ⟨S11, g, h⟩ := zb_some h
  refine zw_ni (b := 24) hX zk_ai dX15_init_48 (by omega) (by omega) (by decide) g ?_
  obtain ⟨S12, g, h⟩ := zb_some h
  refine zw_putvF hX zl_X15_26 zt_15_8 dX15_init_50 rfl rfl g ?_
  refine zw_aload_n hX dX15_init_53 rfl ?_
  refine zw_bipush (v := (24 : Int32)) hX dX15_init_54 (by decide) ?_
  obtain ⟨S13, g, h⟩ := zb_some h
  refine zw_ni (b := 24) hX zk_ai dX15_init_56 (by omega) (by omega) (by decide) g ?_
  obtain ⟨S14, g, h⟩ := zb_some h
  refine zw_putvF hX zl_X15_29 zt_15_9 dX15_init_58 rfl rfl g ?_
  refine zw_aload_n hX dX15_init_61 rfl ?_
  refine zw_bipush (v := (120 : Int32)) hX dX15_init_62 (by decide) ?_
  obtain ⟨S15, g, h⟩ := zb_some h
  refine zw_ni (b := 120) hX zk_ai dX15_init_64 (by omega) (by omega) (by decide) g ?_
  obtain ⟨S16, g, h⟩ := zb_some h
  refine zw_putvF hX zl_X15_32 zt_15_11 dX15_init_66 rfl rfl g ?_
  refine zw_aload_n hX dX15_init_69 rfl ?_
  refine zw_bipush (v := (120 : Int32)) hX dX15_init_70 (by decide) ?_
  obtain ⟨S17, g, h⟩ := zb_some h
  refine zw_ni (b := 120) hX zk_ai dX15_init_72 (by omega) (by omega) (by decide) g ?_
  obtain ⟨S18, g, h⟩ := zb_some h
  refine zw_putvF hX zl_X15_35 zt_15_12 dX15_init_74 rfl rfl g ?_
  refine zw_aload_n hX dX15_init_77 rfl ?_
  refine zw_bipush (v := (120 : Int32)) hX dX15_init_78 (by decide) ?_
  obtain ⟨S19, g, h⟩ := zb_some h
  refine zw_ni (b := 120) hX zk_ai dX15_init_80 (by omega) (by omega) (by decide) g ?_
  obtain ⟨S20, g, h⟩ := zb_some h
  refine zw_putvF hX zl_X15_38 zt_15_13 dX15_init_82 rfl rfl g ?_
  refine zw_aload_n hX dX15_init_85 rfl ?_
  refine zw_bipush (v := (120 : Int32)) hX dX15_init_86 (by decide) ?_
  obtain ⟨S21, g, h⟩ := zb_some h
  refine zw_ni (b := 120) hX zk_ai dX15_init_88 (by omega) (by omega) (by decide) g ?_
  obtain ⟨S22, g, h⟩ := zb_some h
  refine zw_putvF hX zl_X15_41 zt_15_14 dX15_init_90 rfl rfl g ?_
  refine zw_aload_n hX dX15_init_93 rfl ?_
  refine zw_sipush (v := (800 : Int32)) hX dX15_init_94 (by decide) ?_
  obtain ⟨S23, g, h⟩ := zb_some h
  refine zw_ni (b := 800) hX zk_ai dX15_init_97 (by omega) (by omega) (by decide) g ?_
  obtain ⟨S24, g, h⟩ := zb_some h
  refine zw_putvF hX zl_X15_44 zt_15_16 dX15_init_99 rfl rfl g ?_
  refine zw_aload_n hX dX15_init_102 rfl ?_
  refine zw_sipush (v := (800 : Int32)) hX dX15_init_103 (by decide) ?_
  obtain ⟨S25, g, h⟩ := zb_some h
  refine zw_nl (b := 800) hX zk_al dX15_init_106 (by omega) (by omega) (by decide) g ?_
  obtain ⟨S26, g, h⟩ := zb_some h
  refine zw_putvF hX zl_X15_47 zt_15_17 dX15_init_108 rfl rfl g ?_
  refine zw_aload_n hX dX15_init_111 rfl ?_
  refine zw_iconst (v := (-1 : Int32)) hX dX15_init_112 (by decide) ?_
  obtain ⟨S27, g, h⟩ := zb_some h
  refine zw_putv hX zl_X15_50 zt_15_18 dX15_init_113 rfl rfl g ?_
  refine zw_aload_n hX dX15_init_116 rfl ?_
  refine zw_bipush (v := (12 : Int32)) hX dX15_init_117 (by decide) ?_
  obtain ⟨S28, g, h⟩ := zb_some h
  refine zw_ni (b := 12) hX zk_ai dX15_init_119 (by omega) (by omega) (by decide) g ?_
  obtain ⟨S29, g, h⟩ := zb_some h
  refine zw_putvF hX zl_X15_54 zt_15_19 dX15_init_121 rfl rfl g ?_
  refine zw_aload_n hX dX15_init_124 rfl ?_
  refine zw_bipush (v := (12 : Int32)) hX dX15_init_125 (by decide) ?_
  obtain ⟨S30, g, h⟩ := zb_some h
  refine zw_nl (b := 12) hX zk_al dX15_init_127 (by omega) (by omega) (by decide) g ?_
  obtain ⟨S31, g, h⟩ := zb_some h
  refine zw_putvF hX zl_X15_57 zt_15_20 dX15_init_129 rfl rfl g ?_
  refine zw_aload_n hX dX15_init_132 rfl ?_
  refine zw_bipush (v := (12 : Int32)) hX dX15_init_133 (by decide) ?_
  obtain ⟨S32, g, h⟩ := zb_some h
  refine zw_nl (b := 12) hX zk_al dX15_init_135 (by omega) (by omega) (by decide) g ?_
  obtain ⟨S33, g, h⟩ := zb_some h
  refine zw_putvF hX zl_X15_60 zt_15_21 dX15_init_137 rfl rfl g ?_
  refine zw_aload_n hX dX15_init_140 rfl ?_
  refine zw_bipush (v := (12 : Int32)) hX dX15_init_141 (by decide) ?_
  obtain ⟨S34, g, h⟩ := zb_some h
  refine zw_nl (b := 12) hX zk_al dX15_init_143 (by omega) (by omega) (by decide) g ?_
  obtain ⟨S35, g, h⟩ := zb_some h
  refine zw_putvF hX zl_X15_63 zt_15_22 dX15_init_145 rfl rfl g ?_
  refine zw_aload_n hX dX15_init_148 rfl ?_
  refine zw_bipush (v := (12 : Int32)) hX dX15_init_149 (by decide) ?_
  obtain ⟨S36, g, h⟩ := zb_some h
  refine zw_nl (b := 12) hX zk_al dX15_init_151 (by omega) (by omega) (by decide) g ?_
  obtain ⟨S37, g, h⟩ := zb_some h
  refine zw_putvF hX zl_X15_66 zt_15_23 dX15_init_153 rfl rfl g ?_
  refine zw_aload_n hX dX15_init_156 rfl ?_
  refine zw_bipush (v := (12 : Int32)) hX dX15_init_157 (by decide) ?_
  obtain ⟨S38, g, h⟩ := zb_some h
  refine zw_ni (b := 12) hX zk_ai dX15_init_159 (by omega) (by omega) (by decide) g ?_
  obtain ⟨S39, g, h⟩ := zb_some h
  refine zw_putvF hX zl_X15_69 zt_15_24 dX15_init_161 rfl rfl g ?_
  refine zw_aload_n hX dX15_init_164 rfl ?_
  refine zw_bipush (v := (12 : Int32)) hX dX15_init_165 (by decide) ?_
  obtain ⟨S40, g, h⟩ := zb_some h
  refine zw_nl (b := 12) hX zk_al dX15_init_167 (by omega) (by omega) (by decide) g ?_
  obtain ⟨S41, g, h⟩ := zb_some h
  refine zw_putvF hX zl_X15_72 zt_15_25 dX15_init_169 rfl rfl g ?_
  refine zw_aload_n hX dX15_init_172 rfl ?_
  refine zw_sipush (v := (200 : Int32)) hX dX15_init_173 (by decide) ?_
  obtain ⟨S42, g, h⟩ := zb_some h
  refine zw_ni (b := 200) hX zk_ai dX15_init_176 (by omega) (by omega) (by decide) g ?_
  obtain ⟨S43, g, h⟩ := zb_some h
  refine zw_putvF hX zl_X15_75 zt_15_35 dX15_init_178 rfl rfl g ?_
  refine zw_aload_n hX dX15_init_181 rfl ?_
  refine zw_sipush (v := (130 : Int32)) hX dX15_init_182 (by decide) ?_
  obtain ⟨S44, g, h⟩ := zb_some h
  refine zw_nl (b := 130) hX zk_al dX15_init_185 (by omega) (by omega) (by decide) g ?_
  obtain ⟨S45, g, h⟩ := zb_some h
  refine zw_putvF hX zl_X15_78 zt_15_37 dX15_init_187 rfl rfl g ?_
  refine zw_aload_n hX dX15_init_190 rfl ?_
  refine zw_sipush (v := (130 : Int32)) hX dX15_init_191 (by decide) ?_
  obtain ⟨S46, g, h⟩ := zb_some h
  refine zw_nl (b := 130) hX zk_al dX15_init_194 (by omega) (by omega) (by decide) g ?_
  obtain ⟨S47, g, h⟩ := zb_some h
  refine zw_putvF hX zl_X15_81 zt_15_38 dX15_init_196 rfl rfl g ?_
  obtain rfl := Option.some.inj h
  exact zw_vret hX hr dX15_init_199 ⟨rfl, rfl⟩
set_option maxHeartbeats 4000000 in
set_option maxRecDepth 100000 in
theorem zt_X15_byteOf {l : Launch} {V : zm_V} {N : Nat} {S : zm_S} {out : (Int32 × zm_S)} {d : Nat} {j0 : Int64} {i2 : Int32} (hd : 1 ≤ d) (h : zf_X15_byteOf N j0 i2 S = some out) : zm_Met l zk_E V yX15_byteOf (.code yX15_byteOf cX15_byteOf 3 (some .int)) d [.long j0, .int i2] S 0 0 (zo_i out) zo_x := by
  refine zm_of (by decide +kernel) (Nat.le_of_ble_eq_true rfl) ?_
  intro p e R s m args below meth c hRR hX hr hxt
  have hR : R.frames = d ∧ R.locals = 64 * d := by rw [hRR]; exact ⟨rfl, rfl⟩
  have hX : zm_X p R s m args meth c RX15 "byteOf" cX15_byteOf 3 zk_E V 0 0 := hX
  unfold zf_X15_byteOf at h
  refine zw_sub (lv' := [(0, .long j0), (2, .int i2)]) (List.forall_mem_cons.mpr ⟨rfl, (List.forall_mem_cons.mpr ⟨rfl, zs_nil⟩)⟩) ?_
  refine zw_lload_n hX dX15_byteOf_0 rfl ?_
  refine zw_bipush (v := (8 : Int32)) hX dX15_byteOf_1 (by decide) ?_
  refine zw_iload_n hX dX15_byteOf_3 rfl ?_
  refine zw_imul hX dX15_byteOf_4 ?_
  refine zw_lshr hX dX15_byteOf_5 ?_
  refine zw_ldc2 (v := (255 : Int64)) hX dX15_byteOf_6 zl_X15_84 ?_
  refine zw_land hX dX15_byteOf_9 ?_
  refine zw_l2i hX dX15_byteOf_10 ?_
  obtain rfl := Option.some.inj h
  exact zw_iret hX hr dX15_byteOf_11 rfl ⟨rfl, rfl⟩
set_option maxHeartbeats 4000000 in
set_option maxRecDepth 100000 in
theorem zt_X15_characters_J49 {p : Program} {l : Launch} {e : Env} {R : Room} {s : State} {m : MethodId} {args : Array Value} {below : List Frame} {meth : Method} {c : Code} {V : zm_V} {mc ms d rc rs : Nat} (hX : zm_X p R s m args meth c RX15 "characters" cX15_characters 5 zk_E V mc ms) (hr : meth.sig.returnType = (some .int)) (hR : R.frames = d ∧ R.locals = 64 * d) (hd : 2 ≤ d) {N : Nat} {k : Int64 → Int32 → Int32 → zm_S → Option ((Int32 × zm_S) ⊕ ((Int32) × zm_S))} {j0 : Int64} {i3 : Int32} {t0 : Int32} {t1 : Int32} {res : (Int32 × zm_S) ⊕ ((Int32) × zm_S)} {out : (Int32 × zm_S)}   (hf : ∀ o, res = .inl o → o = out) (hk : ∀ (x2 : Int32) (S' : zm_S), res = .inr (x2, S') → zw p l e R s m args below meth c (vx_MQ below (zm_Qc zk_E V (zo_i out)) (zm_XC zk_E V zo_x) args s mc ms (fun q => V.2.2.2.1 ≤ q)) 5 zk_E V mc ms 57 [(2, .int x2)] [] S' rc rs) (hrec : ∀ (i2' : Int32) (i3' : Int32) (S : zm_S), k j0 i2' i3' S = some res → zw p l e R s m args below meth c (vx_MQ below (zm_Qc zk_E V (zo_i out)) (zm_XC zk_E V zo_x) args s mc ms (fun q => V.2.2.2.1 ≤ q)) 5 zk_E V mc ms 4 [(0, .long j0), (2, .int i2'), (3, .int i3')] [] S rc rs) {S : zm_S} (h : zf_X15_characters_J49 N k j0 i3 t0 t1 S = some res) : zw p l e R s m args below meth c (vx_MQ below (zm_Qc zk_E V (zo_i out)) (zm_XC zk_E V zo_x) args s mc ms (fun q => V.2.2.2.1 ≤ q)) 5 zk_E V mc ms 49 [(0, .long j0), (3, .int i3)] [.int t1, .int t0] S rc rs := by
  unfold zf_X15_characters_J49 at h
  refine zw_iadd hX dX15_characters_49 ?_
  refine zw_istore_n hX dX15_characters_50 (by decide) ?_
  refine zw_iinc (v := (i3 + (1 : Int32))) hX dX15_characters_51 rfl rfl (by decide) ?_
  refine zw_goto (tgt := 4) hX dX15_characters_54 (by decide) ?_
  refine zw_sub (lv' := [(0, .long j0), (2, .int (t0 + t1)), (3, .int (i3 + (1 : Int32)))]) (List.forall_mem_cons.mpr ⟨rfl, (List.forall_mem_cons.mpr ⟨rfl, (List.forall_mem_cons.mpr ⟨rfl, zs_nil⟩)⟩)⟩) ?_
  exact hrec _ _ _ h
set_option maxHeartbeats 4000000 in
set_option maxRecDepth 100000 in
theorem zt_X15_characters_J29 {p : Program} {l : Launch} {e : Env} {R : Room} {s : State} {m : MethodId} {args : Array Value} {below : List Frame} {meth : Method} {c : Code} {V : zm_V} {mc ms d rc rs : Nat} (hX : zm_X p R s m args meth c RX15 "characters" cX15_characters 5 zk_E V mc ms) (hr : meth.sig.returnType = (some .int)) (hR : R.frames = d ∧ R.locals = 64 * d) (hd : 2 ≤ d) {N : Nat} {k : Int64 → Int32 → Int32 → zm_S → Option ((Int32 × zm_S) ⊕ ((Int32) × zm_S))} {j0 : Int64} {i2 : Int32} {i3 : Int32} {i4 : Int32} {res : (Int32 × zm_S) ⊕ ((Int32) × zm_S)} {out : (Int32 × zm_S)}   (hf : ∀ o, res = .inl o → o = out) (hk : ∀ (x2 : Int32) (S' : zm_S), res = .inr (x2, S') → zw p l e R s m args below meth c (vx_MQ below (zm_Qc zk_E V (zo_i out)) (zm_XC zk_E V zo_x) args s mc ms (fun q => V.2.2.2.1 ≤ q)) 5 zk_E V mc ms 57 [(2, .int x2)] [] S' rc rs) (hrec : ∀ (i2' : Int32) (i3' : Int32) (S : zm_S), k j0 i2' i3' S = some res → zw p l e R s m args below meth c (vx_MQ below (zm_Qc zk_E V (zo_i out)) (zm_XC zk_E V zo_x) args s mc ms (fun q => V.2.2.2.1 ≤ q)) 5 zk_E V mc ms 4 [(0, .long j0), (2, .int i2'), (3, .int i3')] [] S rc rs) {S : zm_S} (h : zf_X15_characters_J29 N k j0 i2 i3 i4 S = some res) : zw p l e R s m args below meth c (vx_MQ below (zm_Qc zk_E V (zo_i out)) (zm_XC zk_E V zo_x) args s mc ms (fun q => V.2.2.2.1 ≤ q)) 5 zk_E V mc ms 29 [(0, .long j0), (2, .int i2), (3, .int i3), (4, .int i4)] [] S rc rs := by
  unfold zf_X15_characters_J29 at h
  refine zw_iload hX dX15_characters_29 rfl ?_
  refine zw_bipush (v := (126 : Int32)) hX dX15_characters_31 (by decide) ?_
  refine zw_icmp_le (tgt := 38) hX dX15_characters_33 (by decide) (fun c33 => ?_) (fun c33 => ?_)
  · rw [if_pos c33] at h
    refine zw_iload_n hX dX15_characters_38 rfl ?_
    refine zw_iload hX dX15_characters_39 rfl ?_
    refine zw_if_le (tgt := 48) hX dX15_characters_41 (by decide) (fun c41 => ?_) (fun c41 => ?_)
    · rw [if_pos c41] at h
      refine zw_iconst (v := (0 : Int32)) hX dX15_characters_48 (by decide) ?_
      refine zw_sub (lv' := [(0, .long j0), (3, .int i3)]) (List.forall_mem_cons.mpr ⟨rfl, (List.forall_mem_cons.mpr ⟨rfl, zs_nil⟩)⟩) ?_
      exact zt_X15_characters_J49 hX hr hR hd hf hk hrec h
    · rw [if_neg c41] at h
      refine zw_iconst (v := (1 : Int32)) hX dX15_characters_44 (by decide) ?_
      refine zw_goto (tgt := 49) hX dX15_characters_45 (by decide) ?_
      refine zw_sub (lv' := [(0, .long j0), (3, .int i3)]) (List.forall_mem_cons.mpr ⟨rfl, (List.forall_mem_cons.mpr ⟨rfl, zs_nil⟩)⟩) ?_
      exact zt_X15_characters_J49 hX hr hR hd hf hk hrec h
  · rw [if_neg c33] at h
    refine zw_iconst (v := (-1 : Int32)) hX dX15_characters_36 (by decide) ?_
    have hz := hf _ (Option.some.inj h).symm
    subst hz
    exact zw_iret hX hr dX15_characters_37 rfl ⟨rfl, rfl⟩
set_option maxHeartbeats 4000000 in
set_option maxRecDepth 100000 in
theorem zt_X15_characters_L4 {p : Program} {l : Launch} {e : Env} {R : Room} {s : State} {m : MethodId} {args : Array Value} {below : List Frame} {meth : Method} {c : Code} {V : zm_V} {mc ms d rc rs : Nat} (hX : zm_X p R s m args meth c RX15 "characters" cX15_characters 5 zk_E V mc ms) (hr : meth.sig.returnType = (some .int)) (hR : R.frames = d ∧ R.locals = 64 * d) (hd : 2 ≤ d) {N : Nat} {res : (Int32 × zm_S) ⊕ ((Int32) × zm_S)} {out : (Int32 × zm_S)} (j0 : Int64) (hf : ∀ o, res = .inl o → o = out) (hk : ∀ (x2 : Int32) (S' : zm_S), res = .inr (x2, S') → zw p l e R s m args below meth c (vx_MQ below (zm_Qc zk_E V (zo_i out)) (zm_XC zk_E V zo_x) args s mc ms (fun q => V.2.2.2.1 ≤ q)) 5 zk_E V mc ms 57 [(2, .int x2)] [] S' rc rs) : ∀ (n : Nat) (i2 : Int32) (i3 : Int32) (S : zm_S), zf_X15_characters_L4 N n j0 i2 i3 S = some res → zw p l e R s m args below meth c (vx_MQ below (zm_Qc zk_E V (zo_i out)) (zm_XC zk_E V zo_x) args s mc ms (fun q => V.2.2.2.1 ≤ q)) 5 zk_E V mc ms 4 [(0, .long j0), (2, .int i2), (3, .int i3)] [] S rc rs := by
  intro n
  induction n with
  | zero => intro i2 i3 S h; cases h
  | succ n ih =>
    intro i2 i3 S h
    rw [zf_X15_characters_L4] at h
    refine zw_iload_n hX dX15_characters_4 rfl ?_
    refine zw_bipush (v := (8 : Int32)) hX dX15_characters_5 (by decide) ?_
    refine zw_icmp_ge (tgt := 57) hX dX15_characters_7 (by decide) (fun c7 => ?_) (fun c7 => ?_)
    · rw [if_pos c7] at h
      refine zw_sub (lv' := [(2, .int i2)]) (List.forall_mem_cons.mpr ⟨rfl, zs_nil⟩) ?_
      exact hk _ _ (Option.some.inj h).symm
    · rw [if_neg c7] at h
      refine zw_lload_n hX dX15_characters_10 rfl ?_
      refine zw_iload_n hX dX15_characters_11 rfl ?_
      obtain ⟨r2, g, h⟩ := zb_some h
      refine zc_Si (as := [.long j0, .int i3]) hX (zt_X15_byteOf (d := d - 1) (by omega) g) zl_X15_86 dX15_characters_12 ⟨rfl, rfl, Nat.le_of_ble_eq_true rfl⟩ ⟨by omega, by omega⟩ ?_
      refine zw_istore hX dX15_characters_15 (by decide) ?_
      refine zw_iload hX dX15_characters_17 rfl ?_
      refine zw_if_le (tgt := 29) hX dX15_characters_19 (by decide) (fun c19 => ?_) (fun c19 => ?_)
      · rw [if_pos c19] at h
        refine zw_sub (lv' := [(0, .long j0), (2, .int i2), (3, .int i3), (4, .int r2.1)]) (List.forall_mem_cons.mpr ⟨rfl, (List.forall_mem_cons.mpr ⟨rfl, (List.forall_mem_cons.mpr ⟨rfl, (List.forall_mem_cons.mpr ⟨rfl, zs_nil⟩)⟩)⟩)⟩) ?_
        exact zt_X15_characters_J29 hX hr hR hd hf hk ih h
      · rw [if_neg c19] at h
        refine zw_iload hX dX15_characters_22 rfl ?_
        refine zw_bipush (v := (32 : Int32)) hX dX15_characters_24 (by decide) ?_
        refine zw_icmp_lt (tgt := 36) hX dX15_characters_26 (by decide) (fun c26 => ?_) (fun c26 => ?_)
        · rw [if_pos c26] at h
          refine zw_iconst (v := (-1 : Int32)) hX dX15_characters_36 (by decide) ?_
          have hz := hf _ (Option.some.inj h).symm
          subst hz
          exact zw_iret hX hr dX15_characters_37 rfl ⟨rfl, rfl⟩
        · rw [if_neg c26] at h
          refine zw_sub (lv' := [(0, .long j0), (2, .int i2), (3, .int i3), (4, .int r2.1)]) (List.forall_mem_cons.mpr ⟨rfl, (List.forall_mem_cons.mpr ⟨rfl, (List.forall_mem_cons.mpr ⟨rfl, (List.forall_mem_cons.mpr ⟨rfl, zs_nil⟩)⟩)⟩)⟩) ?_
          exact zt_X15_characters_J29 hX hr hR hd hf hk ih h
set_option maxHeartbeats 4000000 in
set_option maxRecDepth 100000 in
theorem zt_X15_characters {l : Launch} {V : zm_V} {N : Nat} {S : zm_S} {out : (Int32 × zm_S)} {d : Nat} {j0 : Int64} (hd : 2 ≤ d) (h : zf_X15_characters N j0 S = some out) : zm_Met l zk_E V yX15_characters (.code yX15_characters cX15_characters 5 (some .int)) d [.long j0] S 0 0 (zo_i out) zo_x := by
  refine zm_of (by decide +kernel) (Nat.le_of_ble_eq_true rfl) ?_
  intro p e R s m args below meth c hRR hX hr hxt
  have hR : R.frames = d ∧ R.locals = 64 * d := by rw [hRR]; exact ⟨rfl, rfl⟩
  have hX : zm_X p R s m args meth c RX15 "characters" cX15_characters 5 zk_E V 0 0 := hX
  unfold zf_X15_characters at h
  refine zw_sub (lv' := [(0, .long j0)]) (List.forall_mem_cons.mpr ⟨rfl, zs_nil⟩) ?_
  refine zw_iconst (v := (0 : Int32)) hX dX15_characters_0 (by decide) ?_
  refine zw_istore_n hX dX15_characters_1 (by decide) ?_
  refine zw_iconst (v := (0 : Int32)) hX dX15_characters_2 (by decide) ?_
  refine zw_istore_n hX dX15_characters_3 (by decide) ?_
  obtain ⟨r, g, h⟩ := zb_some h
  refine zw_sub (lv' := [(0, .long j0), (2, .int (0 : Int32)), (3, .int (0 : Int32))]) (List.forall_mem_cons.mpr ⟨rfl, (List.forall_mem_cons.mpr ⟨rfl, (List.forall_mem_cons.mpr ⟨rfl, zs_nil⟩)⟩)⟩) ?_
  refine zt_X15_characters_L4 hX hr hR hd (res := r) (out := out) j0 ?_ ?_ N _ _ _ g
  · intro o ho
    subst ho
    exact Option.some.inj h
  · intro v4 S3 hx
    subst hx
    try dsimp only at h
    refine zw_iload_n hX dX15_characters_57 rfl ?_
    obtain rfl := Option.some.inj h
    exact zw_iret hX hr dX15_characters_58 rfl ⟨rfl, rfl⟩
set_option maxHeartbeats 4000000 in
set_option maxRecDepth 100000 in
theorem zt_X15_say_L3 {p : Program} {l : Launch} {e : Env} {R : Room} {s : State} {m : MethodId} {args : Array Value} {below : List Frame} {meth : Method} {c : Code} {V : zm_V} {mc ms d rc rs : Nat} (hX : zm_X p R s m args meth c RX15 "say" cX15_say 4 zk_E V mc ms) (hr : meth.sig.returnType = (some .int)) (hR : R.frames = d ∧ R.locals = 64 * d) (hd : 2 ≤ d) {N : Nat} {res : (Int32 × zm_S) ⊕ ((Unit) × zm_S)} {out : (Int32 × zm_S)} (a0 : Nat) (j1 : Int64) (hf : ∀ o, res = .inl o → o = out) (hk : ∀ (S' : zm_S), res = .inr ((), S') → zw p l e R s m args below meth c (vx_MQ below (zm_Qc zk_E V (zo_i out)) (zm_XC zk_E V zo_x) args s mc ms (fun q => V.2.2.2.1 ≤ q)) 4 zk_E V mc ms 45 [(0, .ref a0)] [] S' rc rs) : ∀ (n : Nat) (i3 : Int32) (S : zm_S), zf_X15_say_L3 N n a0 j1 i3 S = some res → zw p l e R s m args below meth c (vx_MQ below (zm_Qc zk_E V (zo_i out)) (zm_XC zk_E V zo_x) args s mc ms (fun q => V.2.2.2.1 ≤ q)) 4 zk_E V mc ms 3 [(0, .ref a0), (1, .long j1), (3, .int i3)] [] S rc rs := by
  intro n
  induction n with
  | zero => intro i3 S h; cases h
  | succ n ih =>
    intro i3 S h
    rw [zf_X15_say_L3] at h
    refine zw_iload_n hX dX15_say_3 rfl ?_
    refine zw_if_lt (tgt := 45) hX dX15_say_4 (by decide) (fun c4 => ?_) (fun c4 => ?_)
    · rw [if_pos c4] at h
      refine zw_sub (lv' := [(0, .ref a0)]) (List.forall_mem_cons.mpr ⟨rfl, zs_nil⟩) ?_
      exact hk  _ (Option.some.inj h).symm
    · rw [if_neg c4] at h
      refine zw_lload_n hX dX15_say_7 rfl ?_
      refine zw_iload_n hX dX15_say_8 rfl ?_
      obtain ⟨r2, g, h⟩ := zb_some h
      refine zc_Si (as := [.long j1, .int i3]) hX (zt_X15_byteOf (d := d - 1) (by omega) g) zl_X15_86 dX15_say_9 ⟨rfl, rfl, Nat.le_of_ble_eq_true rfl⟩ ⟨by omega, by omega⟩ ?_
      refine zw_if_le (tgt := 39) hX dX15_say_12 (by decide) (fun c12 => ?_) (fun c12 => ?_)
      · rw [if_pos c12] at h
        refine zw_iinc (v := (i3 + (-1 : Int32))) hX dX15_say_39 rfl rfl (by decide) ?_
        refine zw_goto (tgt := 3) hX dX15_say_42 (by decide) ?_
        refine zw_sub (lv' := [(0, .ref a0), (1, .long j1), (3, .int (i3 + (-1 : Int32)))]) (List.forall_mem_cons.mpr ⟨rfl, (List.forall_mem_cons.mpr ⟨rfl, (List.forall_mem_cons.mpr ⟨rfl, zs_nil⟩)⟩)⟩) ?_
        exact ih _ _ h
      · rw [if_neg c12] at h
        refine zw_aload_n hX dX15_say_15 rfl ?_
        obtain ⟨b3, g, h⟩ := zb_some h
        refine zw_getr hX zl_X15_7 dX15_say_16 g ?_
        refine zw_aload_n hX dX15_say_19 rfl ?_
        obtain ⟨v4, g, h⟩ := zb_some h
        refine zw_geti hX zl_X15_90 dX15_say_20 g ?_
        refine zw_lload_n hX dX15_say_23 rfl ?_
        refine zw_iload_n hX dX15_say_24 rfl ?_
        obtain ⟨r6, g, h⟩ := zb_some h
        refine zc_Si (as := [.long j1, .int i3]) hX (zt_X15_byteOf (d := d - 1) (by omega) g) zl_X15_86 dX15_say_25 ⟨rfl, rfl, Nat.le_of_ble_eq_true rfl⟩ ⟨by omega, by omega⟩ ?_
        obtain ⟨S7, g, h⟩ := zb_some h
        refine zw_si hX dX15_say_28 g ?_
        refine zw_aload_n hX dX15_say_29 rfl ?_
        refine zw_dup hX dX15_say_30 rfl ?_
        obtain ⟨v8, g, h⟩ := zb_some h
        refine zw_geti hX zl_X15_90 dX15_say_31 g ?_
        refine zw_iconst (v := (1 : Int32)) hX dX15_say_34 (by decide) ?_
        refine zw_iadd hX dX15_say_35 ?_
        obtain ⟨S9, g, h⟩ := zb_some h
        refine zw_putv hX zl_X15_90 zt_15_1 dX15_say_36 rfl rfl g ?_
        refine zw_iinc (v := (i3 + (-1 : Int32))) hX dX15_say_39 rfl rfl (by decide) ?_
        refine zw_goto (tgt := 3) hX dX15_say_42 (by decide) ?_
        refine zw_sub (lv' := [(0, .ref a0), (1, .long j1), (3, .int (i3 + (-1 : Int32)))]) (List.forall_mem_cons.mpr ⟨rfl, (List.forall_mem_cons.mpr ⟨rfl, (List.forall_mem_cons.mpr ⟨rfl, zs_nil⟩)⟩)⟩) ?_
        exact ih _ _ h
set_option maxHeartbeats 4000000 in
set_option maxRecDepth 100000 in
theorem zt_X15_say {l : Launch} {V : zm_V} {N : Nat} {S : zm_S} {out : (Int32 × zm_S)} {d : Nat} {a0 : Nat} {j1 : Int64} (hd : 2 ≤ d) (h : zf_X15_say N a0 j1 S = some out) : zm_Met l zk_E V yX15_say (.code yX15_say cX15_say 4 (some .int)) d [.ref a0, .long j1] S 0 0 (zo_i out) zo_x := by
  refine zm_of (by decide +kernel) (Nat.le_of_ble_eq_true rfl) ?_
  intro p e R s m args below meth c hRR hX hr hxt
  have hR : R.frames = d ∧ R.locals = 64 * d := by rw [hRR]; exact ⟨rfl, rfl⟩
  have hX : zm_X p R s m args meth c RX15 "say" cX15_say 4 zk_E V 0 0 := hX
  unfold zf_X15_say at h
  refine zw_sub (lv' := [(0, .ref a0), (1, .long j1)]) (List.forall_mem_cons.mpr ⟨rfl, (List.forall_mem_cons.mpr ⟨rfl, zs_nil⟩)⟩) ?_
  refine zw_bipush (v := (7 : Int32)) hX dX15_say_0 (by decide) ?_
  refine zw_istore_n hX dX15_say_2 (by decide) ?_
  obtain ⟨r, g, h⟩ := zb_some h
  refine zw_sub (lv' := [(0, .ref a0), (1, .long j1), (3, .int (7 : Int32))]) (List.forall_mem_cons.mpr ⟨rfl, (List.forall_mem_cons.mpr ⟨rfl, (List.forall_mem_cons.mpr ⟨rfl, zs_nil⟩)⟩)⟩) ?_
  refine zt_X15_say_L3 hX hr hR hd (res := r) (out := out) a0 j1 ?_ ?_ N _ _ g
  · intro o ho
    subst ho
    exact Option.some.inj h
  · intro  S10 hx
    subst hx
    try dsimp only at h
    refine zw_aload_n hX dX15_say_45 rfl ?_
    obtain ⟨v11, g, h⟩ := zb_some h
    refine zw_geti hX zl_X15_90 dX15_say_46 g ?_
    obtain rfl := Option.some.inj h
    exact zw_iret hX hr dX15_say_49 rfl ⟨rfl, rfl⟩
set_option maxHeartbeats 4000000 in
set_option maxRecDepth 100000 in
theorem zt_X15_charAt {l : Launch} {V : zm_V} {N : Nat} {S : zm_S} {out : (Int32 × zm_S)} {d : Nat} {a0 : Nat} {i1 : Int32} (hd : 1 ≤ d) (h : zf_X15_charAt N a0 i1 S = some out) : zm_Met l zk_E V yX15_charAt (.code yX15_charAt cX15_charAt 2 (some .int)) d [.ref a0, .int i1] S 0 0 (zo_i out) zo_x := by
  refine zm_of (by decide +kernel) (Nat.le_of_ble_eq_true rfl) ?_
  intro p e R s m args below meth c hRR hX hr hxt
  have hR : R.frames = d ∧ R.locals = 64 * d := by rw [hRR]; exact ⟨rfl, rfl⟩
  have hX : zm_X p R s m args meth c RX15 "charAt" cX15_charAt 2 zk_E V 0 0 := hX
  unfold zf_X15_charAt at h
  refine zw_sub (lv' := [(0, .ref a0), (1, .int i1)]) (List.forall_mem_cons.mpr ⟨rfl, (List.forall_mem_cons.mpr ⟨rfl, zs_nil⟩)⟩) ?_
  refine zw_iload_n hX dX15_charAt_0 rfl ?_
  refine zw_aload_n hX dX15_charAt_1 rfl ?_
  obtain ⟨v1, g, h⟩ := zb_some h
  refine zw_geti hX zl_X15_90 dX15_charAt_2 g ?_
  refine zw_icmp_ge (tgt := 17) hX dX15_charAt_5 (by decide) (fun c5 => ?_) (fun c5 => ?_)
  · rw [if_pos c5] at h
    refine zw_bipush (v := (32 : Int32)) hX dX15_charAt_17 (by decide) ?_
    obtain rfl := Option.some.inj h
    exact zw_iret hX hr dX15_charAt_19 rfl ⟨rfl, rfl⟩
  · rw [if_neg c5] at h
    refine zw_aload_n hX dX15_charAt_8 rfl ?_
    obtain ⟨b2, g, h⟩ := zb_some h
    refine zw_getr hX zl_X15_7 dX15_charAt_9 g ?_
    refine zw_iload_n hX dX15_charAt_12 rfl ?_
    obtain ⟨v3, g, h⟩ := zb_some h
    refine zw_xi hX dX15_charAt_13 g ?_
    refine zw_goto (tgt := 19) hX dX15_charAt_14 (by decide) ?_
    obtain rfl := Option.some.inj h
    exact zw_iret hX hr dX15_charAt_19 rfl ⟨rfl, rfl⟩
set_option maxHeartbeats 4000000 in
set_option maxRecDepth 100000 in
theorem zt_X15_isDigit {l : Launch} {V : zm_V} {N : Nat} {S : zm_S} {out : (Int32 × zm_S)} {d : Nat} {i0 : Int32} (hd : 1 ≤ d) (h : zf_X15_isDigit N i0 S = some out) : zm_Met l zk_E V yX15_isDigit (.code yX15_isDigit cX15_isDigit 1 (some .boolean)) d [.int i0] S 0 0 (zo_i out) zo_x := by
  refine zm_of (by decide +kernel) (Nat.le_of_ble_eq_true rfl) ?_
  intro p e R s m args below meth c hRR hX hr hxt
  have hR : R.frames = d ∧ R.locals = 64 * d := by rw [hRR]; exact ⟨rfl, rfl⟩
  have hX : zm_X p R s m args meth c RX15 "isDigit" cX15_isDigit 1 zk_E V 0 0 := hX
  unfold zf_X15_isDigit at h
  refine zw_sub (lv' := [(0, .int i0)]) (List.forall_mem_cons.mpr ⟨rfl, zs_nil⟩) ?_
  refine zw_iload_n hX dX15_isDigit_0 rfl ?_
  refine zw_bipush (v := (47 : Int32)) hX dX15_isDigit_1 (by decide) ?_
  refine zw_icmp_le (tgt := 16) hX dX15_isDigit_3 (by decide) (fun c3 => ?_) (fun c3 => ?_)
  · rw [if_pos c3] at h
    refine zw_iconst (v := (0 : Int32)) hX dX15_isDigit_16 (by decide) ?_
    obtain rfl := Option.some.inj h
    exact zw_iret hX hr dX15_isDigit_17 rfl ⟨rfl, rfl⟩
  · rw [if_neg c3] at h
    refine zw_iload_n hX dX15_isDigit_6 rfl ?_
    refine zw_bipush (v := (58 : Int32)) hX dX15_isDigit_7 (by decide) ?_
    refine zw_icmp_ge (tgt := 16) hX dX15_isDigit_9 (by decide) (fun c9 => ?_) (fun c9 => ?_)
    · rw [if_pos c9] at h
      refine zw_iconst (v := (0 : Int32)) hX dX15_isDigit_16 (by decide) ?_
      obtain rfl := Option.some.inj h
      exact zw_iret hX hr dX15_isDigit_17 rfl ⟨rfl, rfl⟩
    · rw [if_neg c9] at h
      refine zw_iconst (v := (1 : Int32)) hX dX15_isDigit_12 (by decide) ?_
      refine zw_goto (tgt := 17) hX dX15_isDigit_13 (by decide) ?_
      obtain rfl := Option.some.inj h
      exact zw_iret hX hr dX15_isDigit_17 rfl ⟨rfl, rfl⟩
set_option maxHeartbeats 4000000 in
set_option maxRecDepth 100000 in
theorem zt_X15_isLetter {l : Launch} {V : zm_V} {N : Nat} {S : zm_S} {out : (Int32 × zm_S)} {d : Nat} {i0 : Int32} (hd : 1 ≤ d) (h : zf_X15_isLetter N i0 S = some out) : zm_Met l zk_E V yX15_isLetter (.code yX15_isLetter cX15_isLetter 1 (some .boolean)) d [.int i0] S 0 0 (zo_i out) zo_x := by
  refine zm_of (by decide +kernel) (Nat.le_of_ble_eq_true rfl) ?_
  intro p e R s m args below meth c hRR hX hr hxt
  have hR : R.frames = d ∧ R.locals = 64 * d := by rw [hRR]; exact ⟨rfl, rfl⟩
  have hX : zm_X p R s m args meth c RX15 "isLetter" cX15_isLetter 1 zk_E V 0 0 := hX
  unfold zf_X15_isLetter at h
  refine zw_sub (lv' := [(0, .int i0)]) (List.forall_mem_cons.mpr ⟨rfl, zs_nil⟩) ?_
  refine zw_iload_n hX dX15_isLetter_0 rfl ?_
  refine zw_bipush (v := (96 : Int32)) hX dX15_isLetter_1 (by decide) ?_
  refine zw_icmp_le (tgt := 16) hX dX15_isLetter_3 (by decide) (fun c3 => ?_) (fun c3 => ?_)
  · rw [if_pos c3] at h
    refine zw_iconst (v := (0 : Int32)) hX dX15_isLetter_16 (by decide) ?_
    obtain rfl := Option.some.inj h
    exact zw_iret hX hr dX15_isLetter_17 rfl ⟨rfl, rfl⟩
  · rw [if_neg c3] at h
    refine zw_iload_n hX dX15_isLetter_6 rfl ?_
    refine zw_bipush (v := (123 : Int32)) hX dX15_isLetter_7 (by decide) ?_
    refine zw_icmp_ge (tgt := 16) hX dX15_isLetter_9 (by decide) (fun c9 => ?_) (fun c9 => ?_)
    · rw [if_pos c9] at h
      refine zw_iconst (v := (0 : Int32)) hX dX15_isLetter_16 (by decide) ?_
      obtain rfl := Option.some.inj h
      exact zw_iret hX hr dX15_isLetter_17 rfl ⟨rfl, rfl⟩
    · rw [if_neg c9] at h
      refine zw_iconst (v := (1 : Int32)) hX dX15_isLetter_12 (by decide) ?_
      refine zw_goto (tgt := 17) hX dX15_isLetter_13 (by decide) ?_
      obtain rfl := Option.some.inj h
      exact zw_iret hX hr dX15_isLetter_17 rfl ⟨rfl, rfl⟩
set_option maxHeartbeats 4000000 in
set_option maxRecDepth 100000 in
theorem zt_X15_isSign {l : Launch} {V : zm_V} {N : Nat} {S : zm_S} {out : (Int32 × zm_S)} {d : Nat} {i0 : Int32} (hd : 1 ≤ d) (h : zf_X15_isSign N i0 S = some out) : zm_Met l zk_E V yX15_isSign (.code yX15_isSign cX15_isSign 1 (some .boolean)) d [.int i0] S 0 0 (zo_i out) zo_x := by
  refine zm_of (by decide +kernel) (Nat.le_of_ble_eq_true rfl) ?_
  intro p e R s m args below meth c hRR hX hr hxt
  have hR : R.frames = d ∧ R.locals = 64 * d := by rw [hRR]; exact ⟨rfl, rfl⟩
  have hX : zm_X p R s m args meth c RX15 "isSign" cX15_isSign 1 zk_E V 0 0 := hX
  unfold zf_X15_isSign at h
  refine zw_sub (lv' := [(0, .int i0)]) (List.forall_mem_cons.mpr ⟨rfl, zs_nil⟩) ?_
  refine zw_iload_n hX dX15_isSign_0 rfl ?_
  refine zw_bipush (v := (43 : Int32)) hX dX15_isSign_1 (by decide) ?_
  refine zw_icmp_eq (tgt := 78) hX dX15_isSign_3 (by decide) (fun c3 => ?_) (fun c3 => ?_)
  · rw [if_pos c3] at h
    refine zw_iconst (v := (1 : Int32)) hX dX15_isSign_78 (by decide) ?_
    refine zw_goto (tgt := 83) hX dX15_isSign_79 (by decide) ?_
    obtain rfl := Option.some.inj h
    exact zw_iret hX hr dX15_isSign_83 rfl ⟨rfl, rfl⟩
  · rw [if_neg c3] at h
    refine zw_iload_n hX dX15_isSign_6 rfl ?_
    refine zw_bipush (v := (45 : Int32)) hX dX15_isSign_7 (by decide) ?_
    refine zw_icmp_eq (tgt := 78) hX dX15_isSign_9 (by decide) (fun c9 => ?_) (fun c9 => ?_)
    · rw [if_pos c9] at h
      refine zw_iconst (v := (1 : Int32)) hX dX15_isSign_78 (by decide) ?_
      refine zw_goto (tgt := 83) hX dX15_isSign_79 (by decide) ?_
      obtain rfl := Option.some.inj h
      exact zw_iret hX hr dX15_isSign_83 rfl ⟨rfl, rfl⟩
    · rw [if_neg c9] at h
      refine zw_iload_n hX dX15_isSign_12 rfl ?_
      refine zw_bipush (v := (42 : Int32)) hX dX15_isSign_13 (by decide) ?_
      refine zw_icmp_eq (tgt := 78) hX dX15_isSign_15 (by decide) (fun c15 => ?_) (fun c15 => ?_)
      · rw [if_pos c15] at h
        refine zw_iconst (v := (1 : Int32)) hX dX15_isSign_78 (by decide) ?_
        refine zw_goto (tgt := 83) hX dX15_isSign_79 (by decide) ?_
        obtain rfl := Option.some.inj h
        exact zw_iret hX hr dX15_isSign_83 rfl ⟨rfl, rfl⟩
      · rw [if_neg c15] at h
        refine zw_iload_n hX dX15_isSign_18 rfl ?_
        refine zw_bipush (v := (47 : Int32)) hX dX15_isSign_19 (by decide) ?_
        refine zw_icmp_eq (tgt := 78) hX dX15_isSign_21 (by decide) (fun c21 => ?_) (fun c21 => ?_)
        · rw [if_pos c21] at h
          refine zw_iconst (v := (1 : Int32)) hX dX15_isSign_78 (by decide) ?_
          refine zw_goto (tgt := 83) hX dX15_isSign_79 (by decide) ?_
          obtain rfl := Option.some.inj h
          exact zw_iret hX hr dX15_isSign_83 rfl ⟨rfl, rfl⟩
        · rw [if_neg c21] at h
          refine zw_iload_n hX dX15_isSign_24 rfl ?_
          refine zw_bipush (v := (40 : Int32)) hX dX15_isSign_25 (by decide) ?_
          refine zw_icmp_eq (tgt := 78) hX dX15_isSign_27 (by decide) (fun c27 => ?_) (fun c27 => ?_)
          · rw [if_pos c27] at h
            refine zw_iconst (v := (1 : Int32)) hX dX15_isSign_78 (by decide) ?_
            refine zw_goto (tgt := 83) hX dX15_isSign_79 (by decide) ?_
            obtain rfl := Option.some.inj h
            exact zw_iret hX hr dX15_isSign_83 rfl ⟨rfl, rfl⟩
          · rw [if_neg c27] at h
            refine zw_iload_n hX dX15_isSign_30 rfl ?_
            refine zw_bipush (v := (41 : Int32)) hX dX15_isSign_31 (by decide) ?_
            refine zw_icmp_eq (tgt := 78) hX dX15_isSign_33 (by decide) (fun c33 => ?_) (fun c33 => ?_)
            · rw [if_pos c33] at h
              refine zw_iconst (v := (1 : Int32)) hX dX15_isSign_78 (by decide) ?_
              refine zw_goto (tgt := 83) hX dX15_isSign_79 (by decide) ?_
              obtain rfl := Option.some.inj h
              exact zw_iret hX hr dX15_isSign_83 rfl ⟨rfl, rfl⟩
            · rw [if_neg c33] at h
              refine zw_iload_n hX dX15_isSign_36 rfl ?_
              refine zw_bipush (v := (60 : Int32)) hX dX15_isSign_37 (by decide) ?_
              refine zw_icmp_eq (tgt := 78) hX dX15_isSign_39 (by decide) (fun c39 => ?_) (fun c39 => ?_)
              · rw [if_pos c39] at h
                refine zw_iconst (v := (1 : Int32)) hX dX15_isSign_78 (by decide) ?_
                refine zw_goto (tgt := 83) hX dX15_isSign_79 (by decide) ?_
                obtain rfl := Option.some.inj h
                exact zw_iret hX hr dX15_isSign_83 rfl ⟨rfl, rfl⟩
              · rw [if_neg c39] at h
                refine zw_iload_n hX dX15_isSign_42 rfl ?_
                refine zw_bipush (v := (61 : Int32)) hX dX15_isSign_43 (by decide) ?_
                refine zw_icmp_eq (tgt := 78) hX dX15_isSign_45 (by decide) (fun c45 => ?_) (fun c45 => ?_)
                · rw [if_pos c45] at h
                  refine zw_iconst (v := (1 : Int32)) hX dX15_isSign_78 (by decide) ?_
                  refine zw_goto (tgt := 83) hX dX15_isSign_79 (by decide) ?_
                  obtain rfl := Option.some.inj h
                  exact zw_iret hX hr dX15_isSign_83 rfl ⟨rfl, rfl⟩
                · rw [if_neg c45] at h
                  refine zw_iload_n hX dX15_isSign_48 rfl ?_
                  refine zw_bipush (v := (62 : Int32)) hX dX15_isSign_49 (by decide) ?_
                  refine zw_icmp_eq (tgt := 78) hX dX15_isSign_51 (by decide) (fun c51 => ?_) (fun c51 => ?_)
                  · rw [if_pos c51] at h
                    refine zw_iconst (v := (1 : Int32)) hX dX15_isSign_78 (by decide) ?_
                    refine zw_goto (tgt := 83) hX dX15_isSign_79 (by decide) ?_
                    obtain rfl := Option.some.inj h
                    exact zw_iret hX hr dX15_isSign_83 rfl ⟨rfl, rfl⟩
                  · rw [if_neg c51] at h
                    refine zw_iload_n hX dX15_isSign_54 rfl ?_
                    refine zw_bipush (v := (58 : Int32)) hX dX15_isSign_55 (by decide) ?_
                    refine zw_icmp_eq (tgt := 78) hX dX15_isSign_57 (by decide) (fun c57 => ?_) (fun c57 => ?_)
                    · rw [if_pos c57] at h
                      refine zw_iconst (v := (1 : Int32)) hX dX15_isSign_78 (by decide) ?_
                      refine zw_goto (tgt := 83) hX dX15_isSign_79 (by decide) ?_
                      obtain rfl := Option.some.inj h
                      exact zw_iret hX hr dX15_isSign_83 rfl ⟨rfl, rfl⟩
                    · rw [if_neg c57] at h
                      refine zw_iload_n hX dX15_isSign_60 rfl ?_
                      refine zw_bipush (v := (59 : Int32)) hX dX15_isSign_61 (by decide) ?_
                      refine zw_icmp_eq (tgt := 78) hX dX15_isSign_63 (by decide) (fun c63 => ?_) (fun c63 => ?_)
                      · rw [if_pos c63] at h
                        refine zw_iconst (v := (1 : Int32)) hX dX15_isSign_78 (by decide) ?_
                        refine zw_goto (tgt := 83) hX dX15_isSign_79 (by decide) ?_
                        obtain rfl := Option.some.inj h
                        exact zw_iret hX hr dX15_isSign_83 rfl ⟨rfl, rfl⟩
                      · rw [if_neg c63] at h
                        refine zw_iload_n hX dX15_isSign_66 rfl ?_
                        refine zw_bipush (v := (33 : Int32)) hX dX15_isSign_67 (by decide) ?_
                        refine zw_icmp_eq (tgt := 78) hX dX15_isSign_69 (by decide) (fun c69 => ?_) (fun c69 => ?_)
                        · rw [if_pos c69] at h
                          refine zw_iconst (v := (1 : Int32)) hX dX15_isSign_78 (by decide) ?_
                          refine zw_goto (tgt := 83) hX dX15_isSign_79 (by decide) ?_
                          obtain rfl := Option.some.inj h
                          exact zw_iret hX hr dX15_isSign_83 rfl ⟨rfl, rfl⟩
                        · rw [if_neg c69] at h
                          refine zw_iload_n hX dX15_isSign_72 rfl ?_
                          refine zw_bipush (v := (64 : Int32)) hX dX15_isSign_73 (by decide) ?_
                          refine zw_icmp_ne (tgt := 82) hX dX15_isSign_75 (by decide) (fun c75 => ?_) (fun c75 => ?_)
                          · rw [if_neg c75] at h
                            refine zw_iconst (v := (0 : Int32)) hX dX15_isSign_82 (by decide) ?_
                            obtain rfl := Option.some.inj h
                            exact zw_iret hX hr dX15_isSign_83 rfl ⟨rfl, rfl⟩
                          · rw [if_pos c75] at h
                            refine zw_iconst (v := (1 : Int32)) hX dX15_isSign_78 (by decide) ?_
                            refine zw_goto (tgt := 83) hX dX15_isSign_79 (by decide) ?_
                            obtain rfl := Option.some.inj h
                            exact zw_iret hX hr dX15_isSign_83 rfl ⟨rfl, rfl⟩
set_option maxHeartbeats 4000000 in
set_option maxRecDepth 100000 in
theorem zt_X15_step_L0 {p : Program} {l : Launch} {e : Env} {R : Room} {s : State} {m : MethodId} {args : Array Value} {below : List Frame} {meth : Method} {c : Code} {V : zm_V} {mc ms d rc rs : Nat} (hX : zm_X p R s m args meth c RX15 "step" cX15_step 3 zk_E V mc ms) (hr : meth.sig.returnType = none) (hR : R.frames = d ∧ R.locals = 64 * d) (hd : 2 ≤ d) {N : Nat} {res : (Unit × zm_S) ⊕ ((Unit) × zm_S)} {out : (Unit × zm_S)} (a0 : Nat) (hf : ∀ o, res = .inl o → o = out) (hk : ∀ (S' : zm_S), res = .inr ((), S') → zw p l e R s m args below meth c (vx_MQ below (zm_Qc zk_E V (zo_v out)) (zm_XC zk_E V zo_x) args s mc ms (fun q => V.2.2.2.1 ≤ q)) 3 zk_E V mc ms 38 [(0, .ref a0)] [] S' rc rs) : ∀ (n : Nat)  (S : zm_S), zf_X15_step_L0 N n a0 S = some res → zw p l e R s m args below meth c (vx_MQ below (zm_Qc zk_E V (zo_v out)) (zm_XC zk_E V zo_x) args s mc ms (fun q => V.2.2.2.1 ≤ q)) 3 zk_E V mc ms 0 [(0, .ref a0)] [] S rc rs := by
  intro n
  induction n with
  | zero => intro  S h; cases h
  | succ n ih =>
    intro  S h
    rw [zf_X15_step_L0] at h
    refine zw_aload_n hX dX15_step_0 rfl ?_
    obtain ⟨v1, g, h⟩ := zb_some h
    refine zw_geti hX zl_X15_93 dX15_step_1 g ?_
    refine zw_aload_n hX dX15_step_4 rfl ?_
    obtain ⟨v2, g, h⟩ := zb_some h
    refine zw_geti hX zl_X15_90 dX15_step_5 g ?_
    refine zw_icmp_ge (tgt := 38) hX dX15_step_8 (by decide) (fun c8 => ?_) (fun c8 => ?_)
    · rw [if_pos c8] at h
      refine zw_sub (lv' := [(0, .ref a0)]) (List.forall_mem_cons.mpr ⟨rfl, zs_nil⟩) ?_
      exact hk  _ (Option.some.inj h).symm
    · rw [if_neg c8] at h
      refine zw_aload_n hX dX15_step_11 rfl ?_
      obtain ⟨b3, g, h⟩ := zb_some h
      refine zw_getr hX zl_X15_7 dX15_step_12 g ?_
      refine zw_aload_n hX dX15_step_15 rfl ?_
      obtain ⟨v4, g, h⟩ := zb_some h
      refine zw_geti hX zl_X15_93 dX15_step_16 g ?_
      obtain ⟨v5, g, h⟩ := zb_some h
      refine zw_xi hX dX15_step_19 g ?_
      refine zw_bipush (v := (32 : Int32)) hX dX15_step_20 (by decide) ?_
      refine zw_icmp_ne (tgt := 38) hX dX15_step_22 (by decide) (fun c22 => ?_) (fun c22 => ?_)
      · rw [if_neg c22] at h
        refine zw_sub (lv' := [(0, .ref a0)]) (List.forall_mem_cons.mpr ⟨rfl, zs_nil⟩) ?_
        exact hk  _ (Option.some.inj h).symm
      · rw [if_pos c22] at h
        refine zw_aload_n hX dX15_step_25 rfl ?_
        refine zw_dup hX dX15_step_26 rfl ?_
        obtain ⟨v6, g, h⟩ := zb_some h
        refine zw_geti hX zl_X15_93 dX15_step_27 g ?_
        refine zw_iconst (v := (1 : Int32)) hX dX15_step_30 (by decide) ?_
        refine zw_iadd hX dX15_step_31 ?_
        obtain ⟨S7, g, h⟩ := zb_some h
        refine zw_putv hX zl_X15_93 zt_15_27 dX15_step_32 rfl rfl g ?_
        refine zw_goto (tgt := 0) hX dX15_step_35 (by decide) ?_
        refine zw_sub (lv' := [(0, .ref a0)]) (List.forall_mem_cons.mpr ⟨rfl, zs_nil⟩) ?_
        exact ih  _ h
set_option maxHeartbeats 4000000 in
set_option maxRecDepth 100000 in
theorem zt_X15_step_J387 {p : Program} {l : Launch} {e : Env} {R : Room} {s : State} {m : MethodId} {args : Array Value} {below : List Frame} {meth : Method} {c : Code} {V : zm_V} {mc ms d rc rs : Nat} (hX : zm_X p R s m args meth c RX15 "step" cX15_step 3 zk_E V mc ms) (hr : meth.sig.returnType = none) (hR : R.frames = d ∧ R.locals = 64 * d) (hd : 2 ≤ d) {N : Nat} {t0 : Nat} {out : (Unit × zm_S)} {S : zm_S} (h : zf_X15_step_J387 N t0 S = some out) : zw p l e R s m args below meth c (vx_MQ below (zm_Qc zk_E V (zo_v out)) (zm_XC zk_E V zo_x) args s mc ms (fun q => V.2.2.2.1 ≤ q)) 3 zk_E V mc ms 387 [] [.ref t0] S rc rs := by
  unfold zf_X15_step_J387 at h
  refine zw_iconst (v := (1 : Int32)) hX dX15_step_387 (by decide) ?_
  refine zw_goto (tgt := 392) hX dX15_step_388 (by decide) ?_
  obtain ⟨S34, g, h⟩ := zb_some h
  refine zw_putv hX zl_X15_121 zt_15_31 dX15_step_392 rfl (by decide) g ?_
  obtain rfl := Option.some.inj h
  exact zw_vret hX hr dX15_step_395 ⟨rfl, rfl⟩
set_option maxHeartbeats 4000000 in
set_option maxRecDepth 100000 in
theorem zt_X15_step_J370 {p : Program} {l : Launch} {e : Env} {R : Room} {s : State} {m : MethodId} {args : Array Value} {below : List Frame} {meth : Method} {c : Code} {V : zm_V} {mc ms d rc rs : Nat} (hX : zm_X p R s m args meth c RX15 "step" cX15_step 3 zk_E V mc ms) (hr : meth.sig.returnType = none) (hR : R.frames = d ∧ R.locals = 64 * d) (hd : 2 ≤ d) {N : Nat} {a0 : Nat} {out : (Unit × zm_S)} {S : zm_S} (h : zf_X15_step_J370 N a0 S = some out) : zw p l e R s m args below meth c (vx_MQ below (zm_Qc zk_E V (zo_v out)) (zm_XC zk_E V zo_x) args s mc ms (fun q => V.2.2.2.1 ≤ q)) 3 zk_E V mc ms 370 [(0, .ref a0)] [] S rc rs := by
  unfold zf_X15_step_J370 at h
  refine zw_aload_n hX dX15_step_370 rfl ?_
  refine zw_aload_n hX dX15_step_371 rfl ?_
  obtain ⟨v33, g, h⟩ := zb_some h
  refine zw_geti hX zl_X15_121 dX15_step_372 g ?_
  refine zw_if_ne (tgt := 387) hX dX15_step_375 (by decide) (fun c375 => ?_) (fun c375 => ?_)
  · rw [if_neg c375] at h
    refine zw_sub (lv' := []) zs_nil ?_
    exact zt_X15_step_J387 hX hr hR hd h
  · rw [if_pos c375] at h
    refine zw_aload_n hX dX15_step_378 rfl ?_
    obtain ⟨v35, g, h⟩ := zb_some h
    refine zw_geti hX zl_X15_106 dX15_step_379 g ?_
    refine zw_bipush (v := (120 : Int32)) hX dX15_step_382 (by decide) ?_
    refine zw_icmp_le (tgt := 391) hX dX15_step_384 (by decide) (fun c384 => ?_) (fun c384 => ?_)
    · rw [if_pos c384] at h
      refine zw_iconst (v := (0 : Int32)) hX dX15_step_391 (by decide) ?_
      obtain ⟨S36, g, h⟩ := zb_some h
      refine zw_putv hX zl_X15_121 zt_15_31 dX15_step_392 rfl (by decide) g ?_
      obtain rfl := Option.some.inj h
      exact zw_vret hX hr dX15_step_395 ⟨rfl, rfl⟩
    · rw [if_neg c384] at h
      refine zw_sub (lv' := []) zs_nil ?_
      exact zt_X15_step_J387 hX hr hR hd h
set_option maxHeartbeats 4000000 in
set_option maxRecDepth 100000 in
theorem zt_X15_step_J367 {p : Program} {l : Launch} {e : Env} {R : Room} {s : State} {m : MethodId} {args : Array Value} {below : List Frame} {meth : Method} {c : Code} {V : zm_V} {mc ms d rc rs : Nat} (hX : zm_X p R s m args meth c RX15 "step" cX15_step 3 zk_E V mc ms) (hr : meth.sig.returnType = none) (hR : R.frames = d ∧ R.locals = 64 * d) (hd : 2 ≤ d) {N : Nat} {a0 : Nat} {t0 : Nat} {t1 : Int32} {out : (Unit × zm_S)} {S : zm_S} (h : zf_X15_step_J367 N a0 t0 t1 S = some out) : zw p l e R s m args below meth c (vx_MQ below (zm_Qc zk_E V (zo_v out)) (zm_XC zk_E V zo_x) args s mc ms (fun q => V.2.2.2.1 ≤ q)) 3 zk_E V mc ms 367 [(0, .ref a0)] [.int t1, .ref t0] S rc rs := by
  unfold zf_X15_step_J367 at h
  obtain ⟨S32, g, h⟩ := zb_some h
  obtain ⟨gz, g⟩ := zp_z_spec g
  refine zw_putv hX zl_X15_121 zt_15_31 dX15_step_367 (zn_z gz) (zf_z gz) g ?_
  refine zw_sub (lv' := [(0, .ref a0)]) (List.forall_mem_cons.mpr ⟨rfl, zs_nil⟩) ?_
  exact zt_X15_step_J370 hX hr hR hd h
set_option maxHeartbeats 4000000 in
set_option maxRecDepth 100000 in
theorem zt_X15_step_J350 {p : Program} {l : Launch} {e : Env} {R : Room} {s : State} {m : MethodId} {args : Array Value} {below : List Frame} {meth : Method} {c : Code} {V : zm_V} {mc ms d rc rs : Nat} (hX : zm_X p R s m args meth c RX15 "step" cX15_step 3 zk_E V mc ms) (hr : meth.sig.returnType = none) (hR : R.frames = d ∧ R.locals = 64 * d) (hd : 2 ≤ d) {N : Nat} {a0 : Nat} {i1 : Int32} {t0 : Nat} {t1 : Int32} {t2 : Int32} {out : (Unit × zm_S)} {S : zm_S} (h : zf_X15_step_J350 N a0 i1 t0 t1 t2 S = some out) : zw p l e R s m args below meth c (vx_MQ below (zm_Qc zk_E V (zo_v out)) (zm_XC zk_E V zo_x) args s mc ms (fun q => V.2.2.2.1 ≤ q)) 3 zk_E V mc ms 350 [(0, .ref a0), (1, .int i1)] [.int t2, .int t1, .ref t0] S rc rs := by
  unfold zf_X15_step_J350 at h
  refine zw_iadd hX dX15_step_350 ?_
  obtain ⟨S29, g, h⟩ := zb_some h
  refine zw_putv hX zl_X15_93 zt_15_27 dX15_step_351 rfl rfl g ?_
  refine zw_aload_n hX dX15_step_354 rfl ?_
  refine zw_iload_n hX dX15_step_355 rfl ?_
  obtain ⟨r31, g, h⟩ := zb_some h
  refine zc_Si (as := [.int i1]) hX (zt_X15_isSign (d := d - 1) (by omega) g) zl_X15_128 dX15_step_356 ⟨rfl, rfl, Nat.le_of_ble_eq_true rfl⟩ ⟨by omega, by omega⟩ ?_
  refine zw_if_ne (tgt := 366) hX dX15_step_359 (by decide) (fun c359 => ?_) (fun c359 => ?_)
  · rw [if_neg c359] at h
    refine zw_iconst (v := (0 : Int32)) hX dX15_step_366 (by decide) ?_
    refine zw_sub (lv' := [(0, .ref a0)]) (List.forall_mem_cons.mpr ⟨rfl, zs_nil⟩) ?_
    exact zt_X15_step_J367 hX hr hR hd h
  · rw [if_pos c359] at h
    refine zw_iconst (v := (1 : Int32)) hX dX15_step_362 (by decide) ?_
    refine zw_goto (tgt := 367) hX dX15_step_363 (by decide) ?_
    refine zw_sub (lv' := [(0, .ref a0)]) (List.forall_mem_cons.mpr ⟨rfl, zs_nil⟩) ?_
    exact zt_X15_step_J367 hX hr hR hd h
set_option maxHeartbeats 4000000 in
set_option maxRecDepth 100000 in
theorem zt_X15_step_J333 {p : Program} {l : Launch} {e : Env} {R : Room} {s : State} {m : MethodId} {args : Array Value} {below : List Frame} {meth : Method} {c : Code} {V : zm_V} {mc ms d rc rs : Nat} (hX : zm_X p R s m args meth c RX15 "step" cX15_step 3 zk_E V mc ms) (hr : meth.sig.returnType = none) (hR : R.frames = d ∧ R.locals = 64 * d) (hd : 2 ≤ d) {N : Nat} {a0 : Nat} {i1 : Int32} {i2 : Int32} {t0 : Nat} {t1 : Int32} {out : (Unit × zm_S)} {S : zm_S} (h : zf_X15_step_J333 N a0 i1 i2 t0 t1 S = some out) : zw p l e R s m args below meth c (vx_MQ below (zm_Qc zk_E V (zo_v out)) (zm_XC zk_E V zo_x) args s mc ms (fun q => V.2.2.2.1 ≤ q)) 3 zk_E V mc ms 333 [(0, .ref a0), (1, .int i1), (2, .int i2)] [.int t1, .ref t0] S rc rs := by
  unfold zf_X15_step_J333 at h
  obtain ⟨S27, g, h⟩ := zb_some h
  refine zw_putv hX zl_X15_99 zt_15_28 dX15_step_333 rfl rfl g ?_
  refine zw_aload_n hX dX15_step_336 rfl ?_
  refine zw_dup hX dX15_step_337 rfl ?_
  obtain ⟨v28, g, h⟩ := zb_some h
  refine zw_geti hX zl_X15_93 dX15_step_338 g ?_
  refine zw_iload_n hX dX15_step_341 rfl ?_
  refine zw_if_eq (tgt := 349) hX dX15_step_342 (by decide) (fun c342 => ?_) (fun c342 => ?_)
  · rw [if_pos c342] at h
    refine zw_iconst (v := (1 : Int32)) hX dX15_step_349 (by decide) ?_
    refine zw_sub (lv' := [(0, .ref a0), (1, .int i1)]) (List.forall_mem_cons.mpr ⟨rfl, (List.forall_mem_cons.mpr ⟨rfl, zs_nil⟩)⟩) ?_
    exact zt_X15_step_J350 hX hr hR hd h
  · rw [if_neg c342] at h
    refine zw_iconst (v := (2 : Int32)) hX dX15_step_345 (by decide) ?_
    refine zw_goto (tgt := 350) hX dX15_step_346 (by decide) ?_
    refine zw_sub (lv' := [(0, .ref a0), (1, .int i1)]) (List.forall_mem_cons.mpr ⟨rfl, (List.forall_mem_cons.mpr ⟨rfl, zs_nil⟩)⟩) ?_
    exact zt_X15_step_J350 hX hr hR hd h
set_option maxHeartbeats 4000000 in
set_option maxRecDepth 100000 in
theorem zt_X15_step_J318 {p : Program} {l : Launch} {e : Env} {R : Room} {s : State} {m : MethodId} {args : Array Value} {below : List Frame} {meth : Method} {c : Code} {V : zm_V} {mc ms d rc rs : Nat} (hX : zm_X p R s m args meth c RX15 "step" cX15_step 3 zk_E V mc ms) (hr : meth.sig.returnType = none) (hR : R.frames = d ∧ R.locals = 64 * d) (hd : 2 ≤ d) {N : Nat} {a0 : Nat} {i1 : Int32} {t0 : Int32} {out : (Unit × zm_S)} {S : zm_S} (h : zf_X15_step_J318 N a0 i1 t0 S = some out) : zw p l e R s m args below meth c (vx_MQ below (zm_Qc zk_E V (zo_v out)) (zm_XC zk_E V zo_x) args s mc ms (fun q => V.2.2.2.1 ≤ q)) 3 zk_E V mc ms 318 [(0, .ref a0), (1, .int i1)] [.int t0] S rc rs := by
  unfold zf_X15_step_J318 at h
  refine zw_istore_n hX dX15_step_318 (by decide) ?_
  refine zw_aload_n hX dX15_step_319 rfl ?_
  refine zw_iload_n hX dX15_step_320 rfl ?_
  refine zw_if_eq (tgt := 332) hX dX15_step_321 (by decide) (fun c321 => ?_) (fun c321 => ?_)
  · rw [if_pos c321] at h
    refine zw_iload_n hX dX15_step_332 rfl ?_
    refine zw_sub (lv' := [(0, .ref a0), (1, .int i1), (2, .int t0)]) (List.forall_mem_cons.mpr ⟨rfl, (List.forall_mem_cons.mpr ⟨rfl, (List.forall_mem_cons.mpr ⟨rfl, zs_nil⟩)⟩)⟩) ?_
    exact zt_X15_step_J333 hX hr hR hd h
  · rw [if_neg c321] at h
    refine zw_iload_n hX dX15_step_324 rfl ?_
    refine zw_sipush (v := (256 : Int32)) hX dX15_step_325 (by decide) ?_
    refine zw_iadd hX dX15_step_328 ?_
    refine zw_goto (tgt := 333) hX dX15_step_329 (by decide) ?_
    refine zw_sub (lv' := [(0, .ref a0), (1, .int i1), (2, .int t0)]) (List.forall_mem_cons.mpr ⟨rfl, (List.forall_mem_cons.mpr ⟨rfl, (List.forall_mem_cons.mpr ⟨rfl, zs_nil⟩)⟩)⟩) ?_
    exact zt_X15_step_J333 hX hr hR hd h
set_option maxHeartbeats 4000000 in
set_option maxRecDepth 100000 in
theorem zt_X15_step_J317 {p : Program} {l : Launch} {e : Env} {R : Room} {s : State} {m : MethodId} {args : Array Value} {below : List Frame} {meth : Method} {c : Code} {V : zm_V} {mc ms d rc rs : Nat} (hX : zm_X p R s m args meth c RX15 "step" cX15_step 3 zk_E V mc ms) (hr : meth.sig.returnType = none) (hR : R.frames = d ∧ R.locals = 64 * d) (hd : 2 ≤ d) {N : Nat} {a0 : Nat} {i1 : Int32} {out : (Unit × zm_S)} {S : zm_S} (h : zf_X15_step_J317 N a0 i1 S = some out) : zw p l e R s m args below meth c (vx_MQ below (zm_Qc zk_E V (zo_v out)) (zm_XC zk_E V zo_x) args s mc ms (fun q => V.2.2.2.1 ≤ q)) 3 zk_E V mc ms 317 [(0, .ref a0), (1, .int i1)] [] S rc rs := by
  unfold zf_X15_step_J317 at h
  refine zw_iconst (v := (0 : Int32)) hX dX15_step_317 (by decide) ?_
  refine zw_sub (lv' := [(0, .ref a0), (1, .int i1)]) (List.forall_mem_cons.mpr ⟨rfl, (List.forall_mem_cons.mpr ⟨rfl, zs_nil⟩)⟩) ?_
  exact zt_X15_step_J318 hX hr hR hd h
set_option maxHeartbeats 4000000 in
set_option maxRecDepth 100000 in
theorem zt_X15_step_J298 {p : Program} {l : Launch} {e : Env} {R : Room} {s : State} {m : MethodId} {args : Array Value} {below : List Frame} {meth : Method} {c : Code} {V : zm_V} {mc ms d rc rs : Nat} (hX : zm_X p R s m args meth c RX15 "step" cX15_step 3 zk_E V mc ms) (hr : meth.sig.returnType = none) (hR : R.frames = d ∧ R.locals = 64 * d) (hd : 2 ≤ d) {N : Nat} {a0 : Nat} {i1 : Int32} {out : (Unit × zm_S)} {S : zm_S} (h : zf_X15_step_J298 N a0 i1 S = some out) : zw p l e R s m args below meth c (vx_MQ below (zm_Qc zk_E V (zo_v out)) (zm_XC zk_E V zo_x) args s mc ms (fun q => V.2.2.2.1 ≤ q)) 3 zk_E V mc ms 298 [(0, .ref a0), (1, .int i1)] [] S rc rs := by
  unfold zf_X15_step_J298 at h
  refine zw_aload_n hX dX15_step_298 rfl ?_
  refine zw_aload_n hX dX15_step_299 rfl ?_
  obtain ⟨v24, g, h⟩ := zb_some h
  refine zw_geti hX zl_X15_96 dX15_step_300 g ?_
  refine zw_iconst (v := (1 : Int32)) hX dX15_step_303 (by decide) ?_
  refine zw_iadd hX dX15_step_304 ?_
  obtain ⟨_, gi, h⟩ := zb_some h
  obtain ⟨r26, g, h⟩ := zb_some h
  refine zc_Vi (as := [.int (v24 + (1 : Int32))]) hX gi (zt_X15_charAt (d := d - 1) (by omega) g) zl_X15_113 rfl dX15_step_305 ⟨rfl, rfl, Nat.le_of_ble_eq_true rfl⟩ ⟨by omega, by omega⟩ ?_
  refine zw_bipush (v := (61 : Int32)) hX dX15_step_308 (by decide) ?_
  refine zw_icmp_ne (tgt := 317) hX dX15_step_310 (by decide) (fun c310 => ?_) (fun c310 => ?_)
  · rw [if_neg c310] at h
    refine zw_sub (lv' := [(0, .ref a0), (1, .int i1)]) (List.forall_mem_cons.mpr ⟨rfl, (List.forall_mem_cons.mpr ⟨rfl, zs_nil⟩)⟩) ?_
    exact zt_X15_step_J317 hX hr hR hd h
  · rw [if_pos c310] at h
    refine zw_iconst (v := (1 : Int32)) hX dX15_step_313 (by decide) ?_
    refine zw_goto (tgt := 318) hX dX15_step_314 (by decide) ?_
    refine zw_sub (lv' := [(0, .ref a0), (1, .int i1)]) (List.forall_mem_cons.mpr ⟨rfl, (List.forall_mem_cons.mpr ⟨rfl, zs_nil⟩)⟩) ?_
    exact zt_X15_step_J318 hX hr hR hd h
set_option maxHeartbeats 4000000 in
set_option maxRecDepth 100000 in
theorem zt_X15_step_L212 {p : Program} {l : Launch} {e : Env} {R : Room} {s : State} {m : MethodId} {args : Array Value} {below : List Frame} {meth : Method} {c : Code} {V : zm_V} {mc ms d rc rs : Nat} (hX : zm_X p R s m args meth c RX15 "step" cX15_step 3 zk_E V mc ms) (hr : meth.sig.returnType = none) (hR : R.frames = d ∧ R.locals = 64 * d) (hd : 2 ≤ d) {N : Nat} {res : (Unit × zm_S) ⊕ ((Unit) × zm_S)} {out : (Unit × zm_S)} (a0 : Nat) (hf : ∀ o, res = .inl o → o = out) (hk : ∀ (S' : zm_S), res = .inr ((), S') → zw p l e R s m args below meth c (vx_MQ below (zm_Qc zk_E V (zo_v out)) (zm_XC zk_E V zo_x) args s mc ms (fun q => V.2.2.2.1 ≤ q)) 3 zk_E V mc ms 260 [(0, .ref a0)] [] S' rc rs) : ∀ (n : Nat)  (S : zm_S), zf_X15_step_L212 N n a0 S = some res → zw p l e R s m args below meth c (vx_MQ below (zm_Qc zk_E V (zo_v out)) (zm_XC zk_E V zo_x) args s mc ms (fun q => V.2.2.2.1 ≤ q)) 3 zk_E V mc ms 212 [(0, .ref a0)] [] S rc rs := by
  intro n
  induction n with
  | zero => intro  S h; cases h
  | succ n ih =>
    intro  S h
    rw [zf_X15_step_L212] at h
    refine zw_aload_n hX dX15_step_212 rfl ?_
    refine zw_aload_n hX dX15_step_213 rfl ?_
    obtain ⟨v38, g, h⟩ := zb_some h
    refine zw_geti hX zl_X15_93 dX15_step_214 g ?_
    obtain ⟨_, gi, h⟩ := zb_some h
    obtain ⟨r40, g, h⟩ := zb_some h
    refine zc_Vi (as := [.int v38]) hX gi (zt_X15_charAt (d := d - 1) (by omega) g) zl_X15_113 rfl dX15_step_217 ⟨rfl, rfl, Nat.le_of_ble_eq_true rfl⟩ ⟨by omega, by omega⟩ ?_
    obtain ⟨r42, g, h⟩ := zb_some h
    refine zc_Si (as := [.int r40.1]) hX (zt_X15_isLetter (d := d - 1) (by omega) g) zl_X15_125 dX15_step_220 ⟨rfl, rfl, Nat.le_of_ble_eq_true rfl⟩ ⟨by omega, by omega⟩ ?_
    refine zw_if_eq (tgt := 260) hX dX15_step_223 (by decide) (fun c223 => ?_) (fun c223 => ?_)
    · rw [if_pos c223] at h
      refine zw_sub (lv' := [(0, .ref a0)]) (List.forall_mem_cons.mpr ⟨rfl, zs_nil⟩) ?_
      exact hk  _ (Option.some.inj h).symm
    · rw [if_neg c223] at h
      refine zw_aload_n hX dX15_step_226 rfl ?_
      refine zw_aload_n hX dX15_step_227 rfl ?_
      obtain ⟨w43, g, h⟩ := zb_some h
      refine zw_getl hX zl_X15_102 dX15_step_228 g ?_
      refine zw_bipush (v := (8 : Int32)) hX dX15_step_231 (by decide) ?_
      refine zw_lshl hX dX15_step_233 ?_
      refine zw_aload_n hX dX15_step_234 rfl ?_
      refine zw_aload_n hX dX15_step_235 rfl ?_
      obtain ⟨v44, g, h⟩ := zb_some h
      refine zw_geti hX zl_X15_93 dX15_step_236 g ?_
      obtain ⟨_, gi, h⟩ := zb_some h
      obtain ⟨r46, g, h⟩ := zb_some h
      refine zc_Vi (as := [.int v44]) hX gi (zt_X15_charAt (d := d - 1) (by omega) g) zl_X15_113 rfl dX15_step_239 ⟨rfl, rfl, Nat.le_of_ble_eq_true rfl⟩ ⟨by omega, by omega⟩ ?_
      refine zw_i2l hX dX15_step_242 ?_
      refine zw_lor hX dX15_step_243 ?_
      obtain ⟨S47, g, h⟩ := zb_some h
      refine zw_putv hX zl_X15_102 zt_15_29 dX15_step_244 rfl rfl g ?_
      refine zw_aload_n hX dX15_step_247 rfl ?_
      refine zw_dup hX dX15_step_248 rfl ?_
      obtain ⟨v48, g, h⟩ := zb_some h
      refine zw_geti hX zl_X15_93 dX15_step_249 g ?_
      refine zw_iconst (v := (1 : Int32)) hX dX15_step_252 (by decide) ?_
      refine zw_iadd hX dX15_step_253 ?_
      obtain ⟨S49, g, h⟩ := zb_some h
      refine zw_putv hX zl_X15_93 zt_15_27 dX15_step_254 rfl rfl g ?_
      refine zw_goto (tgt := 212) hX dX15_step_257 (by decide) ?_
      refine zw_sub (lv' := [(0, .ref a0)]) (List.forall_mem_cons.mpr ⟨rfl, zs_nil⟩) ?_
      exact ih  _ h
set_option maxHeartbeats 4000000 in
set_option maxRecDepth 100000 in
theorem zt_X15_step_J280 {p : Program} {l : Launch} {e : Env} {R : Room} {s : State} {m : MethodId} {args : Array Value} {below : List Frame} {meth : Method} {c : Code} {V : zm_V} {mc ms d rc rs : Nat} (hX : zm_X p R s m args meth c RX15 "step" cX15_step 3 zk_E V mc ms) (hr : meth.sig.returnType = none) (hR : R.frames = d ∧ R.locals = 64 * d) (hd : 2 ≤ d) {N : Nat} {a0 : Nat} {t0 : Nat} {t1 : Int32} {out : (Unit × zm_S)} {S : zm_S} (h : zf_X15_step_J280 N a0 t0 t1 S = some out) : zw p l e R s m args below meth c (vx_MQ below (zm_Qc zk_E V (zo_v out)) (zm_XC zk_E V zo_x) args s mc ms (fun q => V.2.2.2.1 ≤ q)) 3 zk_E V mc ms 280 [(0, .ref a0)] [.int t1, .ref t0] S rc rs := by
  unfold zf_X15_step_J280 at h
  obtain ⟨S53, g, h⟩ := zb_some h
  obtain ⟨gz, g⟩ := zp_z_spec g
  refine zw_putv hX zl_X15_121 zt_15_31 dX15_step_280 (zn_z gz) (zf_z gz) g ?_
  refine zw_goto (tgt := 370) hX dX15_step_283 (by decide) ?_
  refine zw_sub (lv' := [(0, .ref a0)]) (List.forall_mem_cons.mpr ⟨rfl, zs_nil⟩) ?_
  exact zt_X15_step_J370 hX hr hR hd h
set_option maxHeartbeats 4000000 in
set_option maxRecDepth 100000 in
theorem zt_X15_step_J158 {p : Program} {l : Launch} {e : Env} {R : Room} {s : State} {m : MethodId} {args : Array Value} {below : List Frame} {meth : Method} {c : Code} {V : zm_V} {mc ms d rc rs : Nat} (hX : zm_X p R s m args meth c RX15 "step" cX15_step 3 zk_E V mc ms) (hr : meth.sig.returnType = none) (hR : R.frames = d ∧ R.locals = 64 * d) (hd : 2 ≤ d) {N : Nat} {k : Nat → zm_S → Option ((Unit × zm_S) ⊕ ((Unit) × zm_S))} {a0 : Nat} {t0 : Nat} {t1 : Int64} {res : (Unit × zm_S) ⊕ ((Unit) × zm_S)} {out : (Unit × zm_S)}   (hf : ∀ o, res = .inl o → o = out) (hk : ∀ (S' : zm_S), res = .inr ((), S') → zw p l e R s m args below meth c (vx_MQ below (zm_Qc zk_E V (zo_v out)) (zm_XC zk_E V zo_x) args s mc ms (fun q => V.2.2.2.1 ≤ q)) 3 zk_E V mc ms 174 [(0, .ref a0)] [] S' rc rs) (hrec : ∀  (S : zm_S), k a0 S = some res → zw p l e R s m args below meth c (vx_MQ below (zm_Qc zk_E V (zo_v out)) (zm_XC zk_E V zo_x) args s mc ms (fun q => V.2.2.2.1 ≤ q)) 3 zk_E V mc ms 100 [(0, .ref a0)] [] S rc rs) {S : zm_S} (h : zf_X15_step_J158 N k a0 t0 t1 S = some res) : zw p l e R s m args below meth c (vx_MQ below (zm_Qc zk_E V (zo_v out)) (zm_XC zk_E V zo_x) args s mc ms (fun q => V.2.2.2.1 ≤ q)) 3 zk_E V mc ms 158 [(0, .ref a0)] [.long t1, .ref t0] S rc rs := by
  unfold zf_X15_step_J158 at h
  obtain ⟨S63, g, h⟩ := zb_some h
  refine zw_putv hX zl_X15_102 zt_15_29 dX15_step_158 rfl rfl g ?_
  refine zw_aload_n hX dX15_step_161 rfl ?_
  refine zw_dup hX dX15_step_162 rfl ?_
  obtain ⟨v64, g, h⟩ := zb_some h
  refine zw_geti hX zl_X15_93 dX15_step_163 g ?_
  refine zw_iconst (v := (1 : Int32)) hX dX15_step_166 (by decide) ?_
  refine zw_iadd hX dX15_step_167 ?_
  obtain ⟨S65, g, h⟩ := zb_some h
  refine zw_putv hX zl_X15_93 zt_15_27 dX15_step_168 rfl rfl g ?_
  refine zw_goto (tgt := 100) hX dX15_step_171 (by decide) ?_
  refine zw_sub (lv' := [(0, .ref a0)]) (List.forall_mem_cons.mpr ⟨rfl, zs_nil⟩) ?_
  exact hrec  _ h
set_option maxHeartbeats 4000000 in
set_option maxRecDepth 100000 in
theorem zt_X15_step_L100 {p : Program} {l : Launch} {e : Env} {R : Room} {s : State} {m : MethodId} {args : Array Value} {below : List Frame} {meth : Method} {c : Code} {V : zm_V} {mc ms d rc rs : Nat} (hX : zm_X p R s m args meth c RX15 "step" cX15_step 3 zk_E V mc ms) (hr : meth.sig.returnType = none) (hR : R.frames = d ∧ R.locals = 64 * d) (hd : 2 ≤ d) {N : Nat} {res : (Unit × zm_S) ⊕ ((Unit) × zm_S)} {out : (Unit × zm_S)} (a0 : Nat) (hf : ∀ o, res = .inl o → o = out) (hk : ∀ (S' : zm_S), res = .inr ((), S') → zw p l e R s m args below meth c (vx_MQ below (zm_Qc zk_E V (zo_v out)) (zm_XC zk_E V zo_x) args s mc ms (fun q => V.2.2.2.1 ≤ q)) 3 zk_E V mc ms 174 [(0, .ref a0)] [] S' rc rs) : ∀ (n : Nat)  (S : zm_S), zf_X15_step_L100 N n a0 S = some res → zw p l e R s m args below meth c (vx_MQ below (zm_Qc zk_E V (zo_v out)) (zm_XC zk_E V zo_x) args s mc ms (fun q => V.2.2.2.1 ≤ q)) 3 zk_E V mc ms 100 [(0, .ref a0)] [] S rc rs := by
  intro n
  induction n with
  | zero => intro  S h; cases h
  | succ n ih =>
    intro  S h
    rw [zf_X15_step_L100] at h
    refine zw_aload_n hX dX15_step_100 rfl ?_
    refine zw_aload_n hX dX15_step_101 rfl ?_
    obtain ⟨v55, g, h⟩ := zb_some h
    refine zw_geti hX zl_X15_93 dX15_step_102 g ?_
    obtain ⟨_, gi, h⟩ := zb_some h
    obtain ⟨r57, g, h⟩ := zb_some h
    refine zc_Vi (as := [.int v55]) hX gi (zt_X15_charAt (d := d - 1) (by omega) g) zl_X15_113 rfl dX15_step_105 ⟨rfl, rfl, Nat.le_of_ble_eq_true rfl⟩ ⟨by omega, by omega⟩ ?_
    obtain ⟨r59, g, h⟩ := zb_some h
    refine zc_Si (as := [.int r57.1]) hX (zt_X15_isDigit (d := d - 1) (by omega) g) zl_X15_109 dX15_step_108 ⟨rfl, rfl, Nat.le_of_ble_eq_true rfl⟩ ⟨by omega, by omega⟩ ?_
    refine zw_if_eq (tgt := 174) hX dX15_step_111 (by decide) (fun c111 => ?_) (fun c111 => ?_)
    · rw [if_pos c111] at h
      refine zw_sub (lv' := [(0, .ref a0)]) (List.forall_mem_cons.mpr ⟨rfl, zs_nil⟩) ?_
      exact hk  _ (Option.some.inj h).symm
    · rw [if_neg c111] at h
      refine zw_aload_n hX dX15_step_114 rfl ?_
      refine zw_aload_n hX dX15_step_115 rfl ?_
      obtain ⟨v60, g, h⟩ := zb_some h
      refine zw_geti hX zl_X15_93 dX15_step_116 g ?_
      refine zw_aload_n hX dX15_step_119 rfl ?_
      obtain ⟨v61, g, h⟩ := zb_some h
      refine zw_geti hX zl_X15_96 dX15_step_120 g ?_
      refine zw_isub hX dX15_step_123 ?_
      refine zw_bipush (v := (9 : Int32)) hX dX15_step_124 (by decide) ?_
      refine zw_icmp_ge (tgt := 154) hX dX15_step_126 (by decide) (fun c126 => ?_) (fun c126 => ?_)
      · rw [if_pos c126] at h
        refine zw_aload_n hX dX15_step_154 rfl ?_
        obtain ⟨w62, g, h⟩ := zb_some h
        refine zw_getl hX zl_X15_102 dX15_step_155 g ?_
        refine zw_sub (lv' := [(0, .ref a0)]) (List.forall_mem_cons.mpr ⟨rfl, zs_nil⟩) ?_
        exact zt_X15_step_J158 hX hr hR hd hf hk ih h
      · rw [if_neg c126] at h
        refine zw_ldc2 (v := (10 : Int64)) hX dX15_step_129 zl_X15_117 ?_
        refine zw_aload_n hX dX15_step_132 rfl ?_
        obtain ⟨w66, g, h⟩ := zb_some h
        refine zw_getl hX zl_X15_102 dX15_step_133 g ?_
        refine zw_lmul hX dX15_step_136 ?_
        refine zw_aload_n hX dX15_step_137 rfl ?_
        refine zw_aload_n hX dX15_step_138 rfl ?_
        obtain ⟨v67, g, h⟩ := zb_some h
        refine zw_geti hX zl_X15_93 dX15_step_139 g ?_
        obtain ⟨_, gi, h⟩ := zb_some h
        obtain ⟨r69, g, h⟩ := zb_some h
        refine zc_Vi (as := [.int v67]) hX gi (zt_X15_charAt (d := d - 1) (by omega) g) zl_X15_113 rfl dX15_step_142 ⟨rfl, rfl, Nat.le_of_ble_eq_true rfl⟩ ⟨by omega, by omega⟩ ?_
        refine zw_i2l hX dX15_step_145 ?_
        refine zw_ladd hX dX15_step_146 ?_
        refine zw_ldc2 (v := (48 : Int64)) hX dX15_step_147 zl_X15_119 ?_
        refine zw_lsub hX dX15_step_150 ?_
        refine zw_goto (tgt := 158) hX dX15_step_151 (by decide) ?_
        refine zw_sub (lv' := [(0, .ref a0)]) (List.forall_mem_cons.mpr ⟨rfl, zs_nil⟩) ?_
        exact zt_X15_step_J158 hX hr hR hd hf hk ih h
set_option maxHeartbeats 4000000 in
set_option maxRecDepth 100000 in
theorem zt_X15_step_J194 {p : Program} {l : Launch} {e : Env} {R : Room} {s : State} {m : MethodId} {args : Array Value} {below : List Frame} {meth : Method} {c : Code} {V : zm_V} {mc ms d rc rs : Nat} (hX : zm_X p R s m args meth c RX15 "step" cX15_step 3 zk_E V mc ms) (hr : meth.sig.returnType = none) (hR : R.frames = d ∧ R.locals = 64 * d) (hd : 2 ≤ d) {N : Nat} {a0 : Nat} {t0 : Nat} {t1 : Int32} {out : (Unit × zm_S)} {S : zm_S} (h : zf_X15_step_J194 N a0 t0 t1 S = some out) : zw p l e R s m args below meth c (vx_MQ below (zm_Qc zk_E V (zo_v out)) (zm_XC zk_E V zo_x) args s mc ms (fun q => V.2.2.2.1 ≤ q)) 3 zk_E V mc ms 194 [(0, .ref a0)] [.int t1, .ref t0] S rc rs := by
  unfold zf_X15_step_J194 at h
  obtain ⟨S73, g, h⟩ := zb_some h
  obtain ⟨gz, g⟩ := zp_z_spec g
  refine zw_putv hX zl_X15_121 zt_15_31 dX15_step_194 (zn_z gz) (zf_z gz) g ?_
  refine zw_goto (tgt := 370) hX dX15_step_197 (by decide) ?_
  refine zw_sub (lv' := [(0, .ref a0)]) (List.forall_mem_cons.mpr ⟨rfl, zs_nil⟩) ?_
  exact zt_X15_step_J370 hX hr hR hd h
set_option maxHeartbeats 4000000 in
set_option maxRecDepth 100000 in
theorem zt_X15_step_J38 {p : Program} {l : Launch} {e : Env} {R : Room} {s : State} {m : MethodId} {args : Array Value} {below : List Frame} {meth : Method} {c : Code} {V : zm_V} {mc ms d rc rs : Nat} (hX : zm_X p R s m args meth c RX15 "step" cX15_step 3 zk_E V mc ms) (hr : meth.sig.returnType = none) (hR : R.frames = d ∧ R.locals = 64 * d) (hd : 2 ≤ d) {N : Nat} {a0 : Nat} {out : (Unit × zm_S)} {S : zm_S} (h : zf_X15_step_J38 N a0 S = some out) : zw p l e R s m args below meth c (vx_MQ below (zm_Qc zk_E V (zo_v out)) (zm_XC zk_E V zo_x) args s mc ms (fun q => V.2.2.2.1 ≤ q)) 3 zk_E V mc ms 38 [(0, .ref a0)] [] S rc rs := by
  unfold zf_X15_step_J38 at h
  refine zw_aload_n hX dX15_step_38 rfl ?_
  refine zw_aload_n hX dX15_step_39 rfl ?_
  obtain ⟨v9, g, h⟩ := zb_some h
  refine zw_geti hX zl_X15_93 dX15_step_40 g ?_
  obtain ⟨S10, g, h⟩ := zb_some h
  refine zw_putv hX zl_X15_96 zt_15_26 dX15_step_43 rfl rfl g ?_
  refine zw_aload_n hX dX15_step_46 rfl ?_
  refine zw_iconst (v := (0 : Int32)) hX dX15_step_47 (by decide) ?_
  obtain ⟨S11, g, h⟩ := zb_some h
  refine zw_putv hX zl_X15_99 zt_15_28 dX15_step_48 rfl rfl g ?_
  refine zw_aload_n hX dX15_step_51 rfl ?_
  refine zw_lconst (v := (0 : Int64)) hX dX15_step_52 (by decide) ?_
  obtain ⟨S12, g, h⟩ := zb_some h
  refine zw_putv hX zl_X15_102 zt_15_29 dX15_step_53 rfl rfl g ?_
  refine zw_aload_n hX dX15_step_56 rfl ?_
  obtain ⟨v13, g, h⟩ := zb_some h
  refine zw_geti hX zl_X15_96 dX15_step_57 g ?_
  refine zw_aload_n hX dX15_step_60 rfl ?_
  obtain ⟨v14, g, h⟩ := zb_some h
  refine zw_geti hX zl_X15_90 dX15_step_61 g ?_
  refine zw_icmp_ne (tgt := 68) hX dX15_step_64 (by decide) (fun c64 => ?_) (fun c64 => ?_)
  · rw [if_neg c64] at h
    refine zw_aload_n hX dX15_step_68 rfl ?_
    obtain ⟨b15, g, h⟩ := zb_some h
    refine zw_getr hX zl_X15_7 dX15_step_69 g ?_
    refine zw_aload_n hX dX15_step_72 rfl ?_
    obtain ⟨v16, g, h⟩ := zb_some h
    refine zw_geti hX zl_X15_96 dX15_step_73 g ?_
    obtain ⟨v17, g, h⟩ := zb_some h
    refine zw_xi hX dX15_step_76 g ?_
    refine zw_istore_n hX dX15_step_77 (by decide) ?_
    refine zw_aload_n hX dX15_step_78 rfl ?_
    refine zw_dup hX dX15_step_79 rfl ?_
    obtain ⟨v18, g, h⟩ := zb_some h
    refine zw_geti hX zl_X15_106 dX15_step_80 g ?_
    refine zw_iconst (v := (1 : Int32)) hX dX15_step_83 (by decide) ?_
    refine zw_iadd hX dX15_step_84 ?_
    obtain ⟨S19, g, h⟩ := zb_some h
    refine zw_putv hX zl_X15_106 zt_15_30 dX15_step_85 rfl rfl g ?_
    refine zw_iload_n hX dX15_step_88 rfl ?_
    obtain ⟨r21, g, h⟩ := zb_some h
    refine zc_Si (as := [.int v17]) hX (zt_X15_isDigit (d := d - 1) (by omega) g) zl_X15_109 dX15_step_89 ⟨rfl, rfl, Nat.le_of_ble_eq_true rfl⟩ ⟨by omega, by omega⟩ ?_
    refine zw_if_eq (tgt := 200) hX dX15_step_92 (by decide) (fun c92 => ?_) (fun c92 => ?_)
    · rw [if_pos c92] at h
      refine zw_iload_n hX dX15_step_200 rfl ?_
      obtain ⟨r23, g, h⟩ := zb_some h
      refine zc_Si (as := [.int v17]) hX (zt_X15_isLetter (d := d - 1) (by omega) g) zl_X15_125 dX15_step_201 ⟨rfl, rfl, Nat.le_of_ble_eq_true rfl⟩ ⟨by omega, by omega⟩ ?_
      refine zw_if_eq (tgt := 286) hX dX15_step_204 (by decide) (fun c204 => ?_) (fun c204 => ?_)
      · rw [if_pos c204] at h
        refine zw_iload_n hX dX15_step_286 rfl ?_
        refine zw_bipush (v := (60 : Int32)) hX dX15_step_287 (by decide) ?_
        refine zw_icmp_eq (tgt := 298) hX dX15_step_289 (by decide) (fun c289 => ?_) (fun c289 => ?_)
        · rw [if_pos c289] at h
          refine zw_sub (lv' := [(0, .ref a0), (1, .int v17)]) (List.forall_mem_cons.mpr ⟨rfl, (List.forall_mem_cons.mpr ⟨rfl, zs_nil⟩)⟩) ?_
          exact zt_X15_step_J298 hX hr hR hd h
        · rw [if_neg c289] at h
          refine zw_iload_n hX dX15_step_292 rfl ?_
          refine zw_bipush (v := (62 : Int32)) hX dX15_step_293 (by decide) ?_
          refine zw_icmp_ne (tgt := 317) hX dX15_step_295 (by decide) (fun c295 => ?_) (fun c295 => ?_)
          · rw [if_neg c295] at h
            refine zw_sub (lv' := [(0, .ref a0), (1, .int v17)]) (List.forall_mem_cons.mpr ⟨rfl, (List.forall_mem_cons.mpr ⟨rfl, zs_nil⟩)⟩) ?_
            exact zt_X15_step_J317 hX hr hR hd h
          · rw [if_pos c295] at h
            refine zw_sub (lv' := [(0, .ref a0), (1, .int v17)]) (List.forall_mem_cons.mpr ⟨rfl, (List.forall_mem_cons.mpr ⟨rfl, zs_nil⟩)⟩) ?_
            exact zt_X15_step_J298 hX hr hR hd h
      · rw [if_neg c204] at h
        refine zw_aload_n hX dX15_step_207 rfl ?_
        refine zw_iconst (v := (2 : Int32)) hX dX15_step_208 (by decide) ?_
        obtain ⟨S37, g, h⟩ := zb_some h
        refine zw_putv hX zl_X15_99 zt_15_28 dX15_step_209 rfl rfl g ?_
        obtain ⟨r, g, h⟩ := zb_some h
        refine zw_sub (lv' := [(0, .ref a0)]) (List.forall_mem_cons.mpr ⟨rfl, zs_nil⟩) ?_
        refine zt_X15_step_L212 hX hr hR hd (res := r) (out := out) a0 ?_ ?_ N  _ g
        · intro o ho
          subst ho
          exact Option.some.inj h
        · intro  S50 hx
          subst hx
          try dsimp only at h
          refine zw_aload_n hX dX15_step_260 rfl ?_
          refine zw_aload_n hX dX15_step_261 rfl ?_
          obtain ⟨v51, g, h⟩ := zb_some h
          refine zw_geti hX zl_X15_93 dX15_step_262 g ?_
          refine zw_aload_n hX dX15_step_265 rfl ?_
          obtain ⟨v52, g, h⟩ := zb_some h
          refine zw_geti hX zl_X15_96 dX15_step_266 g ?_
          refine zw_isub hX dX15_step_269 ?_
          refine zw_bipush (v := (8 : Int32)) hX dX15_step_270 (by decide) ?_
          refine zw_icmp_le (tgt := 279) hX dX15_step_272 (by decide) (fun c272 => ?_) (fun c272 => ?_)
          · rw [if_pos c272] at h
            refine zw_iconst (v := (0 : Int32)) hX dX15_step_279 (by decide) ?_
            refine zw_sub (lv' := [(0, .ref a0)]) (List.forall_mem_cons.mpr ⟨rfl, zs_nil⟩) ?_
            exact zt_X15_step_J280 hX hr hR hd h
          · rw [if_neg c272] at h
            refine zw_iconst (v := (1 : Int32)) hX dX15_step_275 (by decide) ?_
            refine zw_goto (tgt := 280) hX dX15_step_276 (by decide) ?_
            refine zw_sub (lv' := [(0, .ref a0)]) (List.forall_mem_cons.mpr ⟨rfl, zs_nil⟩) ?_
            exact zt_X15_step_J280 hX hr hR hd h
    · rw [if_neg c92] at h
      refine zw_aload_n hX dX15_step_95 rfl ?_
      refine zw_iconst (v := (1 : Int32)) hX dX15_step_96 (by decide) ?_
      obtain ⟨S54, g, h⟩ := zb_some h
      refine zw_putv hX zl_X15_99 zt_15_28 dX15_step_97 rfl rfl g ?_
      obtain ⟨r, g, h⟩ := zb_some h
      refine zw_sub (lv' := [(0, .ref a0)]) (List.forall_mem_cons.mpr ⟨rfl, zs_nil⟩) ?_
      refine zt_X15_step_L100 hX hr hR hd (res := r) (out := out) a0 ?_ ?_ N  _ g
      · intro o ho
        subst ho
        exact Option.some.inj h
      · intro  S70 hx
        subst hx
        try dsimp only at h
        refine zw_aload_n hX dX15_step_174 rfl ?_
        refine zw_aload_n hX dX15_step_175 rfl ?_
        obtain ⟨v71, g, h⟩ := zb_some h
        refine zw_geti hX zl_X15_93 dX15_step_176 g ?_
        refine zw_aload_n hX dX15_step_179 rfl ?_
        obtain ⟨v72, g, h⟩ := zb_some h
        refine zw_geti hX zl_X15_96 dX15_step_180 g ?_
        refine zw_isub hX dX15_step_183 ?_
        refine zw_bipush (v := (9 : Int32)) hX dX15_step_184 (by decide) ?_
        refine zw_icmp_le (tgt := 193) hX dX15_step_186 (by decide) (fun c186 => ?_) (fun c186 => ?_)
        · rw [if_pos c186] at h
          refine zw_iconst (v := (0 : Int32)) hX dX15_step_193 (by decide) ?_
          refine zw_sub (lv' := [(0, .ref a0)]) (List.forall_mem_cons.mpr ⟨rfl, zs_nil⟩) ?_
          exact zt_X15_step_J194 hX hr hR hd h
        · rw [if_neg c186] at h
          refine zw_iconst (v := (1 : Int32)) hX dX15_step_189 (by decide) ?_
          refine zw_goto (tgt := 194) hX dX15_step_190 (by decide) ?_
          refine zw_sub (lv' := [(0, .ref a0)]) (List.forall_mem_cons.mpr ⟨rfl, zs_nil⟩) ?_
          exact zt_X15_step_J194 hX hr hR hd h
  · rw [if_pos c64] at h
    obtain rfl := Option.some.inj h
    exact zw_vret hX hr dX15_step_67 ⟨rfl, rfl⟩
set_option maxHeartbeats 4000000 in
set_option maxRecDepth 100000 in
theorem zt_X15_step {l : Launch} {V : zm_V} {N : Nat} {S : zm_S} {out : (Unit × zm_S)} {d : Nat} {a0 : Nat} (hd : 2 ≤ d) (h : zf_X15_step N a0 S = some out) : zm_Met l zk_E V yX15_step (.code yX15_step cX15_step 3 none) d [.ref a0] S 0 0 (zo_v out) zo_x := by
  refine zm_of (by decide +kernel) (Nat.le_of_ble_eq_true rfl) ?_
  intro p e R s m args below meth c hRR hX hr hxt
  have hR : R.frames = d ∧ R.locals = 64 * d := by rw [hRR]; exact ⟨rfl, rfl⟩
  have hX : zm_X p R s m args meth c RX15 "step" cX15_step 3 zk_E V 0 0 := hX
  unfold zf_X15_step at h
  refine zw_sub (lv' := [(0, .ref a0)]) (List.forall_mem_cons.mpr ⟨rfl, zs_nil⟩) ?_
  obtain ⟨r, g, h⟩ := zb_some h
  refine zw_sub (lv' := [(0, .ref a0)]) (List.forall_mem_cons.mpr ⟨rfl, zs_nil⟩) ?_
  refine zt_X15_step_L0 hX hr hR hd (res := r) (out := out) a0 ?_ ?_ N  _ g
  · intro o ho
    subst ho
    exact Option.some.inj h
  · intro  S8 hx
    subst hx
    try dsimp only at h
    refine zw_sub (lv' := [(0, .ref a0)]) (List.forall_mem_cons.mpr ⟨rfl, zs_nil⟩) ?_
    exact zt_X15_step_J38 hX hr hR hd h
set_option maxHeartbeats 4000000 in
set_option maxRecDepth 100000 in
theorem zt_X15_take_J17 {p : Program} {l : Launch} {e : Env} {R : Room} {s : State} {m : MethodId} {args : Array Value} {below : List Frame} {meth : Method} {c : Code} {V : zm_V} {mc ms d rc rs : Nat} (hX : zm_X p R s m args meth c RX15 "take" cX15_take 2 zk_E V mc ms) (hr : meth.sig.returnType = none) (hR : R.frames = d ∧ R.locals = 64 * d) (hd : 3 ≤ d) {N : Nat} {a0 : Nat} {t0 : Nat} {t1 : Int32} {out : (Unit × zm_S)} {S : zm_S} (h : zf_X15_take_J17 N a0 t0 t1 S = some out) : zw p l e R s m args below meth c (vx_MQ below (zm_Qc zk_E V (zo_v out)) (zm_XC zk_E V zo_x) args s mc ms (fun q => V.2.2.2.1 ≤ q)) 2 zk_E V mc ms 17 [(0, .ref a0)] [.int t1, .ref t0] S rc rs := by
  unfold zf_X15_take_J17 at h
  obtain ⟨S2, g, h⟩ := zb_some h
  obtain ⟨gz, g⟩ := zp_z_spec g
  refine zw_putv hX zl_X15_121 zt_15_31 dX15_take_17 (zn_z gz) (zf_z gz) g ?_
  refine zw_aload_n hX dX15_take_20 rfl ?_
  obtain ⟨v3, g, h⟩ := zb_some h
  refine zw_geti hX zl_X15_121 dX15_take_21 g ?_
  refine zw_if_ne (tgt := 31) hX dX15_take_24 (by decide) (fun c24 => ?_) (fun c24 => ?_)
  · rw [if_neg c24] at h
    obtain rfl := Option.some.inj h
    exact zw_vret hX hr dX15_take_31 ⟨rfl, rfl⟩
  · rw [if_pos c24] at h
    refine zw_aload_n hX dX15_take_27 rfl ?_
    obtain ⟨_, gi, h⟩ := zb_some h
    obtain ⟨r5, g, h⟩ := zb_some h
    refine zc_Vv (as := []) hX gi (zt_X15_step (d := d - 1) (by omega) g) zl_X15_131 rfl dX15_take_28 ⟨rfl, rfl, Nat.le_of_ble_eq_true rfl⟩ ⟨by omega, by omega⟩ ?_
    obtain rfl := Option.some.inj h
    exact zw_vret hX hr dX15_take_31 ⟨rfl, rfl⟩
set_option maxHeartbeats 4000000 in
set_option maxRecDepth 100000 in
theorem zt_X15_take_J12 {p : Program} {l : Launch} {e : Env} {R : Room} {s : State} {m : MethodId} {args : Array Value} {below : List Frame} {meth : Method} {c : Code} {V : zm_V} {mc ms d rc rs : Nat} (hX : zm_X p R s m args meth c RX15 "take" cX15_take 2 zk_E V mc ms) (hr : meth.sig.returnType = none) (hR : R.frames = d ∧ R.locals = 64 * d) (hd : 3 ≤ d) {N : Nat} {a0 : Nat} {t0 : Nat} {out : (Unit × zm_S)} {S : zm_S} (h : zf_X15_take_J12 N a0 t0 S = some out) : zw p l e R s m args below meth c (vx_MQ below (zm_Qc zk_E V (zo_v out)) (zm_XC zk_E V zo_x) args s mc ms (fun q => V.2.2.2.1 ≤ q)) 2 zk_E V mc ms 12 [(0, .ref a0)] [.ref t0] S rc rs := by
  unfold zf_X15_take_J12 at h
  refine zw_iconst (v := (1 : Int32)) hX dX15_take_12 (by decide) ?_
  refine zw_goto (tgt := 17) hX dX15_take_13 (by decide) ?_
  refine zw_sub (lv' := [(0, .ref a0)]) (List.forall_mem_cons.mpr ⟨rfl, zs_nil⟩) ?_
  exact zt_X15_take_J17 hX hr hR hd h
set_option maxHeartbeats 4000000 in
set_option maxRecDepth 100000 in
theorem zt_X15_take {l : Launch} {V : zm_V} {N : Nat} {S : zm_S} {out : (Unit × zm_S)} {d : Nat} {a0 : Nat} {i1 : Int32} (hd : 3 ≤ d) (h : zf_X15_take N a0 i1 S = some out) : zm_Met l zk_E V yX15_take (.code yX15_take cX15_take 2 none) d [.ref a0, .int i1] S 0 0 (zo_v out) zo_x := by
  refine zm_of (by decide +kernel) (Nat.le_of_ble_eq_true rfl) ?_
  intro p e R s m args below meth c hRR hX hr hxt
  have hR : R.frames = d ∧ R.locals = 64 * d := by rw [hRR]; exact ⟨rfl, rfl⟩
  have hX : zm_X p R s m args meth c RX15 "take" cX15_take 2 zk_E V 0 0 := hX
  unfold zf_X15_take at h
  refine zw_sub (lv' := [(0, .ref a0), (1, .int i1)]) (List.forall_mem_cons.mpr ⟨rfl, (List.forall_mem_cons.mpr ⟨rfl, zs_nil⟩)⟩) ?_
  refine zw_aload_n hX dX15_take_0 rfl ?_
  refine zw_aload_n hX dX15_take_1 rfl ?_
  obtain ⟨v1, g, h⟩ := zb_some h
  refine zw_geti hX zl_X15_121 dX15_take_2 g ?_
  refine zw_if_ne (tgt := 12) hX dX15_take_5 (by decide) (fun c5 => ?_) (fun c5 => ?_)
  · rw [if_neg c5] at h
    refine zw_sub (lv' := [(0, .ref a0)]) (List.forall_mem_cons.mpr ⟨rfl, zs_nil⟩) ?_
    exact zt_X15_take_J12 hX hr hR hd h
  · rw [if_pos c5] at h
    refine zw_iload_n hX dX15_take_8 rfl ?_
    refine zw_if_ne (tgt := 16) hX dX15_take_9 (by decide) (fun c9 => ?_) (fun c9 => ?_)
    · rw [if_neg c9] at h
      refine zw_iconst (v := (0 : Int32)) hX dX15_take_16 (by decide) ?_
      refine zw_sub (lv' := [(0, .ref a0)]) (List.forall_mem_cons.mpr ⟨rfl, zs_nil⟩) ?_
      exact zt_X15_take_J17 hX hr hR hd h
    · rw [if_pos c9] at h
      refine zw_sub (lv' := [(0, .ref a0)]) (List.forall_mem_cons.mpr ⟨rfl, zs_nil⟩) ?_
      exact zt_X15_take_J12 hX hr hR hd h
set_option maxHeartbeats 4000000 in
set_option maxRecDepth 100000 in
theorem zt_X15_emit {l : Launch} {V : zm_V} {N : Nat} {S : zm_S} {out : (Unit × zm_S)} {d : Nat} {a0 : Nat} {i1 : Int32} {j2 : Int64} (hd : 1 ≤ d) (h : zf_X15_emit N a0 i1 j2 S = some out) : zm_Met l zk_E V yX15_emit (.code yX15_emit cX15_emit 4 none) d [.ref a0, .int i1, .long j2] S 0 0 (zo_v out) zo_x := by
  refine zm_of (by decide +kernel) (Nat.le_of_ble_eq_true rfl) ?_
  intro p e R s m args below meth c hRR hX hr hxt
  have hR : R.frames = d ∧ R.locals = 64 * d := by rw [hRR]; exact ⟨rfl, rfl⟩
  have hX : zm_X p R s m args meth c RX15 "emit" cX15_emit 4 zk_E V 0 0 := hX
  unfold zf_X15_emit at h
  refine zw_sub (lv' := [(0, .ref a0), (1, .int i1), (2, .long j2)]) (List.forall_mem_cons.mpr ⟨rfl, (List.forall_mem_cons.mpr ⟨rfl, (List.forall_mem_cons.mpr ⟨rfl, zs_nil⟩)⟩)⟩) ?_
  refine zw_aload_n hX dX15_emit_0 rfl ?_
  obtain ⟨b1, g, h⟩ := zb_some h
  refine zw_getr hX zl_X15_44 dX15_emit_1 g ?_
  refine zw_sipush (v := (400 : Int32)) hX dX15_emit_4 (by decide) ?_
  refine zw_aload_n hX dX15_emit_7 rfl ?_
  obtain ⟨v2, g, h⟩ := zb_some h
  refine zw_geti hX zl_X15_134 dX15_emit_8 g ?_
  refine zw_iadd hX dX15_emit_11 ?_
  refine zw_iload_n hX dX15_emit_12 rfl ?_
  obtain ⟨S3, g, h⟩ := zb_some h
  refine zw_si hX dX15_emit_13 g ?_
  refine zw_aload_n hX dX15_emit_14 rfl ?_
  obtain ⟨b4, g, h⟩ := zb_some h
  refine zw_getr hX zl_X15_47 dX15_emit_15 g ?_
  refine zw_sipush (v := (400 : Int32)) hX dX15_emit_18 (by decide) ?_
  refine zw_aload_n hX dX15_emit_21 rfl ?_
  obtain ⟨v5, g, h⟩ := zb_some h
  refine zw_geti hX zl_X15_134 dX15_emit_22 g ?_
  refine zw_iadd hX dX15_emit_25 ?_
  refine zw_lload_n hX dX15_emit_26 rfl ?_
  obtain ⟨S6, g, h⟩ := zb_some h
  refine zw_sl hX dX15_emit_27 g ?_
  refine zw_aload_n hX dX15_emit_28 rfl ?_
  refine zw_dup hX dX15_emit_29 rfl ?_
  obtain ⟨v7, g, h⟩ := zb_some h
  refine zw_geti hX zl_X15_134 dX15_emit_30 g ?_
  refine zw_iconst (v := (1 : Int32)) hX dX15_emit_33 (by decide) ?_
  refine zw_iadd hX dX15_emit_34 ?_
  obtain ⟨S8, g, h⟩ := zb_some h
  refine zw_putv hX zl_X15_134 zt_15_34 dX15_emit_35 rfl rfl g ?_
  obtain rfl := Option.some.inj h
  exact zw_vret hX hr dX15_emit_38 ⟨rfl, rfl⟩
set_option maxHeartbeats 4000000 in
set_option maxRecDepth 100000 in
theorem zt_X15_unpile_J42 {p : Program} {l : Launch} {e : Env} {R : Room} {s : State} {m : MethodId} {args : Array Value} {below : List Frame} {meth : Method} {c : Code} {V : zm_V} {mc ms d rc rs : Nat} (hX : zm_X p R s m args meth c RX15 "unpile" cX15_unpile 2 zk_E V mc ms) (hr : meth.sig.returnType = none) (hR : R.frames = d ∧ R.locals = 64 * d) (hd : 2 ≤ d) {N : Nat} {k : Nat → Int32 → zm_S → Option ((Unit × zm_S) ⊕ ((Unit) × zm_S))} {a0 : Nat} {i1 : Int32} {res : (Unit × zm_S) ⊕ ((Unit) × zm_S)} {out : (Unit × zm_S)}   (hf : ∀ o, res = .inl o → o = out) (hk : ∀ (S' : zm_S), res = .inr ((), S') → zw p l e R s m args below meth c (vx_MQ below (zm_Qc zk_E V (zo_v out)) (zm_XC zk_E V zo_x) args s mc ms (fun q => V.2.2.2.1 ≤ q)) 2 zk_E V mc ms 69 [] [] S' rc rs) (hrec : ∀  (S : zm_S), k a0 i1 S = some res → zw p l e R s m args below meth c (vx_MQ below (zm_Qc zk_E V (zo_v out)) (zm_XC zk_E V zo_x) args s mc ms (fun q => V.2.2.2.1 ≤ q)) 2 zk_E V mc ms 0 [(0, .ref a0), (1, .int i1)] [] S rc rs) {S : zm_S} (h : zf_X15_unpile_J42 N k a0 i1 S = some res) : zw p l e R s m args below meth c (vx_MQ below (zm_Qc zk_E V (zo_v out)) (zm_XC zk_E V zo_x) args s mc ms (fun q => V.2.2.2.1 ≤ q)) 2 zk_E V mc ms 42 [(0, .ref a0), (1, .int i1)] [] S rc rs := by
  unfold zf_X15_unpile_J42 at h
  refine zw_aload_n hX dX15_unpile_42 rfl ?_
  refine zw_dup hX dX15_unpile_43 rfl ?_
  obtain ⟨v8, g, h⟩ := zb_some h
  refine zw_geti hX zl_X15_137 dX15_unpile_44 g ?_
  refine zw_iconst (v := (1 : Int32)) hX dX15_unpile_47 (by decide) ?_
  refine zw_isub hX dX15_unpile_48 ?_
  obtain ⟨S9, g, h⟩ := zb_some h
  refine zw_putv hX zl_X15_137 zt_15_36 dX15_unpile_49 rfl rfl g ?_
  refine zw_aload_n hX dX15_unpile_52 rfl ?_
  refine zw_aload_n hX dX15_unpile_53 rfl ?_
  obtain ⟨b10, g, h⟩ := zb_some h
  refine zw_getr hX zl_X15_75 dX15_unpile_54 g ?_
  refine zw_aload_n hX dX15_unpile_57 rfl ?_
  obtain ⟨v11, g, h⟩ := zb_some h
  refine zw_geti hX zl_X15_137 dX15_unpile_58 g ?_
  obtain ⟨v12, g, h⟩ := zb_some h
  refine zw_xi hX dX15_unpile_61 g ?_
  refine zw_lconst (v := (0 : Int64)) hX dX15_unpile_62 (by decide) ?_
  obtain ⟨_, gi, h⟩ := zb_some h
  obtain ⟨r14, g, h⟩ := zb_some h
  refine zc_Vv (as := [.int v12, .long (0 : Int64)]) hX gi (zt_X15_emit (d := d - 1) (by omega) g) zl_X15_140 rfl dX15_unpile_63 ⟨rfl, rfl, Nat.le_of_ble_eq_true rfl⟩ ⟨by omega, by omega⟩ ?_
  refine zw_goto (tgt := 0) hX dX15_unpile_66 (by decide) ?_
  refine zw_sub (lv' := [(0, .ref a0), (1, .int i1)]) (List.forall_mem_cons.mpr ⟨rfl, (List.forall_mem_cons.mpr ⟨rfl, zs_nil⟩)⟩) ?_
  exact hrec  _ h
set_option maxHeartbeats 4000000 in
set_option maxRecDepth 100000 in
theorem zt_X15_unpile_L0 {p : Program} {l : Launch} {e : Env} {R : Room} {s : State} {m : MethodId} {args : Array Value} {below : List Frame} {meth : Method} {c : Code} {V : zm_V} {mc ms d rc rs : Nat} (hX : zm_X p R s m args meth c RX15 "unpile" cX15_unpile 2 zk_E V mc ms) (hr : meth.sig.returnType = none) (hR : R.frames = d ∧ R.locals = 64 * d) (hd : 2 ≤ d) {N : Nat} {res : (Unit × zm_S) ⊕ ((Unit) × zm_S)} {out : (Unit × zm_S)} (a0 : Nat) (i1 : Int32) (hf : ∀ o, res = .inl o → o = out) (hk : ∀ (S' : zm_S), res = .inr ((), S') → zw p l e R s m args below meth c (vx_MQ below (zm_Qc zk_E V (zo_v out)) (zm_XC zk_E V zo_x) args s mc ms (fun q => V.2.2.2.1 ≤ q)) 2 zk_E V mc ms 69 [] [] S' rc rs) : ∀ (n : Nat)  (S : zm_S), zf_X15_unpile_L0 N n a0 i1 S = some res → zw p l e R s m args below meth c (vx_MQ below (zm_Qc zk_E V (zo_v out)) (zm_XC zk_E V zo_x) args s mc ms (fun q => V.2.2.2.1 ≤ q)) 2 zk_E V mc ms 0 [(0, .ref a0), (1, .int i1)] [] S rc rs := by
  intro n
  induction n with
  | zero => intro  S h; cases h
  | succ n ih =>
    intro  S h
    rw [zf_X15_unpile_L0] at h
    refine zw_aload_n hX dX15_unpile_0 rfl ?_
    obtain ⟨v1, g, h⟩ := zb_some h
    refine zw_geti hX zl_X15_137 dX15_unpile_1 g ?_
    refine zw_if_le (tgt := 69) hX dX15_unpile_4 (by decide) (fun c4 => ?_) (fun c4 => ?_)
    · rw [if_pos c4] at h
      refine zw_sub (lv' := []) zs_nil ?_
      exact hk  _ (Option.some.inj h).symm
    · rw [if_neg c4] at h
      refine zw_aload_n hX dX15_unpile_7 rfl ?_
      obtain ⟨b2, g, h⟩ := zb_some h
      refine zw_getr hX zl_X15_75 dX15_unpile_8 g ?_
      refine zw_aload_n hX dX15_unpile_11 rfl ?_
      obtain ⟨v3, g, h⟩ := zb_some h
      refine zw_geti hX zl_X15_137 dX15_unpile_12 g ?_
      refine zw_iconst (v := (1 : Int32)) hX dX15_unpile_15 (by decide) ?_
      refine zw_isub hX dX15_unpile_16 ?_
      obtain ⟨v4, g, h⟩ := zb_some h
      refine zw_xi hX dX15_unpile_17 g ?_
      refine zw_iconst (v := (1 : Int32)) hX dX15_unpile_18 (by decide) ?_
      refine zw_icmp_le (tgt := 69) hX dX15_unpile_19 (by decide) (fun c19 => ?_) (fun c19 => ?_)
      · rw [if_pos c19] at h
        refine zw_sub (lv' := []) zs_nil ?_
        exact hk  _ (Option.some.inj h).symm
      · rw [if_neg c19] at h
        refine zw_aload_n hX dX15_unpile_22 rfl ?_
        obtain ⟨b5, g, h⟩ := zb_some h
        refine zw_getr hX zl_X15_75 dX15_unpile_23 g ?_
        refine zw_aload_n hX dX15_unpile_26 rfl ?_
        obtain ⟨v6, g, h⟩ := zb_some h
        refine zw_geti hX zl_X15_137 dX15_unpile_27 g ?_
        refine zw_iconst (v := (1 : Int32)) hX dX15_unpile_30 (by decide) ?_
        refine zw_isub hX dX15_unpile_31 ?_
        obtain ⟨v7, g, h⟩ := zb_some h
        refine zw_xi hX dX15_unpile_32 g ?_
        refine zw_iconst (v := (3 : Int32)) hX dX15_unpile_33 (by decide) ?_
        refine zw_icmp_gt (tgt := 42) hX dX15_unpile_34 (by decide) (fun c34 => ?_) (fun c34 => ?_)
        · rw [if_pos c34] at h
          refine zw_sub (lv' := [(0, .ref a0), (1, .int i1)]) (List.forall_mem_cons.mpr ⟨rfl, (List.forall_mem_cons.mpr ⟨rfl, zs_nil⟩)⟩) ?_
          exact zt_X15_unpile_J42 hX hr hR hd hf hk ih h
        · rw [if_neg c34] at h
          refine zw_iload_n hX dX15_unpile_37 rfl ?_
          refine zw_iconst (v := (2 : Int32)) hX dX15_unpile_38 (by decide) ?_
          refine zw_icmp_ge (tgt := 69) hX dX15_unpile_39 (by decide) (fun c39 => ?_) (fun c39 => ?_)
          · rw [if_pos c39] at h
            refine zw_sub (lv' := []) zs_nil ?_
            exact hk  _ (Option.some.inj h).symm
          · rw [if_neg c39] at h
            refine zw_sub (lv' := [(0, .ref a0), (1, .int i1)]) (List.forall_mem_cons.mpr ⟨rfl, (List.forall_mem_cons.mpr ⟨rfl, zs_nil⟩)⟩) ?_
            exact zt_X15_unpile_J42 hX hr hR hd hf hk ih h
set_option maxHeartbeats 4000000 in
set_option maxRecDepth 100000 in
theorem zt_X15_unpile {l : Launch} {V : zm_V} {N : Nat} {S : zm_S} {out : (Unit × zm_S)} {d : Nat} {a0 : Nat} {i1 : Int32} (hd : 2 ≤ d) (h : zf_X15_unpile N a0 i1 S = some out) : zm_Met l zk_E V yX15_unpile (.code yX15_unpile cX15_unpile 2 none) d [.ref a0, .int i1] S 0 0 (zo_v out) zo_x := by
  refine zm_of (by decide +kernel) (Nat.le_of_ble_eq_true rfl) ?_
  intro p e R s m args below meth c hRR hX hr hxt
  have hR : R.frames = d ∧ R.locals = 64 * d := by rw [hRR]; exact ⟨rfl, rfl⟩
  have hX : zm_X p R s m args meth c RX15 "unpile" cX15_unpile 2 zk_E V 0 0 := hX
  unfold zf_X15_unpile at h
  refine zw_sub (lv' := [(0, .ref a0), (1, .int i1)]) (List.forall_mem_cons.mpr ⟨rfl, (List.forall_mem_cons.mpr ⟨rfl, zs_nil⟩)⟩) ?_
  obtain ⟨r, g, h⟩ := zb_some h
  refine zw_sub (lv' := [(0, .ref a0), (1, .int i1)]) (List.forall_mem_cons.mpr ⟨rfl, (List.forall_mem_cons.mpr ⟨rfl, zs_nil⟩)⟩) ?_
  refine zt_X15_unpile_L0 hX hr hR hd (res := r) (out := out) a0 i1 ?_ ?_ N  _ g
  · intro o ho
    subst ho
    exact Option.some.inj h
  · intro  S15 hx
    subst hx
    try dsimp only at h
    obtain rfl := Option.some.inj h
    exact zw_vret hX hr dX15_unpile_69 ⟨rfl, rfl⟩

