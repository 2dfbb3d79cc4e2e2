/-! ===== functions of methods, by program (wip/whole/tools/gen11.py) ===== -/
theorem dX1_beginCharacter_0 : decode cX1_beginCharacter 0 = .ok (.aload_n 0, 1) := by decide +kernel
theorem dX1_beginCharacter_1 : decode cX1_beginCharacter 1 = .ok (.iconst 0, 1) := by decide +kernel
theorem dX1_beginCharacter_2 : decode cX1_beginCharacter 2 = .ok (.putfield 136, 3) := by decide +kernel
theorem dX1_beginCharacter_5 : decode cX1_beginCharacter 5 = .ok (.aload_n 0, 1) := by decide +kernel
theorem dX1_beginCharacter_6 : decode cX1_beginCharacter 6 = .ok (.iconst 1, 1) := by decide +kernel
theorem dX1_beginCharacter_7 : decode cX1_beginCharacter 7 = .ok (.putfield 33, 3) := by decide +kernel
theorem dX1_beginCharacter_10 : decode cX1_beginCharacter 10 = .ok (.return_, 1) := by decide +kernel
theorem dX1_beginHearing_0 : decode cX1_beginHearing 0 = .ok (.aload_n 0, 1) := by decide +kernel
theorem dX1_beginHearing_1 : decode cX1_beginHearing 1 = .ok (.iconst 0, 1) := by decide +kernel
theorem dX1_beginHearing_2 : decode cX1_beginHearing 2 = .ok (.putfield 148, 3) := by decide +kernel
theorem dX1_beginHearing_5 : decode cX1_beginHearing 5 = .ok (.aload_n 0, 1) := by decide +kernel
theorem dX1_beginHearing_6 : decode cX1_beginHearing 6 = .ok (.iconst 0, 1) := by decide +kernel
theorem dX1_beginHearing_7 : decode cX1_beginHearing 7 = .ok (.putfield 151, 3) := by decide +kernel
theorem dX1_beginHearing_10 : decode cX1_beginHearing 10 = .ok (.aload_n 0, 1) := by decide +kernel
theorem dX1_beginHearing_11 : decode cX1_beginHearing 11 = .ok (.invokevirtual 145, 3) := by decide +kernel
theorem dX1_beginHearing_14 : decode cX1_beginHearing 14 = .ok (.return_, 1) := by decide +kernel
theorem dX1_takeCharacter_0 : decode cX1_takeCharacter 0 = .ok (.aload_n 0, 1) := by decide +kernel
theorem dX1_takeCharacter_1 : decode cX1_takeCharacter 1 = .ok (.getfield 136, 3) := by decide +kernel
theorem dX1_takeCharacter_4 : decode cX1_takeCharacter 4 = .ok (.iconst 1, 1) := by decide +kernel
theorem dX1_takeCharacter_5 : decode cX1_takeCharacter 5 = .ok (.ishr, 1) := by decide +kernel
theorem dX1_takeCharacter_6 : decode cX1_takeCharacter 6 = .ok (.sipush 255, 3) := by decide +kernel
theorem dX1_takeCharacter_9 : decode cX1_takeCharacter 9 = .ok (.iand, 1) := by decide +kernel
theorem dX1_takeCharacter_10 : decode cX1_takeCharacter 10 = .ok (.istore_n 1, 1) := by decide +kernel
theorem dX1_takeCharacter_11 : decode cX1_takeCharacter 11 = .ok (.aload_n 0, 1) := by decide +kernel
theorem dX1_takeCharacter_12 : decode cX1_takeCharacter 12 = .ok (.getfield 136, 3) := by decide +kernel
theorem dX1_takeCharacter_15 : decode cX1_takeCharacter 15 = .ok (.bipush 9, 2) := by decide +kernel
theorem dX1_takeCharacter_17 : decode cX1_takeCharacter 17 = .ok (.ishr, 1) := by decide +kernel
theorem dX1_takeCharacter_18 : decode cX1_takeCharacter 18 = .ok (.iconst 1, 1) := by decide +kernel
theorem dX1_takeCharacter_19 : decode cX1_takeCharacter 19 = .ok (.iand, 1) := by decide +kernel
theorem dX1_takeCharacter_20 : decode cX1_takeCharacter 20 = .ok (.iload_n 1, 1) := by decide +kernel
theorem dX1_takeCharacter_21 : decode cX1_takeCharacter 21 = .ok (.invokestatic 119, 3) := by decide +kernel
theorem dX1_takeCharacter_24 : decode cX1_takeCharacter 24 = .ok (.iconst 1, 1) := by decide +kernel
theorem dX1_takeCharacter_25 : decode cX1_takeCharacter 25 = .ok (.iand, 1) := by decide +kernel
theorem dX1_takeCharacter_26 : decode cX1_takeCharacter 26 = .ok (.if_icmp .ne 25, 3) := by decide +kernel
theorem dX1_takeCharacter_51 : decode cX1_takeCharacter 51 = .ok (.aload_n 0, 1) := by decide +kernel
theorem dX1_takeCharacter_52 : decode cX1_takeCharacter 52 = .ok (.iconst 1, 1) := by decide +kernel
theorem dX1_takeCharacter_53 : decode cX1_takeCharacter 53 = .ok (.putfield 151, 3) := by decide +kernel
theorem dX1_takeCharacter_56 : decode cX1_takeCharacter 56 = .ok (.aload_n 0, 1) := by decide +kernel
theorem dX1_takeCharacter_57 : decode cX1_takeCharacter 57 = .ok (.getfield 148, 3) := by decide +kernel
theorem dX1_takeCharacter_60 : decode cX1_takeCharacter 60 = .ok (.sipush 600, 3) := by decide +kernel
theorem dX1_takeCharacter_63 : decode cX1_takeCharacter 63 = .ok (.if_icmp .ge 23, 3) := by decide +kernel
theorem dX1_takeCharacter_86 : decode cX1_takeCharacter 86 = .ok (.return_, 1) := by decide +kernel
theorem dX1_takeCharacter_66 : decode cX1_takeCharacter 66 = .ok (.aload_n 0, 1) := by decide +kernel
theorem dX1_takeCharacter_67 : decode cX1_takeCharacter 67 = .ok (.getfield 36, 3) := by decide +kernel
theorem dX1_takeCharacter_70 : decode cX1_takeCharacter 70 = .ok (.aload_n 0, 1) := by decide +kernel
theorem dX1_takeCharacter_71 : decode cX1_takeCharacter 71 = .ok (.getfield 148, 3) := by decide +kernel
theorem dX1_takeCharacter_74 : decode cX1_takeCharacter 74 = .ok (.iload_n 1, 1) := by decide +kernel
theorem dX1_takeCharacter_75 : decode cX1_takeCharacter 75 = .ok (.iastore, 1) := by decide +kernel
theorem dX1_takeCharacter_76 : decode cX1_takeCharacter 76 = .ok (.aload_n 0, 1) := by decide +kernel
theorem dX1_takeCharacter_77 : decode cX1_takeCharacter 77 = .ok (.dup, 1) := by decide +kernel
theorem dX1_takeCharacter_78 : decode cX1_takeCharacter 78 = .ok (.getfield 148, 3) := by decide +kernel
theorem dX1_takeCharacter_81 : decode cX1_takeCharacter 81 = .ok (.iconst 1, 1) := by decide +kernel
theorem dX1_takeCharacter_82 : decode cX1_takeCharacter 82 = .ok (.iadd, 1) := by decide +kernel
theorem dX1_takeCharacter_83 : decode cX1_takeCharacter 83 = .ok (.putfield 148, 3) := by decide +kernel
theorem dX1_takeCharacter_29 : decode cX1_takeCharacter 29 = .ok (.aload_n 0, 1) := by decide +kernel
theorem dX1_takeCharacter_30 : decode cX1_takeCharacter 30 = .ok (.getfield 136, 3) := by decide +kernel
theorem dX1_takeCharacter_33 : decode cX1_takeCharacter 33 = .ok (.bipush 10, 2) := by decide +kernel
theorem dX1_takeCharacter_35 : decode cX1_takeCharacter 35 = .ok (.ishr, 1) := by decide +kernel
theorem dX1_takeCharacter_36 : decode cX1_takeCharacter 36 = .ok (.iconst 1, 1) := by decide +kernel
theorem dX1_takeCharacter_37 : decode cX1_takeCharacter 37 = .ok (.iand, 1) := by decide +kernel
theorem dX1_takeCharacter_38 : decode cX1_takeCharacter 38 = .ok (.ifCond .eq 13, 3) := by decide +kernel
theorem dX1_takeCharacter_41 : decode cX1_takeCharacter 41 = .ok (.aload_n 0, 1) := by decide +kernel
theorem dX1_takeCharacter_42 : decode cX1_takeCharacter 42 = .ok (.getfield 148, 3) := by decide +kernel
theorem dX1_takeCharacter_45 : decode cX1_takeCharacter 45 = .ok (.sipush 600, 3) := by decide +kernel
theorem dX1_takeCharacter_48 : decode cX1_takeCharacter 48 = .ok (.if_icmp .lt 8, 3) := by decide +kernel
theorem dX1_takeTelegram_0 : decode cX1_takeTelegram 0 = .ok (.aload_n 0, 1) := by decide +kernel
theorem dX1_takeTelegram_1 : decode cX1_takeTelegram 1 = .ok (.getfield 36, 3) := by decide +kernel
theorem dX1_takeTelegram_4 : decode cX1_takeTelegram 4 = .ok (.iconst 0, 1) := by decide +kernel
theorem dX1_takeTelegram_5 : decode cX1_takeTelegram 5 = .ok (.aload_n 0, 1) := by decide +kernel
theorem dX1_takeTelegram_6 : decode cX1_takeTelegram 6 = .ok (.getfield 40, 3) := by decide +kernel
theorem dX1_takeTelegram_9 : decode cX1_takeTelegram 9 = .ok (.iconst 0, 1) := by decide +kernel
theorem dX1_takeTelegram_10 : decode cX1_takeTelegram 10 = .ok (.aload_n 0, 1) := by decide +kernel
theorem dX1_takeTelegram_11 : decode cX1_takeTelegram 11 = .ok (.getfield 148, 3) := by decide +kernel
theorem dX1_takeTelegram_14 : decode cX1_takeTelegram 14 = .ok (.invokestatic 127, 3) := by decide +kernel
theorem dX1_takeTelegram_17 : decode cX1_takeTelegram 17 = .ok (.aload_n 0, 1) := by decide +kernel
theorem dX1_takeTelegram_18 : decode cX1_takeTelegram 18 = .ok (.aload_n 0, 1) := by decide +kernel
theorem dX1_takeTelegram_19 : decode cX1_takeTelegram 19 = .ok (.getfield 148, 3) := by decide +kernel
theorem dX1_takeTelegram_22 : decode cX1_takeTelegram 22 = .ok (.putfield 104, 3) := by decide +kernel
theorem dX1_takeTelegram_25 : decode cX1_takeTelegram 25 = .ok (.aload_n 0, 1) := by decide +kernel
theorem dX1_takeTelegram_26 : decode cX1_takeTelegram 26 = .ok (.iload_n 1, 1) := by decide +kernel
theorem dX1_takeTelegram_27 : decode cX1_takeTelegram 27 = .ok (.putfield 43, 3) := by decide +kernel
theorem dX1_takeTelegram_30 : decode cX1_takeTelegram 30 = .ok (.aload_n 0, 1) := by decide +kernel
theorem dX1_takeTelegram_31 : decode cX1_takeTelegram 31 = .ok (.iconst 1, 1) := by decide +kernel
theorem dX1_takeTelegram_32 : decode cX1_takeTelegram 32 = .ok (.putfield 66, 3) := by decide +kernel
theorem dX1_takeTelegram_35 : decode cX1_takeTelegram 35 = .ok (.aload_n 0, 1) := by decide +kernel
theorem dX1_takeTelegram_36 : decode cX1_takeTelegram 36 = .ok (.iconst (-1), 1) := by decide +kernel
theorem dX1_takeTelegram_37 : decode cX1_takeTelegram 37 = .ok (.putfield 46, 3) := by decide +kernel
theorem dX1_takeTelegram_40 : decode cX1_takeTelegram 40 = .ok (.aload_n 0, 1) := by decide +kernel
theorem dX1_takeTelegram_41 : decode cX1_takeTelegram 41 = .ok (.getfield 49, 3) := by decide +kernel
theorem dX1_takeTelegram_44 : decode cX1_takeTelegram 44 = .ok (.iconst 0, 1) := by decide +kernel
theorem dX1_takeTelegram_45 : decode cX1_takeTelegram 45 = .ok (.dup2, 1) := by decide +kernel
theorem dX1_takeTelegram_46 : decode cX1_takeTelegram 46 = .ok (.iaload, 1) := by decide +kernel
theorem dX1_takeTelegram_47 : decode cX1_takeTelegram 47 = .ok (.iconst 1, 1) := by decide +kernel
theorem dX1_takeTelegram_48 : decode cX1_takeTelegram 48 = .ok (.iadd, 1) := by decide +kernel
theorem dX1_takeTelegram_49 : decode cX1_takeTelegram 49 = .ok (.iastore, 1) := by decide +kernel
theorem dX1_takeTelegram_50 : decode cX1_takeTelegram 50 = .ok (.aload_n 0, 1) := by decide +kernel
theorem dX1_takeTelegram_51 : decode cX1_takeTelegram 51 = .ok (.invokevirtual 94, 3) := by decide +kernel
theorem dX1_takeTelegram_54 : decode cX1_takeTelegram 54 = .ok (.ifCond .eq 57, 3) := by decide +kernel
theorem dX1_takeTelegram_111 : decode cX1_takeTelegram 111 = .ok (.return_, 1) := by decide +kernel
theorem dX1_takeTelegram_57 : decode cX1_takeTelegram 57 = .ok (.aload_n 0, 1) := by decide +kernel
theorem dX1_takeTelegram_58 : decode cX1_takeTelegram 58 = .ok (.getfield 49, 3) := by decide +kernel
theorem dX1_takeTelegram_61 : decode cX1_takeTelegram 61 = .ok (.iconst 1, 1) := by decide +kernel
theorem dX1_takeTelegram_62 : decode cX1_takeTelegram 62 = .ok (.dup2, 1) := by decide +kernel
theorem dX1_takeTelegram_63 : decode cX1_takeTelegram 63 = .ok (.iaload, 1) := by decide +kernel
theorem dX1_takeTelegram_64 : decode cX1_takeTelegram 64 = .ok (.iconst 1, 1) := by decide +kernel
theorem dX1_takeTelegram_65 : decode cX1_takeTelegram 65 = .ok (.iadd, 1) := by decide +kernel
theorem dX1_takeTelegram_66 : decode cX1_takeTelegram 66 = .ok (.iastore, 1) := by decide +kernel
theorem dX1_takeTelegram_67 : decode cX1_takeTelegram 67 = .ok (.aload_n 0, 1) := by decide +kernel
theorem dX1_takeTelegram_68 : decode cX1_takeTelegram 68 = .ok (.invokevirtual 101, 3) := by decide +kernel
theorem dX1_takeTelegram_71 : decode cX1_takeTelegram 71 = .ok (.istore_n 2, 1) := by decide +kernel
theorem dX1_takeTelegram_72 : decode cX1_takeTelegram 72 = .ok (.aload_n 0, 1) := by decide +kernel
theorem dX1_takeTelegram_73 : decode cX1_takeTelegram 73 = .ok (.getfield 40, 3) := by decide +kernel
theorem dX1_takeTelegram_76 : decode cX1_takeTelegram 76 = .ok (.iconst 5, 1) := by decide +kernel
theorem dX1_takeTelegram_77 : decode cX1_takeTelegram 77 = .ok (.iaload, 1) := by decide +kernel
theorem dX1_takeTelegram_78 : decode cX1_takeTelegram 78 = .ok (.sipush 128, 3) := by decide +kernel
theorem dX1_takeTelegram_81 : decode cX1_takeTelegram 81 = .ok (.if_icmp .lt 30, 3) := by decide +kernel
theorem dX1_takeTelegram_84 : decode cX1_takeTelegram 84 = .ok (.iload_n 2, 1) := by decide +kernel
theorem dX1_takeTelegram_85 : decode cX1_takeTelegram 85 = .ok (.iconst 4, 1) := by decide +kernel
theorem dX1_takeTelegram_86 : decode cX1_takeTelegram 86 = .ok (.if_icmp .lt 25, 3) := by decide +kernel
theorem dX1_takeTelegram_89 : decode cX1_takeTelegram 89 = .ok (.iload_n 2, 1) := by decide +kernel
theorem dX1_takeTelegram_90 : decode cX1_takeTelegram 90 = .ok (.bipush 10, 2) := by decide +kernel
theorem dX1_takeTelegram_92 : decode cX1_takeTelegram 92 = .ok (.if_icmp .ge 19, 3) := by decide +kernel
theorem dX1_takeTelegram_95 : decode cX1_takeTelegram 95 = .ok (.aload_n 0, 1) := by decide +kernel
theorem dX1_takeTelegram_96 : decode cX1_takeTelegram 96 = .ok (.getfield 52, 3) := by decide +kernel
theorem dX1_takeTelegram_99 : decode cX1_takeTelegram 99 = .ok (.getfield 159, 3) := by decide +kernel
theorem dX1_takeTelegram_102 : decode cX1_takeTelegram 102 = .ok (.iload_n 2, 1) := by decide +kernel
theorem dX1_takeTelegram_103 : decode cX1_takeTelegram 103 = .ok (.aload_n 0, 1) := by decide +kernel
theorem dX1_takeTelegram_104 : decode cX1_takeTelegram 104 = .ok (.getfield 40, 3) := by decide +kernel
theorem dX1_takeTelegram_107 : decode cX1_takeTelegram 107 = .ok (.bipush 6, 2) := by decide +kernel
theorem dX1_takeTelegram_109 : decode cX1_takeTelegram 109 = .ok (.iaload, 1) := by decide +kernel
theorem dX1_takeTelegram_110 : decode cX1_takeTelegram 110 = .ok (.iastore, 1) := by decide +kernel
theorem dX1_complete_0 : decode cX1_complete 0 = .ok (.aload_n 0, 1) := by decide +kernel
theorem dX1_complete_1 : decode cX1_complete 1 = .ok (.getfield 60, 3) := by decide +kernel
theorem dX1_complete_4 : decode cX1_complete 4 = .ok (.aload_n 0, 1) := by decide +kernel
theorem dX1_complete_5 : decode cX1_complete 5 = .ok (.getfield 33, 3) := by decide +kernel
theorem dX1_complete_8 : decode cX1_complete 8 = .ok (.bipush 11, 2) := by decide +kernel
theorem dX1_complete_10 : decode cX1_complete 10 = .ok (.isub, 1) := by decide +kernel
theorem dX1_complete_11 : decode cX1_complete 11 = .ok (.iconst 1, 1) := by decide +kernel
theorem dX1_complete_12 : decode cX1_complete 12 = .ok (.iadd, 1) := by decide +kernel
theorem dX1_complete_13 : decode cX1_complete 13 = .ok (.isub, 1) := by decide +kernel
theorem dX1_complete_14 : decode cX1_complete 14 = .ok (.istore_n 1, 1) := by decide +kernel
theorem dX1_complete_15 : decode cX1_complete 15 = .ok (.aload_n 0, 1) := by decide +kernel
theorem dX1_complete_16 : decode cX1_complete 16 = .ok (.getfield 148, 3) := by decide +kernel
theorem dX1_complete_19 : decode cX1_complete 19 = .ok (.bipush 8, 2) := by decide +kernel
theorem dX1_complete_21 : decode cX1_complete 21 = .ok (.if_icmp .lt 16, 3) := by decide +kernel
theorem dX1_complete_37 : decode cX1_complete 37 = .ok (.aload_n 0, 1) := by decide +kernel
theorem dX1_complete_38 : decode cX1_complete 38 = .ok (.iconst 0, 1) := by decide +kernel
theorem dX1_complete_39 : decode cX1_complete 39 = .ok (.putfield 66, 3) := by decide +kernel
theorem dX1_complete_42 : decode cX1_complete 42 = .ok (.aload_n 0, 1) := by decide +kernel
theorem dX1_complete_43 : decode cX1_complete 43 = .ok (.getfield 148, 3) := by decide +kernel
theorem dX1_complete_46 : decode cX1_complete 46 = .ok (.iconst 1, 1) := by decide +kernel
theorem dX1_complete_47 : decode cX1_complete 47 = .ok (.if_icmp .ne 30, 3) := by decide +kernel
theorem dX1_complete_77 : decode cX1_complete 77 = .ok (.iconst 0, 1) := by decide +kernel
theorem dX1_complete_78 : decode cX1_complete 78 = .ok (.istore_n 2, 1) := by decide +kernel
theorem dX1_complete_79 : decode cX1_complete 79 = .ok (.iload_n 2, 1) := by decide +kernel
theorem dX1_complete_80 : decode cX1_complete 80 = .ok (.ifCond .eq 40, 3) := by decide +kernel
theorem dX1_complete_120 : decode cX1_complete 120 = .ok (.aload_n 0, 1) := by decide +kernel
theorem dX1_complete_121 : decode cX1_complete 121 = .ok (.getfield 49, 3) := by decide +kernel
theorem dX1_complete_124 : decode cX1_complete 124 = .ok (.iconst 2, 1) := by decide +kernel
theorem dX1_complete_125 : decode cX1_complete 125 = .ok (.dup2, 1) := by decide +kernel
theorem dX1_complete_126 : decode cX1_complete 126 = .ok (.iaload, 1) := by decide +kernel
theorem dX1_complete_127 : decode cX1_complete 127 = .ok (.iconst 1, 1) := by decide +kernel
theorem dX1_complete_128 : decode cX1_complete 128 = .ok (.iadd, 1) := by decide +kernel
theorem dX1_complete_129 : decode cX1_complete 129 = .ok (.iastore, 1) := by decide +kernel
theorem dX1_complete_130 : decode cX1_complete 130 = .ok (.return_, 1) := by decide +kernel
theorem dX1_complete_83 : decode cX1_complete 83 = .ok (.aload_n 0, 1) := by decide +kernel
theorem dX1_complete_84 : decode cX1_complete 84 = .ok (.aload_n 0, 1) := by decide +kernel
theorem dX1_complete_85 : decode cX1_complete 85 = .ok (.getfield 36, 3) := by decide +kernel
theorem dX1_complete_88 : decode cX1_complete 88 = .ok (.iconst 0, 1) := by decide +kernel
theorem dX1_complete_89 : decode cX1_complete 89 = .ok (.iaload, 1) := by decide +kernel
theorem dX1_complete_90 : decode cX1_complete 90 = .ok (.putfield 46, 3) := by decide +kernel
theorem dX1_complete_93 : decode cX1_complete 93 = .ok (.aload_n 0, 1) := by decide +kernel
theorem dX1_complete_94 : decode cX1_complete 94 = .ok (.getfield 49, 3) := by decide +kernel
theorem dX1_complete_97 : decode cX1_complete 97 = .ok (.aload_n 0, 1) := by decide +kernel
theorem dX1_complete_98 : decode cX1_complete 98 = .ok (.getfield 46, 3) := by decide +kernel
theorem dX1_complete_101 : decode cX1_complete 101 = .ok (.sipush 204, 3) := by decide +kernel
theorem dX1_complete_104 : decode cX1_complete 104 = .ok (.if_icmp .ne 7, 3) := by decide +kernel
theorem dX1_complete_111 : decode cX1_complete 111 = .ok (.iconst 4, 1) := by decide +kernel
theorem dX1_complete_112 : decode cX1_complete 112 = .ok (.dup2, 1) := by decide +kernel
theorem dX1_complete_113 : decode cX1_complete 113 = .ok (.iaload, 1) := by decide +kernel
theorem dX1_complete_114 : decode cX1_complete 114 = .ok (.iconst 1, 1) := by decide +kernel
theorem dX1_complete_115 : decode cX1_complete 115 = .ok (.iadd, 1) := by decide +kernel
theorem dX1_complete_116 : decode cX1_complete 116 = .ok (.iastore, 1) := by decide +kernel
theorem dX1_complete_117 : decode cX1_complete 117 = .ok (.goto 13, 3) := by decide +kernel
theorem dX1_complete_107 : decode cX1_complete 107 = .ok (.iconst 3, 1) := by decide +kernel
theorem dX1_complete_108 : decode cX1_complete 108 = .ok (.goto 4, 3) := by decide +kernel
theorem dX1_complete_50 : decode cX1_complete 50 = .ok (.aload_n 0, 1) := by decide +kernel
theorem dX1_complete_51 : decode cX1_complete 51 = .ok (.getfield 151, 3) := by decide +kernel
theorem dX1_complete_54 : decode cX1_complete 54 = .ok (.ifCond .ne 23, 3) := by decide +kernel
theorem dX1_complete_57 : decode cX1_complete 57 = .ok (.iload_n 1, 1) := by decide +kernel
theorem dX1_complete_58 : decode cX1_complete 58 = .ok (.aload_n 0, 1) := by decide +kernel
theorem dX1_complete_59 : decode cX1_complete 59 = .ok (.getfield 43, 3) := by decide +kernel
theorem dX1_complete_62 : decode cX1_complete 62 = .ok (.bipush 14, 2) := by decide +kernel
theorem dX1_complete_64 : decode cX1_complete 64 = .ok (.iadd, 1) := by decide +kernel
theorem dX1_complete_65 : decode cX1_complete 65 = .ok (.bipush 11, 2) := by decide +kernel
theorem dX1_complete_67 : decode cX1_complete 67 = .ok (.iadd, 1) := by decide +kernel
theorem dX1_complete_68 : decode cX1_complete 68 = .ok (.iconst 1, 1) := by decide +kernel
theorem dX1_complete_69 : decode cX1_complete 69 = .ok (.isub, 1) := by decide +kernel
theorem dX1_complete_70 : decode cX1_complete 70 = .ok (.if_icmp .ne 7, 3) := by decide +kernel
theorem dX1_complete_73 : decode cX1_complete 73 = .ok (.iconst 1, 1) := by decide +kernel
theorem dX1_complete_74 : decode cX1_complete 74 = .ok (.goto 4, 3) := by decide +kernel
theorem dX1_complete_24 : decode cX1_complete 24 = .ok (.aload_n 0, 1) := by decide +kernel
theorem dX1_complete_25 : decode cX1_complete 25 = .ok (.getfield 151, 3) := by decide +kernel
theorem dX1_complete_28 : decode cX1_complete 28 = .ok (.ifCond .ne 9, 3) := by decide +kernel
theorem dX1_complete_31 : decode cX1_complete 31 = .ok (.aload_n 0, 1) := by decide +kernel
theorem dX1_complete_32 : decode cX1_complete 32 = .ok (.iload_n 1, 1) := by decide +kernel
theorem dX1_complete_33 : decode cX1_complete 33 = .ok (.invokevirtual 154, 3) := by decide +kernel
theorem dX1_complete_36 : decode cX1_complete 36 = .ok (.return_, 1) := by decide +kernel
theorem dX1_hear_0 : decode cX1_hear 0 = .ok (.aload_n 0, 1) := by decide +kernel
theorem dX1_hear_1 : decode cX1_hear 1 = .ok (.getfield 33, 3) := by decide +kernel
theorem dX1_hear_4 : decode cX1_hear 4 = .ok (.iconst (-1), 1) := by decide +kernel
theorem dX1_hear_5 : decode cX1_hear 5 = .ok (.if_icmp .ne 14, 3) := by decide +kernel
theorem dX1_hear_19 : decode cX1_hear 19 = .ok (.aload_n 0, 1) := by decide +kernel
theorem dX1_hear_20 : decode cX1_hear 20 = .ok (.getfield 33, 3) := by decide +kernel
theorem dX1_hear_23 : decode cX1_hear 23 = .ok (.bipush 11, 2) := by decide +kernel
theorem dX1_hear_25 : decode cX1_hear 25 = .ok (.if_icmp .ge 44, 3) := by decide +kernel
theorem dX1_hear_69 : decode cX1_hear 69 = .ok (.aload_n 0, 1) := by decide +kernel
theorem dX1_hear_70 : decode cX1_hear 70 = .ok (.getfield 33, 3) := by decide +kernel
theorem dX1_hear_73 : decode cX1_hear 73 = .ok (.bipush 13, 2) := by decide +kernel
theorem dX1_hear_75 : decode cX1_hear 75 = .ok (.if_icmp .ge 32, 3) := by decide +kernel
theorem dX1_hear_107 : decode cX1_hear 107 = .ok (.iload_n 1, 1) := by decide +kernel
theorem dX1_hear_108 : decode cX1_hear 108 = .ok (.iconst 1, 1) := by decide +kernel
theorem dX1_hear_109 : decode cX1_hear 109 = .ok (.if_icmp .ne 15, 3) := by decide +kernel
theorem dX1_hear_124 : decode cX1_hear 124 = .ok (.aload_n 0, 1) := by decide +kernel
theorem dX1_hear_125 : decode cX1_hear 125 = .ok (.invokevirtual 145, 3) := by decide +kernel
theorem dX1_hear_128 : decode cX1_hear 128 = .ok (.return_, 1) := by decide +kernel
theorem dX1_hear_112 : decode cX1_hear 112 = .ok (.aload_n 0, 1) := by decide +kernel
theorem dX1_hear_113 : decode cX1_hear 113 = .ok (.invokevirtual 142, 3) := by decide +kernel
theorem dX1_hear_116 : decode cX1_hear 116 = .ok (.aload_n 0, 1) := by decide +kernel
theorem dX1_hear_117 : decode cX1_hear 117 = .ok (.iconst (-1), 1) := by decide +kernel
theorem dX1_hear_118 : decode cX1_hear 118 = .ok (.putfield 33, 3) := by decide +kernel
theorem dX1_hear_121 : decode cX1_hear 121 = .ok (.goto 7, 3) := by decide +kernel
theorem dX1_hear_78 : decode cX1_hear 78 = .ok (.iload_n 1, 1) := by decide +kernel
theorem dX1_hear_79 : decode cX1_hear 79 = .ok (.iconst 1, 1) := by decide +kernel
theorem dX1_hear_80 : decode cX1_hear 80 = .ok (.if_icmp .ne 16, 3) := by decide +kernel
theorem dX1_hear_96 : decode cX1_hear 96 = .ok (.aload_n 0, 1) := by decide +kernel
theorem dX1_hear_97 : decode cX1_hear 97 = .ok (.invokevirtual 142, 3) := by decide +kernel
theorem dX1_hear_100 : decode cX1_hear 100 = .ok (.aload_n 0, 1) := by decide +kernel
theorem dX1_hear_101 : decode cX1_hear 101 = .ok (.invokevirtual 133, 3) := by decide +kernel
theorem dX1_hear_104 : decode cX1_hear 104 = .ok (.goto 24, 3) := by decide +kernel
theorem dX1_hear_83 : decode cX1_hear 83 = .ok (.aload_n 0, 1) := by decide +kernel
theorem dX1_hear_84 : decode cX1_hear 84 = .ok (.dup, 1) := by decide +kernel
theorem dX1_hear_85 : decode cX1_hear 85 = .ok (.getfield 33, 3) := by decide +kernel
theorem dX1_hear_88 : decode cX1_hear 88 = .ok (.iconst 1, 1) := by decide +kernel
theorem dX1_hear_89 : decode cX1_hear 89 = .ok (.iadd, 1) := by decide +kernel
theorem dX1_hear_90 : decode cX1_hear 90 = .ok (.putfield 33, 3) := by decide +kernel
theorem dX1_hear_93 : decode cX1_hear 93 = .ok (.goto 35, 3) := by decide +kernel
theorem dX1_hear_28 : decode cX1_hear 28 = .ok (.aload_n 0, 1) := by decide +kernel
theorem dX1_hear_29 : decode cX1_hear 29 = .ok (.aload_n 0, 1) := by decide +kernel
theorem dX1_hear_30 : decode cX1_hear 30 = .ok (.getfield 136, 3) := by decide +kernel
theorem dX1_hear_33 : decode cX1_hear 33 = .ok (.iload_n 1, 1) := by decide +kernel
theorem dX1_hear_34 : decode cX1_hear 34 = .ok (.aload_n 0, 1) := by decide +kernel
theorem dX1_hear_35 : decode cX1_hear 35 = .ok (.getfield 33, 3) := by decide +kernel
theorem dX1_hear_38 : decode cX1_hear 38 = .ok (.ishl, 1) := by decide +kernel
theorem dX1_hear_39 : decode cX1_hear 39 = .ok (.ior, 1) := by decide +kernel
theorem dX1_hear_40 : decode cX1_hear 40 = .ok (.putfield 136, 3) := by decide +kernel
theorem dX1_hear_43 : decode cX1_hear 43 = .ok (.aload_n 0, 1) := by decide +kernel
theorem dX1_hear_44 : decode cX1_hear 44 = .ok (.dup, 1) := by decide +kernel
theorem dX1_hear_45 : decode cX1_hear 45 = .ok (.getfield 33, 3) := by decide +kernel
theorem dX1_hear_48 : decode cX1_hear 48 = .ok (.iconst 1, 1) := by decide +kernel
theorem dX1_hear_49 : decode cX1_hear 49 = .ok (.iadd, 1) := by decide +kernel
theorem dX1_hear_50 : decode cX1_hear 50 = .ok (.putfield 33, 3) := by decide +kernel
theorem dX1_hear_53 : decode cX1_hear 53 = .ok (.aload_n 0, 1) := by decide +kernel
theorem dX1_hear_54 : decode cX1_hear 54 = .ok (.getfield 33, 3) := by decide +kernel
theorem dX1_hear_57 : decode cX1_hear 57 = .ok (.bipush 11, 2) := by decide +kernel
theorem dX1_hear_59 : decode cX1_hear 59 = .ok (.if_icmp .ne 69, 3) := by decide +kernel
theorem dX1_hear_62 : decode cX1_hear 62 = .ok (.aload_n 0, 1) := by decide +kernel
theorem dX1_hear_63 : decode cX1_hear 63 = .ok (.invokevirtual 139, 3) := by decide +kernel
theorem dX1_hear_66 : decode cX1_hear 66 = .ok (.goto 62, 3) := by decide +kernel
theorem dX1_hear_8 : decode cX1_hear 8 = .ok (.iload_n 1, 1) := by decide +kernel
theorem dX1_hear_9 : decode cX1_hear 9 = .ok (.ifCond .ne 119, 3) := by decide +kernel
theorem dX1_hear_12 : decode cX1_hear 12 = .ok (.aload_n 0, 1) := by decide +kernel
theorem dX1_hear_13 : decode cX1_hear 13 = .ok (.invokevirtual 133, 3) := by decide +kernel
theorem dX1_hear_16 : decode cX1_hear 16 = .ok (.goto 112, 3) := by decide +kernel
theorem dX1_dropFirst_0 : decode cX1_dropFirst 0 = .ok (.aload_n 0, 1) := by decide +kernel
theorem dX1_dropFirst_1 : decode cX1_dropFirst 1 = .ok (.getfield 16, 3) := by decide +kernel
theorem dX1_dropFirst_4 : decode cX1_dropFirst 4 = .ok (.iload_n 1, 1) := by decide +kernel
theorem dX1_dropFirst_5 : decode cX1_dropFirst 5 = .ok (.aaload, 1) := by decide +kernel
theorem dX1_dropFirst_6 : decode cX1_dropFirst 6 = .ok (.astore_n 2, 1) := by decide +kernel
theorem dX1_dropFirst_7 : decode cX1_dropFirst 7 = .ok (.aload_n 2, 1) := by decide +kernel
theorem dX1_dropFirst_8 : decode cX1_dropFirst 8 = .ok (.bipush 7, 2) := by decide +kernel
theorem dX1_dropFirst_10 : decode cX1_dropFirst 10 = .ok (.aload_n 2, 1) := by decide +kernel
theorem dX1_dropFirst_11 : decode cX1_dropFirst 11 = .ok (.iconst 0, 1) := by decide +kernel
theorem dX1_dropFirst_12 : decode cX1_dropFirst 12 = .ok (.aload_n 2, 1) := by decide +kernel
theorem dX1_dropFirst_13 : decode cX1_dropFirst 13 = .ok (.arraylength, 1) := by decide +kernel
theorem dX1_dropFirst_14 : decode cX1_dropFirst 14 = .ok (.bipush 7, 2) := by decide +kernel
theorem dX1_dropFirst_16 : decode cX1_dropFirst 16 = .ok (.isub, 1) := by decide +kernel
theorem dX1_dropFirst_17 : decode cX1_dropFirst 17 = .ok (.invokestatic 127, 3) := by decide +kernel
theorem dX1_dropFirst_20 : decode cX1_dropFirst 20 = .ok (.aload_n 0, 1) := by decide +kernel
theorem dX1_dropFirst_21 : decode cX1_dropFirst 21 = .ok (.getfield 13, 3) := by decide +kernel
theorem dX1_dropFirst_24 : decode cX1_dropFirst 24 = .ok (.iload_n 1, 1) := by decide +kernel
theorem dX1_dropFirst_25 : decode cX1_dropFirst 25 = .ok (.aaload, 1) := by decide +kernel
theorem dX1_dropFirst_26 : decode cX1_dropFirst 26 = .ok (.iconst 0, 1) := by decide +kernel
theorem dX1_dropFirst_27 : decode cX1_dropFirst 27 = .ok (.dup2, 1) := by decide +kernel
theorem dX1_dropFirst_28 : decode cX1_dropFirst 28 = .ok (.iaload, 1) := by decide +kernel
theorem dX1_dropFirst_29 : decode cX1_dropFirst 29 = .ok (.iconst 1, 1) := by decide +kernel
theorem dX1_dropFirst_30 : decode cX1_dropFirst 30 = .ok (.isub, 1) := by decide +kernel
theorem dX1_dropFirst_31 : decode cX1_dropFirst 31 = .ok (.iastore, 1) := by decide +kernel
theorem dX1_dropFirst_32 : decode cX1_dropFirst 32 = .ok (.return_, 1) := by decide +kernel
theorem dX1_endWaiting_0 : decode cX1_endWaiting 0 = .ok (.aload_n 0, 1) := by decide +kernel
theorem dX1_endWaiting_1 : decode cX1_endWaiting 1 = .ok (.getfield 13, 3) := by decide +kernel
theorem dX1_endWaiting_4 : decode cX1_endWaiting 4 = .ok (.iload_n 1, 1) := by decide +kernel
theorem dX1_endWaiting_5 : decode cX1_endWaiting 5 = .ok (.aaload, 1) := by decide +kernel
theorem dX1_endWaiting_6 : decode cX1_endWaiting 6 = .ok (.astore_n 2, 1) := by decide +kernel
theorem dX1_endWaiting_7 : decode cX1_endWaiting 7 = .ok (.aload_n 2, 1) := by decide +kernel
theorem dX1_endWaiting_8 : decode cX1_endWaiting 8 = .ok (.iconst 2, 1) := by decide +kernel
theorem dX1_endWaiting_9 : decode cX1_endWaiting 9 = .ok (.iconst (-1), 1) := by decide +kernel
theorem dX1_endWaiting_10 : decode cX1_endWaiting 10 = .ok (.iastore, 1) := by decide +kernel
theorem dX1_endWaiting_11 : decode cX1_endWaiting 11 = .ok (.aload_n 0, 1) := by decide +kernel
theorem dX1_endWaiting_12 : decode cX1_endWaiting 12 = .ok (.getfield 46, 3) := by decide +kernel
theorem dX1_endWaiting_15 : decode cX1_endWaiting 15 = .ok (.sipush 204, 3) := by decide +kernel
theorem dX1_endWaiting_18 : decode cX1_endWaiting 18 = .ok (.if_icmp .ne 18, 3) := by decide +kernel
theorem dX1_endWaiting_36 : decode cX1_endWaiting 36 = .ok (.aload_n 0, 1) := by decide +kernel
theorem dX1_endWaiting_37 : decode cX1_endWaiting 37 = .ok (.getfield 16, 3) := by decide +kernel
theorem dX1_endWaiting_40 : decode cX1_endWaiting 40 = .ok (.iload_n 1, 1) := by decide +kernel
theorem dX1_endWaiting_41 : decode cX1_endWaiting 41 = .ok (.aaload, 1) := by decide +kernel
theorem dX1_endWaiting_42 : decode cX1_endWaiting 42 = .ok (.bipush 6, 2) := by decide +kernel
theorem dX1_endWaiting_44 : decode cX1_endWaiting 44 = .ok (.iaload, 1) := by decide +kernel
theorem dX1_endWaiting_45 : decode cX1_endWaiting 45 = .ok (.iconst 4, 1) := by decide +kernel
theorem dX1_endWaiting_46 : decode cX1_endWaiting 46 = .ok (.if_icmp .lt 15, 3) := by decide +kernel
theorem dX1_endWaiting_61 : decode cX1_endWaiting 61 = .ok (.return_, 1) := by decide +kernel
theorem dX1_endWaiting_49 : decode cX1_endWaiting 49 = .ok (.aload_n 2, 1) := by decide +kernel
theorem dX1_endWaiting_50 : decode cX1_endWaiting 50 = .ok (.iconst 4, 1) := by decide +kernel
theorem dX1_endWaiting_51 : decode cX1_endWaiting 51 = .ok (.dup2, 1) := by decide +kernel
theorem dX1_endWaiting_52 : decode cX1_endWaiting 52 = .ok (.iaload, 1) := by decide +kernel
theorem dX1_endWaiting_53 : decode cX1_endWaiting 53 = .ok (.iconst 1, 1) := by decide +kernel
theorem dX1_endWaiting_54 : decode cX1_endWaiting 54 = .ok (.iadd, 1) := by decide +kernel
theorem dX1_endWaiting_55 : decode cX1_endWaiting 55 = .ok (.iastore, 1) := by decide +kernel
theorem dX1_endWaiting_56 : decode cX1_endWaiting 56 = .ok (.aload_n 0, 1) := by decide +kernel
theorem dX1_endWaiting_57 : decode cX1_endWaiting 57 = .ok (.iload_n 1, 1) := by decide +kernel
theorem dX1_endWaiting_58 : decode cX1_endWaiting 58 = .ok (.invokevirtual 124, 3) := by decide +kernel
theorem dX1_endWaiting_21 : decode cX1_endWaiting 21 = .ok (.aload_n 2, 1) := by decide +kernel
theorem dX1_endWaiting_22 : decode cX1_endWaiting 22 = .ok (.iconst 3, 1) := by decide +kernel
theorem dX1_endWaiting_23 : decode cX1_endWaiting 23 = .ok (.dup2, 1) := by decide +kernel
theorem dX1_endWaiting_24 : decode cX1_endWaiting 24 = .ok (.iaload, 1) := by decide +kernel
theorem dX1_endWaiting_25 : decode cX1_endWaiting 25 = .ok (.iconst 1, 1) := by decide +kernel
theorem dX1_endWaiting_26 : decode cX1_endWaiting 26 = .ok (.iadd, 1) := by decide +kernel
theorem dX1_endWaiting_27 : decode cX1_endWaiting 27 = .ok (.iastore, 1) := by decide +kernel
theorem dX1_endWaiting_28 : decode cX1_endWaiting 28 = .ok (.aload_n 0, 1) := by decide +kernel
theorem dX1_endWaiting_29 : decode cX1_endWaiting 29 = .ok (.iload_n 1, 1) := by decide +kernel
theorem dX1_endWaiting_30 : decode cX1_endWaiting 30 = .ok (.invokevirtual 124, 3) := by decide +kernel
theorem dX1_endWaiting_33 : decode cX1_endWaiting 33 = .ok (.goto 28, 3) := by decide +kernel
theorem dX1_runBitTime_0 : decode cX1_runBitTime 0 = .ok (.aload_n 0, 1) := by decide +kernel
theorem dX1_runBitTime_1 : decode cX1_runBitTime 1 = .ok (.dup, 1) := by decide +kernel
theorem dX1_runBitTime_2 : decode cX1_runBitTime 2 = .ok (.getfield 60, 3) := by decide +kernel
theorem dX1_runBitTime_5 : decode cX1_runBitTime 5 = .ok (.iconst 1, 1) := by decide +kernel
theorem dX1_runBitTime_6 : decode cX1_runBitTime 6 = .ok (.iadd, 1) := by decide +kernel
theorem dX1_runBitTime_7 : decode cX1_runBitTime 7 = .ok (.putfield 60, 3) := by decide +kernel
theorem dX1_runBitTime_10 : decode cX1_runBitTime 10 = .ok (.aload_n 0, 1) := by decide +kernel
theorem dX1_runBitTime_11 : decode cX1_runBitTime 11 = .ok (.getfield 60, 3) := by decide +kernel
theorem dX1_runBitTime_14 : decode cX1_runBitTime 14 = .ok (.aload_n 0, 1) := by decide +kernel
theorem dX1_runBitTime_15 : decode cX1_runBitTime 15 = .ok (.getfield 43, 3) := by decide +kernel
theorem dX1_runBitTime_18 : decode cX1_runBitTime 18 = .ok (.bipush 14, 2) := by decide +kernel
theorem dX1_runBitTime_20 : decode cX1_runBitTime 20 = .ok (.iadd, 1) := by decide +kernel
theorem dX1_runBitTime_21 : decode cX1_runBitTime 21 = .ok (.if_icmp .ne 14, 3) := by decide +kernel
theorem dX1_runBitTime_35 : decode cX1_runBitTime 35 = .ok (.iconst 0, 1) := by decide +kernel
theorem dX1_runBitTime_36 : decode cX1_runBitTime 36 = .ok (.istore_n 1, 1) := by decide +kernel
theorem dX1_runBitTime_37 : decode cX1_runBitTime 37 = .ok (.iload_n 1, 1) := by decide +kernel
theorem dX1_runBitTime_38 : decode cX1_runBitTime 38 = .ok (.bipush 8, 2) := by decide +kernel
theorem dX1_runBitTime_40 : decode cX1_runBitTime 40 = .ok (.if_icmp .ge 14, 3) := by decide +kernel
theorem dX1_runBitTime_43 : decode cX1_runBitTime 43 = .ok (.aload_n 0, 1) := by decide +kernel
theorem dX1_runBitTime_44 : decode cX1_runBitTime 44 = .ok (.iload_n 1, 1) := by decide +kernel
theorem dX1_runBitTime_45 : decode cX1_runBitTime 45 = .ok (.invokevirtual 73, 3) := by decide +kernel
theorem dX1_runBitTime_48 : decode cX1_runBitTime 48 = .ok (.iinc 1 1, 3) := by decide +kernel
theorem dX1_runBitTime_51 : decode cX1_runBitTime 51 = .ok (.goto (-14), 3) := by decide +kernel
theorem dX1_runBitTime_54 : decode cX1_runBitTime 54 = .ok (.aload_n 0, 1) := by decide +kernel
theorem dX1_runBitTime_55 : decode cX1_runBitTime 55 = .ok (.invokevirtual 77, 3) := by decide +kernel
theorem dX1_runBitTime_58 : decode cX1_runBitTime 58 = .ok (.istore_n 1, 1) := by decide +kernel
theorem dX1_runBitTime_59 : decode cX1_runBitTime 59 = .ok (.iconst 0, 1) := by decide +kernel
theorem dX1_runBitTime_60 : decode cX1_runBitTime 60 = .ok (.istore_n 2, 1) := by decide +kernel
theorem dX1_runBitTime_61 : decode cX1_runBitTime 61 = .ok (.iload_n 2, 1) := by decide +kernel
theorem dX1_runBitTime_62 : decode cX1_runBitTime 62 = .ok (.bipush 8, 2) := by decide +kernel
theorem dX1_runBitTime_64 : decode cX1_runBitTime 64 = .ok (.if_icmp .ge 20, 3) := by decide +kernel
theorem dX1_runBitTime_67 : decode cX1_runBitTime 67 = .ok (.aload_n 0, 1) := by decide +kernel
theorem dX1_runBitTime_68 : decode cX1_runBitTime 68 = .ok (.iload_n 2, 1) := by decide +kernel
theorem dX1_runBitTime_69 : decode cX1_runBitTime 69 = .ok (.iload_n 1, 1) := by decide +kernel
theorem dX1_runBitTime_70 : decode cX1_runBitTime 70 = .ok (.invokevirtual 81, 3) := by decide +kernel
theorem dX1_runBitTime_73 : decode cX1_runBitTime 73 = .ok (.aload_n 0, 1) := by decide +kernel
theorem dX1_runBitTime_74 : decode cX1_runBitTime 74 = .ok (.iload_n 2, 1) := by decide +kernel
theorem dX1_runBitTime_75 : decode cX1_runBitTime 75 = .ok (.invokevirtual 85, 3) := by decide +kernel
theorem dX1_runBitTime_78 : decode cX1_runBitTime 78 = .ok (.iinc 2 1, 3) := by decide +kernel
theorem dX1_runBitTime_81 : decode cX1_runBitTime 81 = .ok (.goto (-20), 3) := by decide +kernel
theorem dX1_runBitTime_84 : decode cX1_runBitTime 84 = .ok (.aload_n 0, 1) := by decide +kernel
theorem dX1_runBitTime_85 : decode cX1_runBitTime 85 = .ok (.iload_n 1, 1) := by decide +kernel
theorem dX1_runBitTime_86 : decode cX1_runBitTime 86 = .ok (.invokevirtual 88, 3) := by decide +kernel
theorem dX1_runBitTime_89 : decode cX1_runBitTime 89 = .ok (.aload_n 0, 1) := by decide +kernel
theorem dX1_runBitTime_90 : decode cX1_runBitTime 90 = .ok (.iload_n 1, 1) := by decide +kernel
theorem dX1_runBitTime_91 : decode cX1_runBitTime 91 = .ok (.iconst 1, 1) := by decide +kernel
theorem dX1_runBitTime_92 : decode cX1_runBitTime 92 = .ok (.if_icmp .ne 12, 3) := by decide +kernel
theorem dX1_runBitTime_104 : decode cX1_runBitTime 104 = .ok (.iconst 0, 1) := by decide +kernel
theorem dX1_runBitTime_105 : decode cX1_runBitTime 105 = .ok (.putfield 26, 3) := by decide +kernel
theorem dX1_runBitTime_108 : decode cX1_runBitTime 108 = .ok (.iconst 0, 1) := by decide +kernel
theorem dX1_runBitTime_109 : decode cX1_runBitTime 109 = .ok (.istore_n 2, 1) := by decide +kernel
theorem dX1_runBitTime_110 : decode cX1_runBitTime 110 = .ok (.iload_n 2, 1) := by decide +kernel
theorem dX1_runBitTime_111 : decode cX1_runBitTime 111 = .ok (.bipush 8, 2) := by decide +kernel
theorem dX1_runBitTime_113 : decode cX1_runBitTime 113 = .ok (.if_icmp .ge 29, 3) := by decide +kernel
theorem dX1_runBitTime_116 : decode cX1_runBitTime 116 = .ok (.aload_n 0, 1) := by decide +kernel
theorem dX1_runBitTime_117 : decode cX1_runBitTime 117 = .ok (.getfield 13, 3) := by decide +kernel
theorem dX1_runBitTime_120 : decode cX1_runBitTime 120 = .ok (.iload_n 2, 1) := by decide +kernel
theorem dX1_runBitTime_121 : decode cX1_runBitTime 121 = .ok (.aaload, 1) := by decide +kernel
theorem dX1_runBitTime_122 : decode cX1_runBitTime 122 = .ok (.iconst 2, 1) := by decide +kernel
theorem dX1_runBitTime_123 : decode cX1_runBitTime 123 = .ok (.iaload, 1) := by decide +kernel
theorem dX1_runBitTime_124 : decode cX1_runBitTime 124 = .ok (.aload_n 0, 1) := by decide +kernel
theorem dX1_runBitTime_125 : decode cX1_runBitTime 125 = .ok (.getfield 60, 3) := by decide +kernel
theorem dX1_runBitTime_128 : decode cX1_runBitTime 128 = .ok (.if_icmp .ne 8, 3) := by decide +kernel
theorem dX1_runBitTime_136 : decode cX1_runBitTime 136 = .ok (.iinc 2 1, 3) := by decide +kernel
theorem dX1_runBitTime_139 : decode cX1_runBitTime 139 = .ok (.goto (-29), 3) := by decide +kernel
theorem dX1_runBitTime_131 : decode cX1_runBitTime 131 = .ok (.aload_n 0, 1) := by decide +kernel
theorem dX1_runBitTime_132 : decode cX1_runBitTime 132 = .ok (.iload_n 2, 1) := by decide +kernel
theorem dX1_runBitTime_133 : decode cX1_runBitTime 133 = .ok (.invokevirtual 91, 3) := by decide +kernel
theorem dX1_runBitTime_142 : decode cX1_runBitTime 142 = .ok (.return_, 1) := by decide +kernel
theorem dX1_runBitTime_95 : decode cX1_runBitTime 95 = .ok (.aload_n 0, 1) := by decide +kernel
theorem dX1_runBitTime_96 : decode cX1_runBitTime 96 = .ok (.getfield 26, 3) := by decide +kernel
theorem dX1_runBitTime_99 : decode cX1_runBitTime 99 = .ok (.iconst 1, 1) := by decide +kernel
theorem dX1_runBitTime_100 : decode cX1_runBitTime 100 = .ok (.iadd, 1) := by decide +kernel
theorem dX1_runBitTime_101 : decode cX1_runBitTime 101 = .ok (.goto 4, 3) := by decide +kernel
theorem dX1_runBitTime_24 : decode cX1_runBitTime 24 = .ok (.aload_n 0, 1) := by decide +kernel
theorem dX1_runBitTime_25 : decode cX1_runBitTime 25 = .ok (.getfield 66, 3) := by decide +kernel
theorem dX1_runBitTime_28 : decode cX1_runBitTime 28 = .ok (.ifCond .eq 7, 3) := by decide +kernel
theorem dX1_runBitTime_31 : decode cX1_runBitTime 31 = .ok (.aload_n 0, 1) := by decide +kernel
theorem dX1_runBitTime_32 : decode cX1_runBitTime 32 = .ok (.invokevirtual 70, 3) := by decide +kernel
theorem dX2_init_0 : decode cX2_init 0 = .ok (.aload_n 0, 1) := by decide +kernel
theorem dX2_init_1 : decode cX2_init 1 = .ok (.invokespecial 5, 3) := by decide +kernel
theorem dX2_init_4 : decode cX2_init 4 = .ok (.aload_n 0, 1) := by decide +kernel
theorem dX2_init_5 : decode cX2_init 5 = .ok (.iconst 2, 1) := by decide +kernel
theorem dX2_init_6 : decode cX2_init 6 = .ok (.sipush 625, 3) := by decide +kernel
theorem dX2_init_9 : decode cX2_init 9 = .ok (.multianewarray 11 2, 4) := by decide +kernel
theorem dX2_init_13 : decode cX2_init 13 = .ok (.putfield 13, 3) := by decide +kernel
theorem dX2_init_16 : decode cX2_init 16 = .ok (.aload_n 0, 1) := by decide +kernel
theorem dX2_init_17 : decode cX2_init 17 = .ok (.sipush 625, 3) := by decide +kernel
theorem dX2_init_20 : decode cX2_init 20 = .ok (.newarray .boolean, 2) := by decide +kernel
theorem dX2_init_22 : decode cX2_init 22 = .ok (.putfield 16, 3) := by decide +kernel
theorem dX2_init_25 : decode cX2_init 25 = .ok (.aload_n 0, 1) := by decide +kernel
theorem dX2_init_26 : decode cX2_init 26 = .ok (.sipush 576, 3) := by decide +kernel
theorem dX2_init_29 : decode cX2_init 29 = .ok (.newarray .int, 2) := by decide +kernel
theorem dX2_init_31 : decode cX2_init 31 = .ok (.putfield 20, 3) := by decide +kernel
theorem dX2_init_34 : decode cX2_init 34 = .ok (.aload_n 0, 1) := by decide +kernel
theorem dX2_init_35 : decode cX2_init 35 = .ok (.sipush 576, 3) := by decide +kernel
theorem dX2_init_38 : decode cX2_init 38 = .ok (.newarray .int, 2) := by decide +kernel
theorem dX2_init_40 : decode cX2_init 40 = .ok (.putfield 24, 3) := by decide +kernel
theorem dX2_init_43 : decode cX2_init 43 = .ok (.aload_n 0, 1) := by decide +kernel
theorem dX2_init_44 : decode cX2_init 44 = .ok (.bipush 100, 2) := by decide +kernel
theorem dX2_init_46 : decode cX2_init 46 = .ok (.newarray .int, 2) := by decide +kernel
theorem dX2_init_48 : decode cX2_init 48 = .ok (.putfield 27, 3) := by decide +kernel
theorem dX2_init_51 : decode cX2_init 51 = .ok (.aload_n 0, 1) := by decide +kernel
theorem dX2_init_52 : decode cX2_init 52 = .ok (.bipush 100, 2) := by decide +kernel
theorem dX2_init_54 : decode cX2_init 54 = .ok (.newarray .int, 2) := by decide +kernel
theorem dX2_init_56 : decode cX2_init 56 = .ok (.putfield 30, 3) := by decide +kernel
theorem dX2_init_59 : decode cX2_init 59 = .ok (.aload_n 0, 1) := by decide +kernel
theorem dX2_init_60 : decode cX2_init 60 = .ok (.bipush 100, 2) := by decide +kernel
theorem dX2_init_62 : decode cX2_init 62 = .ok (.newarray .int, 2) := by decide +kernel
theorem dX2_init_64 : decode cX2_init 64 = .ok (.putfield 33, 3) := by decide +kernel
theorem dX2_init_67 : decode cX2_init 67 = .ok (.aload_n 0, 1) := by decide +kernel
theorem dX2_init_68 : decode cX2_init 68 = .ok (.bipush 100, 2) := by decide +kernel
theorem dX2_init_70 : decode cX2_init 70 = .ok (.newarray .int, 2) := by decide +kernel
theorem dX2_init_72 : decode cX2_init 72 = .ok (.putfield 36, 3) := by decide +kernel
theorem dX2_init_75 : decode cX2_init 75 = .ok (.aload_n 0, 1) := by decide +kernel
theorem dX2_init_76 : decode cX2_init 76 = .ok (.sipush 220, 3) := by decide +kernel
theorem dX2_init_79 : decode cX2_init 79 = .ok (.iconst 3, 1) := by decide +kernel
theorem dX2_init_80 : decode cX2_init 80 = .ok (.multianewarray 11 2, 4) := by decide +kernel
theorem dX2_init_84 : decode cX2_init 84 = .ok (.putfield 39, 3) := by decide +kernel
theorem dX2_init_87 : decode cX2_init 87 = .ok (.aload_n 0, 1) := by decide +kernel
theorem dX2_init_88 : decode cX2_init 88 = .ok (.sipush 440, 3) := by decide +kernel
theorem dX2_init_91 : decode cX2_init 91 = .ok (.bipush 6, 2) := by decide +kernel
theorem dX2_init_93 : decode cX2_init 93 = .ok (.multianewarray 11 2, 4) := by decide +kernel
theorem dX2_init_97 : decode cX2_init 97 = .ok (.putfield 42, 3) := by decide +kernel
theorem dX2_init_100 : decode cX2_init 100 = .ok (.aload_n 0, 1) := by decide +kernel
theorem dX2_init_101 : decode cX2_init 101 = .ok (.sipush 2500, 3) := by decide +kernel
theorem dX2_init_104 : decode cX2_init 104 = .ok (.newarray .boolean, 2) := by decide +kernel
theorem dX2_init_106 : decode cX2_init 106 = .ok (.putfield 45, 3) := by decide +kernel
theorem dX2_init_109 : decode cX2_init 109 = .ok (.aload_n 0, 1) := by decide +kernel
theorem dX2_init_110 : decode cX2_init 110 = .ok (.sipush 576, 3) := by decide +kernel
theorem dX2_init_113 : decode cX2_init 113 = .ok (.newarray .int, 2) := by decide +kernel
theorem dX2_init_115 : decode cX2_init 115 = .ok (.putfield 48, 3) := by decide +kernel
theorem dX2_init_118 : decode cX2_init 118 = .ok (.aload_n 0, 1) := by decide +kernel
theorem dX2_init_119 : decode cX2_init 119 = .ok (.bipush 100, 2) := by decide +kernel
theorem dX2_init_121 : decode cX2_init 121 = .ok (.newarray .int, 2) := by decide +kernel
theorem dX2_init_123 : decode cX2_init 123 = .ok (.putfield 51, 3) := by decide +kernel
theorem dX2_init_126 : decode cX2_init 126 = .ok (.aload_n 0, 1) := by decide +kernel
theorem dX2_init_127 : decode cX2_init 127 = .ok (.aload_n 1, 1) := by decide +kernel
theorem dX2_init_128 : decode cX2_init 128 = .ok (.putfield 54, 3) := by decide +kernel
theorem dX2_init_131 : decode cX2_init 131 = .ok (.return_, 1) := by decide +kernel
theorem dX2_cellNumber_0 : decode cX2_cellNumber 0 = .ok (.iload_n 0, 1) := by decide +kernel
theorem dX2_cellNumber_1 : decode cX2_cellNumber 1 = .ok (.bipush 24, 2) := by decide +kernel
theorem dX2_cellNumber_3 : decode cX2_cellNumber 3 = .ok (.imul, 1) := by decide +kernel
theorem dX2_cellNumber_4 : decode cX2_cellNumber 4 = .ok (.iload_n 1, 1) := by decide +kernel
theorem dX2_cellNumber_5 : decode cX2_cellNumber 5 = .ok (.iadd, 1) := by decide +kernel
theorem dX2_cellNumber_6 : decode cX2_cellNumber 6 = .ok (.ireturn, 1) := by decide +kernel
theorem dX2_swapBefore_0 : decode cX2_swapBefore 0 = .ok (.aload_n 0, 1) := by decide +kernel
theorem dX2_swapBefore_1 : decode cX2_swapBefore 1 = .ok (.getfield 24, 3) := by decide +kernel
theorem dX2_swapBefore_4 : decode cX2_swapBefore 4 = .ok (.astore_n 1, 1) := by decide +kernel
theorem dX2_swapBefore_5 : decode cX2_swapBefore 5 = .ok (.aload_n 0, 1) := by decide +kernel
theorem dX2_swapBefore_6 : decode cX2_swapBefore 6 = .ok (.aload_n 0, 1) := by decide +kernel
theorem dX2_swapBefore_7 : decode cX2_swapBefore 7 = .ok (.getfield 20, 3) := by decide +kernel
theorem dX2_swapBefore_10 : decode cX2_swapBefore 10 = .ok (.putfield 24, 3) := by decide +kernel
theorem dX2_swapBefore_13 : decode cX2_swapBefore 13 = .ok (.aload_n 0, 1) := by decide +kernel
theorem dX2_swapBefore_14 : decode cX2_swapBefore 14 = .ok (.aload_n 1, 1) := by decide +kernel
theorem dX2_swapBefore_15 : decode cX2_swapBefore 15 = .ok (.putfield 20, 3) := by decide +kernel
theorem dX2_swapBefore_18 : decode cX2_swapBefore 18 = .ok (.aload_n 0, 1) := by decide +kernel
theorem dX2_swapBefore_19 : decode cX2_swapBefore 19 = .ok (.getfield 30, 3) := by decide +kernel
theorem dX2_swapBefore_22 : decode cX2_swapBefore 22 = .ok (.astore_n 2, 1) := by decide +kernel
theorem dX2_swapBefore_23 : decode cX2_swapBefore 23 = .ok (.aload_n 0, 1) := by decide +kernel
theorem dX2_swapBefore_24 : decode cX2_swapBefore 24 = .ok (.aload_n 0, 1) := by decide +kernel
theorem dX2_swapBefore_25 : decode cX2_swapBefore 25 = .ok (.getfield 27, 3) := by decide +kernel
theorem dX2_swapBefore_28 : decode cX2_swapBefore 28 = .ok (.putfield 30, 3) := by decide +kernel
theorem dX2_swapBefore_31 : decode cX2_swapBefore 31 = .ok (.aload_n 0, 1) := by decide +kernel
theorem dX2_swapBefore_32 : decode cX2_swapBefore 32 = .ok (.aload_n 2, 1) := by decide +kernel
theorem dX2_swapBefore_33 : decode cX2_swapBefore 33 = .ok (.putfield 27, 3) := by decide +kernel
theorem dX2_swapBefore_36 : decode cX2_swapBefore 36 = .ok (.return_, 1) := by decide +kernel
theorem dJ7_fill_53178_0 : decode cJ7_fill_53178 0 = .ok (.iconst 0, 1) := by decide +kernel
theorem dJ7_fill_53178_1 : decode cJ7_fill_53178 1 = .ok (.istore_n 2, 1) := by decide +kernel
theorem dJ7_fill_53178_2 : decode cJ7_fill_53178 2 = .ok (.aload_n 0, 1) := by decide +kernel
theorem dJ7_fill_53178_3 : decode cJ7_fill_53178 3 = .ok (.arraylength, 1) := by decide +kernel
theorem dJ7_fill_53178_4 : decode cJ7_fill_53178 4 = .ok (.istore_n 3, 1) := by decide +kernel
theorem dJ7_fill_53178_5 : decode cJ7_fill_53178 5 = .ok (.iload_n 2, 1) := by decide +kernel
theorem dJ7_fill_53178_6 : decode cJ7_fill_53178 6 = .ok (.iload_n 3, 1) := by decide +kernel
theorem dJ7_fill_53178_7 : decode cJ7_fill_53178 7 = .ok (.if_icmp .ge 13, 3) := by decide +kernel
theorem dJ7_fill_53178_10 : decode cJ7_fill_53178 10 = .ok (.aload_n 0, 1) := by decide +kernel
theorem dJ7_fill_53178_11 : decode cJ7_fill_53178 11 = .ok (.iload_n 2, 1) := by decide +kernel
theorem dJ7_fill_53178_12 : decode cJ7_fill_53178 12 = .ok (.iload_n 1, 1) := by decide +kernel
theorem dJ7_fill_53178_13 : decode cJ7_fill_53178 13 = .ok (.iastore, 1) := by decide +kernel
theorem dJ7_fill_53178_14 : decode cJ7_fill_53178 14 = .ok (.iinc 2 1, 3) := by decide +kernel
theorem dJ7_fill_53178_17 : decode cJ7_fill_53178 17 = .ok (.goto (-12), 3) := by decide +kernel
theorem dJ7_fill_53178_20 : decode cJ7_fill_53178 20 = .ok (.return_, 1) := by decide +kernel
theorem dX8_lengthOf_0 : decode cX8_lengthOf 0 = .ok (.aload_n 0, 1) := by decide +kernel
theorem dX8_lengthOf_1 : decode cX8_lengthOf 1 = .ok (.getfield 13, 3) := by decide +kernel
theorem dX8_lengthOf_4 : decode cX8_lengthOf 4 = .ok (.iload_n 1, 1) := by decide +kernel
theorem dX8_lengthOf_5 : decode cX8_lengthOf 5 = .ok (.aaload, 1) := by decide +kernel
theorem dX8_lengthOf_6 : decode cX8_lengthOf 6 = .ok (.astore_n 2, 1) := by decide +kernel
theorem dX8_lengthOf_7 : decode cX8_lengthOf 7 = .ok (.aload_n 2, 1) := by decide +kernel
theorem dX8_lengthOf_8 : decode cX8_lengthOf 8 = .ok (.iconst 2, 1) := by decide +kernel
theorem dX8_lengthOf_9 : decode cX8_lengthOf 9 = .ok (.iaload, 1) := by decide +kernel
theorem dX8_lengthOf_10 : decode cX8_lengthOf 10 = .ok (.aload_n 2, 1) := by decide +kernel
theorem dX8_lengthOf_11 : decode cX8_lengthOf 11 = .ok (.iconst 0, 1) := by decide +kernel
theorem dX8_lengthOf_12 : decode cX8_lengthOf 12 = .ok (.iaload, 1) := by decide +kernel
theorem dX8_lengthOf_13 : decode cX8_lengthOf 13 = .ok (.isub, 1) := by decide +kernel
theorem dX8_lengthOf_14 : decode cX8_lengthOf 14 = .ok (.aload_n 2, 1) := by decide +kernel
theorem dX8_lengthOf_15 : decode cX8_lengthOf 15 = .ok (.iconst 3, 1) := by decide +kernel
theorem dX8_lengthOf_16 : decode cX8_lengthOf 16 = .ok (.iaload, 1) := by decide +kernel
theorem dX8_lengthOf_17 : decode cX8_lengthOf 17 = .ok (.iadd, 1) := by decide +kernel
theorem dX8_lengthOf_18 : decode cX8_lengthOf 18 = .ok (.aload_n 2, 1) := by decide +kernel
theorem dX8_lengthOf_19 : decode cX8_lengthOf 19 = .ok (.iconst 1, 1) := by decide +kernel
theorem dX8_lengthOf_20 : decode cX8_lengthOf 20 = .ok (.iaload, 1) := by decide +kernel
theorem dX8_lengthOf_21 : decode cX8_lengthOf 21 = .ok (.isub, 1) := by decide +kernel
theorem dX8_lengthOf_22 : decode cX8_lengthOf 22 = .ok (.ireturn, 1) := by decide +kernel
theorem dX2_drawWalls_0 : decode cX2_drawWalls 0 = .ok (.aload_n 0, 1) := by decide +kernel
theorem dX2_drawWalls_1 : decode cX2_drawWalls 1 = .ok (.getfield 13, 3) := by decide +kernel
theorem dX2_drawWalls_4 : decode cX2_drawWalls 4 = .ok (.iconst 0, 1) := by decide +kernel
theorem dX2_drawWalls_5 : decode cX2_drawWalls 5 = .ok (.aaload, 1) := by decide +kernel
theorem dX2_drawWalls_6 : decode cX2_drawWalls 6 = .ok (.iconst (-1), 1) := by decide +kernel
theorem dX2_drawWalls_7 : decode cX2_drawWalls 7 = .ok (.invokestatic 88, 3) := by decide +kernel
theorem dX2_drawWalls_10 : decode cX2_drawWalls 10 = .ok (.aload_n 0, 1) := by decide +kernel
theorem dX2_drawWalls_11 : decode cX2_drawWalls 11 = .ok (.getfield 13, 3) := by decide +kernel
theorem dX2_drawWalls_14 : decode cX2_drawWalls 14 = .ok (.iconst 1, 1) := by decide +kernel
theorem dX2_drawWalls_15 : decode cX2_drawWalls 15 = .ok (.aaload, 1) := by decide +kernel
theorem dX2_drawWalls_16 : decode cX2_drawWalls 16 = .ok (.iconst (-1), 1) := by decide +kernel
theorem dX2_drawWalls_17 : decode cX2_drawWalls 17 = .ok (.invokestatic 88, 3) := by decide +kernel
theorem dX2_drawWalls_20 : decode cX2_drawWalls 20 = .ok (.iconst 0, 1) := by decide +kernel
theorem dX2_drawWalls_21 : decode cX2_drawWalls 21 = .ok (.istore_n 1, 1) := by decide +kernel
theorem dX2_drawWalls_22 : decode cX2_drawWalls 22 = .ok (.iload_n 1, 1) := by decide +kernel
theorem dX2_drawWalls_23 : decode cX2_drawWalls 23 = .ok (.aload_n 0, 1) := by decide +kernel
theorem dX2_drawWalls_24 : decode cX2_drawWalls 24 = .ok (.getfield 54, 3) := by decide +kernel
theorem dX2_drawWalls_27 : decode cX2_drawWalls 27 = .ok (.getfield 94, 3) := by decide +kernel
theorem dX2_drawWalls_30 : decode cX2_drawWalls 30 = .ok (.if_icmp .ge 102, 3) := by decide +kernel
theorem dX2_drawWalls_33 : decode cX2_drawWalls 33 = .ok (.aload_n 0, 1) := by decide +kernel
theorem dX2_drawWalls_34 : decode cX2_drawWalls 34 = .ok (.getfield 54, 3) := by decide +kernel
theorem dX2_drawWalls_37 : decode cX2_drawWalls 37 = .ok (.iload_n 1, 1) := by decide +kernel
theorem dX2_drawWalls_38 : decode cX2_drawWalls 38 = .ok (.invokevirtual 99, 3) := by decide +kernel
theorem dX2_drawWalls_41 : decode cX2_drawWalls 41 = .ok (.istore_n 2, 1) := by decide +kernel
theorem dX2_drawWalls_42 : decode cX2_drawWalls 42 = .ok (.aload_n 0, 1) := by decide +kernel
theorem dX2_drawWalls_43 : decode cX2_drawWalls 43 = .ok (.getfield 54, 3) := by decide +kernel
theorem dX2_drawWalls_46 : decode cX2_drawWalls 46 = .ok (.getfield 103, 3) := by decide +kernel
theorem dX2_drawWalls_49 : decode cX2_drawWalls 49 = .ok (.iload_n 1, 1) := by decide +kernel
theorem dX2_drawWalls_50 : decode cX2_drawWalls 50 = .ok (.aaload, 1) := by decide +kernel
theorem dX2_drawWalls_51 : decode cX2_drawWalls 51 = .ok (.iconst 0, 1) := by decide +kernel
theorem dX2_drawWalls_52 : decode cX2_drawWalls 52 = .ok (.iaload, 1) := by decide +kernel
theorem dX2_drawWalls_53 : decode cX2_drawWalls 53 = .ok (.bipush 25, 2) := by decide +kernel
theorem dX2_drawWalls_55 : decode cX2_drawWalls 55 = .ok (.imul, 1) := by decide +kernel
theorem dX2_drawWalls_56 : decode cX2_drawWalls 56 = .ok (.aload_n 0, 1) := by decide +kernel
theorem dX2_drawWalls_57 : decode cX2_drawWalls 57 = .ok (.getfield 54, 3) := by decide +kernel
theorem dX2_drawWalls_60 : decode cX2_drawWalls 60 = .ok (.getfield 103, 3) := by decide +kernel
theorem dX2_drawWalls_63 : decode cX2_drawWalls 63 = .ok (.iload_n 1, 1) := by decide +kernel
theorem dX2_drawWalls_64 : decode cX2_drawWalls 64 = .ok (.aaload, 1) := by decide +kernel
theorem dX2_drawWalls_65 : decode cX2_drawWalls 65 = .ok (.iconst 1, 1) := by decide +kernel
theorem dX2_drawWalls_66 : decode cX2_drawWalls 66 = .ok (.iaload, 1) := by decide +kernel
theorem dX2_drawWalls_67 : decode cX2_drawWalls 67 = .ok (.iadd, 1) := by decide +kernel
theorem dX2_drawWalls_68 : decode cX2_drawWalls 68 = .ok (.istore_n 3, 1) := by decide +kernel
theorem dX2_drawWalls_69 : decode cX2_drawWalls 69 = .ok (.aload_n 0, 1) := by decide +kernel
theorem dX2_drawWalls_70 : decode cX2_drawWalls 70 = .ok (.getfield 54, 3) := by decide +kernel
theorem dX2_drawWalls_73 : decode cX2_drawWalls 73 = .ok (.iload_n 1, 1) := by decide +kernel
theorem dX2_drawWalls_74 : decode cX2_drawWalls 74 = .ok (.invokevirtual 106, 3) := by decide +kernel
theorem dX2_drawWalls_77 : decode cX2_drawWalls 77 = .ok (.istore 4, 2) := by decide +kernel
theorem dX2_drawWalls_79 : decode cX2_drawWalls 79 = .ok (.iconst 0, 1) := by decide +kernel
theorem dX2_drawWalls_80 : decode cX2_drawWalls 80 = .ok (.istore 5, 2) := by decide +kernel
theorem dX2_drawWalls_82 : decode cX2_drawWalls 82 = .ok (.iload 5, 2) := by decide +kernel
theorem dX2_drawWalls_84 : decode cX2_drawWalls 84 = .ok (.iload 4, 2) := by decide +kernel
theorem dX2_drawWalls_86 : decode cX2_drawWalls 86 = .ok (.if_icmp .ge 40, 3) := by decide +kernel
theorem dX2_drawWalls_89 : decode cX2_drawWalls 89 = .ok (.aload_n 0, 1) := by decide +kernel
theorem dX2_drawWalls_90 : decode cX2_drawWalls 90 = .ok (.getfield 13, 3) := by decide +kernel
theorem dX2_drawWalls_93 : decode cX2_drawWalls 93 = .ok (.iload_n 2, 1) := by decide +kernel
theorem dX2_drawWalls_94 : decode cX2_drawWalls 94 = .ok (.ifCond .eq 7, 3) := by decide +kernel
theorem dX2_drawWalls_101 : decode cX2_drawWalls 101 = .ok (.iconst 1, 1) := by decide +kernel
theorem dX2_drawWalls_102 : decode cX2_drawWalls 102 = .ok (.aaload, 1) := by decide +kernel
theorem dX2_drawWalls_103 : decode cX2_drawWalls 103 = .ok (.iload_n 3, 1) := by decide +kernel
theorem dX2_drawWalls_104 : decode cX2_drawWalls 104 = .ok (.iload 5, 2) := by decide +kernel
theorem dX2_drawWalls_106 : decode cX2_drawWalls 106 = .ok (.iload_n 2, 1) := by decide +kernel
theorem dX2_drawWalls_107 : decode cX2_drawWalls 107 = .ok (.ifCond .eq 8, 3) := by decide +kernel
theorem dX2_drawWalls_115 : decode cX2_drawWalls 115 = .ok (.iconst 1, 1) := by decide +kernel
theorem dX2_drawWalls_116 : decode cX2_drawWalls 116 = .ok (.imul, 1) := by decide +kernel
theorem dX2_drawWalls_117 : decode cX2_drawWalls 117 = .ok (.iadd, 1) := by decide +kernel
theorem dX2_drawWalls_118 : decode cX2_drawWalls 118 = .ok (.iload_n 1, 1) := by decide +kernel
theorem dX2_drawWalls_119 : decode cX2_drawWalls 119 = .ok (.iastore, 1) := by decide +kernel
theorem dX2_drawWalls_120 : decode cX2_drawWalls 120 = .ok (.iinc 5 1, 3) := by decide +kernel
theorem dX2_drawWalls_123 : decode cX2_drawWalls 123 = .ok (.goto (-41), 3) := by decide +kernel
theorem dX2_drawWalls_110 : decode cX2_drawWalls 110 = .ok (.bipush 25, 2) := by decide +kernel
theorem dX2_drawWalls_112 : decode cX2_drawWalls 112 = .ok (.goto 4, 3) := by decide +kernel
theorem dX2_drawWalls_97 : decode cX2_drawWalls 97 = .ok (.iconst 0, 1) := by decide +kernel
theorem dX2_drawWalls_98 : decode cX2_drawWalls 98 = .ok (.goto 4, 3) := by decide +kernel
theorem dX2_drawWalls_126 : decode cX2_drawWalls 126 = .ok (.iinc 1 1, 3) := by decide +kernel
theorem dX2_drawWalls_129 : decode cX2_drawWalls 129 = .ok (.goto (-107), 3) := by decide +kernel
theorem dX2_drawWalls_132 : decode cX2_drawWalls 132 = .ok (.return_, 1) := by decide +kernel
theorem dX2_wallFrom_0 : decode cX2_wallFrom 0 = .ok (.iload_n 3, 1) := by decide +kernel
theorem dX2_wallFrom_1 : decode cX2_wallFrom 1 = .ok (.tableswitch 99 0 2 #[27, 51, 75], 27) := by decide +kernel
theorem dX2_wallFrom_100 : decode cX2_wallFrom 100 = .ok (.iload_n 2, 1) := by decide +kernel
theorem dX2_wallFrom_101 : decode cX2_wallFrom 101 = .ok (.ifCond .le 21, 3) := by decide +kernel
theorem dX2_wallFrom_122 : decode cX2_wallFrom 122 = .ok (.iconst (-1), 1) := by decide +kernel
theorem dX2_wallFrom_123 : decode cX2_wallFrom 123 = .ok (.ireturn, 1) := by decide +kernel
theorem dX2_wallFrom_104 : decode cX2_wallFrom 104 = .ok (.aload_n 0, 1) := by decide +kernel
theorem dX2_wallFrom_105 : decode cX2_wallFrom 105 = .ok (.getfield 13, 3) := by decide +kernel
theorem dX2_wallFrom_108 : decode cX2_wallFrom 108 = .ok (.iconst 1, 1) := by decide +kernel
theorem dX2_wallFrom_109 : decode cX2_wallFrom 109 = .ok (.aaload, 1) := by decide +kernel
theorem dX2_wallFrom_110 : decode cX2_wallFrom 110 = .ok (.iload_n 1, 1) := by decide +kernel
theorem dX2_wallFrom_111 : decode cX2_wallFrom 111 = .ok (.bipush 25, 2) := by decide +kernel
theorem dX2_wallFrom_113 : decode cX2_wallFrom 113 = .ok (.imul, 1) := by decide +kernel
theorem dX2_wallFrom_114 : decode cX2_wallFrom 114 = .ok (.iload_n 2, 1) := by decide +kernel
theorem dX2_wallFrom_115 : decode cX2_wallFrom 115 = .ok (.iadd, 1) := by decide +kernel
theorem dX2_wallFrom_116 : decode cX2_wallFrom 116 = .ok (.iconst 1, 1) := by decide +kernel
theorem dX2_wallFrom_117 : decode cX2_wallFrom 117 = .ok (.isub, 1) := by decide +kernel
theorem dX2_wallFrom_118 : decode cX2_wallFrom 118 = .ok (.iaload, 1) := by decide +kernel
theorem dX2_wallFrom_119 : decode cX2_wallFrom 119 = .ok (.goto 4, 3) := by decide +kernel
theorem dX2_wallFrom_28 : decode cX2_wallFrom 28 = .ok (.iload_n 1, 1) := by decide +kernel
theorem dX2_wallFrom_29 : decode cX2_wallFrom 29 = .ok (.bipush 24, 2) := by decide +kernel
theorem dX2_wallFrom_31 : decode cX2_wallFrom 31 = .ok (.if_icmp .ge 19, 3) := by decide +kernel
theorem dX2_wallFrom_50 : decode cX2_wallFrom 50 = .ok (.iconst (-1), 1) := by decide +kernel
theorem dX2_wallFrom_51 : decode cX2_wallFrom 51 = .ok (.ireturn, 1) := by decide +kernel
theorem dX2_wallFrom_34 : decode cX2_wallFrom 34 = .ok (.aload_n 0, 1) := by decide +kernel
theorem dX2_wallFrom_35 : decode cX2_wallFrom 35 = .ok (.getfield 13, 3) := by decide +kernel
theorem dX2_wallFrom_38 : decode cX2_wallFrom 38 = .ok (.iconst 0, 1) := by decide +kernel
theorem dX2_wallFrom_39 : decode cX2_wallFrom 39 = .ok (.aaload, 1) := by decide +kernel
theorem dX2_wallFrom_40 : decode cX2_wallFrom 40 = .ok (.iload_n 1, 1) := by decide +kernel
theorem dX2_wallFrom_41 : decode cX2_wallFrom 41 = .ok (.bipush 25, 2) := by decide +kernel
theorem dX2_wallFrom_43 : decode cX2_wallFrom 43 = .ok (.imul, 1) := by decide +kernel
theorem dX2_wallFrom_44 : decode cX2_wallFrom 44 = .ok (.iload_n 2, 1) := by decide +kernel
theorem dX2_wallFrom_45 : decode cX2_wallFrom 45 = .ok (.iadd, 1) := by decide +kernel
theorem dX2_wallFrom_46 : decode cX2_wallFrom 46 = .ok (.iaload, 1) := by decide +kernel
theorem dX2_wallFrom_47 : decode cX2_wallFrom 47 = .ok (.goto 4, 3) := by decide +kernel
theorem dX2_wallFrom_52 : decode cX2_wallFrom 52 = .ok (.iload_n 2, 1) := by decide +kernel
theorem dX2_wallFrom_53 : decode cX2_wallFrom 53 = .ok (.bipush 24, 2) := by decide +kernel
theorem dX2_wallFrom_55 : decode cX2_wallFrom 55 = .ok (.if_icmp .ge 19, 3) := by decide +kernel
theorem dX2_wallFrom_74 : decode cX2_wallFrom 74 = .ok (.iconst (-1), 1) := by decide +kernel
theorem dX2_wallFrom_75 : decode cX2_wallFrom 75 = .ok (.ireturn, 1) := by decide +kernel
theorem dX2_wallFrom_58 : decode cX2_wallFrom 58 = .ok (.aload_n 0, 1) := by decide +kernel
theorem dX2_wallFrom_59 : decode cX2_wallFrom 59 = .ok (.getfield 13, 3) := by decide +kernel
theorem dX2_wallFrom_62 : decode cX2_wallFrom 62 = .ok (.iconst 1, 1) := by decide +kernel
theorem dX2_wallFrom_63 : decode cX2_wallFrom 63 = .ok (.aaload, 1) := by decide +kernel
theorem dX2_wallFrom_64 : decode cX2_wallFrom 64 = .ok (.iload_n 1, 1) := by decide +kernel
theorem dX2_wallFrom_65 : decode cX2_wallFrom 65 = .ok (.bipush 25, 2) := by decide +kernel
theorem dX2_wallFrom_67 : decode cX2_wallFrom 67 = .ok (.imul, 1) := by decide +kernel
theorem dX2_wallFrom_68 : decode cX2_wallFrom 68 = .ok (.iload_n 2, 1) := by decide +kernel
theorem dX2_wallFrom_69 : decode cX2_wallFrom 69 = .ok (.iadd, 1) := by decide +kernel
theorem dX2_wallFrom_70 : decode cX2_wallFrom 70 = .ok (.iaload, 1) := by decide +kernel
theorem dX2_wallFrom_71 : decode cX2_wallFrom 71 = .ok (.goto 4, 3) := by decide +kernel
theorem dX2_wallFrom_76 : decode cX2_wallFrom 76 = .ok (.iload_n 1, 1) := by decide +kernel
theorem dX2_wallFrom_77 : decode cX2_wallFrom 77 = .ok (.ifCond .le 21, 3) := by decide +kernel
theorem dX2_wallFrom_98 : decode cX2_wallFrom 98 = .ok (.iconst (-1), 1) := by decide +kernel
theorem dX2_wallFrom_99 : decode cX2_wallFrom 99 = .ok (.ireturn, 1) := by decide +kernel
theorem dX2_wallFrom_80 : decode cX2_wallFrom 80 = .ok (.aload_n 0, 1) := by decide +kernel
theorem dX2_wallFrom_81 : decode cX2_wallFrom 81 = .ok (.getfield 13, 3) := by decide +kernel
theorem dX2_wallFrom_84 : decode cX2_wallFrom 84 = .ok (.iconst 0, 1) := by decide +kernel
theorem dX2_wallFrom_85 : decode cX2_wallFrom 85 = .ok (.aaload, 1) := by decide +kernel
theorem dX2_wallFrom_86 : decode cX2_wallFrom 86 = .ok (.iload_n 1, 1) := by decide +kernel
theorem dX2_wallFrom_87 : decode cX2_wallFrom 87 = .ok (.iconst 1, 1) := by decide +kernel
theorem dX2_wallFrom_88 : decode cX2_wallFrom 88 = .ok (.isub, 1) := by decide +kernel
theorem dX2_wallFrom_89 : decode cX2_wallFrom 89 = .ok (.bipush 25, 2) := by decide +kernel
theorem dX2_wallFrom_91 : decode cX2_wallFrom 91 = .ok (.imul, 1) := by decide +kernel
theorem dX2_wallFrom_92 : decode cX2_wallFrom 92 = .ok (.iload_n 2, 1) := by decide +kernel
theorem dX2_wallFrom_93 : decode cX2_wallFrom 93 = .ok (.iadd, 1) := by decide +kernel
theorem dX2_wallFrom_94 : decode cX2_wallFrom 94 = .ok (.iaload, 1) := by decide +kernel
theorem dX2_wallFrom_95 : decode cX2_wallFrom 95 = .ok (.goto 4, 3) := by decide +kernel
theorem dX2_markPoints_0 : decode cX2_markPoints 0 = .ok (.iconst 0, 1) := by decide +kernel
theorem dX2_markPoints_1 : decode cX2_markPoints 1 = .ok (.istore_n 1, 1) := by decide +kernel
theorem dX2_markPoints_2 : decode cX2_markPoints 2 = .ok (.iload_n 1, 1) := by decide +kernel
theorem dX2_markPoints_3 : decode cX2_markPoints 3 = .ok (.bipush 24, 2) := by decide +kernel
theorem dX2_markPoints_5 : decode cX2_markPoints 5 = .ok (.if_icmp .gt 105, 3) := by decide +kernel
theorem dX2_markPoints_8 : decode cX2_markPoints 8 = .ok (.iconst 0, 1) := by decide +kernel
theorem dX2_markPoints_9 : decode cX2_markPoints 9 = .ok (.istore_n 2, 1) := by decide +kernel
theorem dX2_markPoints_10 : decode cX2_markPoints 10 = .ok (.iload_n 2, 1) := by decide +kernel
theorem dX2_markPoints_11 : decode cX2_markPoints 11 = .ok (.bipush 24, 2) := by decide +kernel
theorem dX2_markPoints_13 : decode cX2_markPoints 13 = .ok (.if_icmp .gt 91, 3) := by decide +kernel
theorem dX2_markPoints_16 : decode cX2_markPoints 16 = .ok (.aload_n 0, 1) := by decide +kernel
theorem dX2_markPoints_17 : decode cX2_markPoints 17 = .ok (.iload_n 1, 1) := by decide +kernel
theorem dX2_markPoints_18 : decode cX2_markPoints 18 = .ok (.iload_n 2, 1) := by decide +kernel
theorem dX2_markPoints_19 : decode cX2_markPoints 19 = .ok (.iconst 0, 1) := by decide +kernel
theorem dX2_markPoints_20 : decode cX2_markPoints 20 = .ok (.invokevirtual 110, 3) := by decide +kernel
theorem dX2_markPoints_23 : decode cX2_markPoints 23 = .ok (.iconst (-1), 1) := by decide +kernel
theorem dX2_markPoints_24 : decode cX2_markPoints 24 = .ok (.if_icmp .ne 14, 3) := by decide +kernel
theorem dX2_markPoints_38 : decode cX2_markPoints 38 = .ok (.iconst 1, 1) := by decide +kernel
theorem dX2_markPoints_39 : decode cX2_markPoints 39 = .ok (.goto 4, 3) := by decide +kernel
theorem dX2_markPoints_43 : decode cX2_markPoints 43 = .ok (.istore_n 3, 1) := by decide +kernel
theorem dX2_markPoints_44 : decode cX2_markPoints 44 = .ok (.aload_n 0, 1) := by decide +kernel
theorem dX2_markPoints_45 : decode cX2_markPoints 45 = .ok (.iload_n 1, 1) := by decide +kernel
theorem dX2_markPoints_46 : decode cX2_markPoints 46 = .ok (.iload_n 2, 1) := by decide +kernel
theorem dX2_markPoints_47 : decode cX2_markPoints 47 = .ok (.iconst 1, 1) := by decide +kernel
theorem dX2_markPoints_48 : decode cX2_markPoints 48 = .ok (.invokevirtual 110, 3) := by decide +kernel
theorem dX2_markPoints_51 : decode cX2_markPoints 51 = .ok (.iconst (-1), 1) := by decide +kernel
theorem dX2_markPoints_52 : decode cX2_markPoints 52 = .ok (.if_icmp .ne 14, 3) := by decide +kernel
theorem dX2_markPoints_66 : decode cX2_markPoints 66 = .ok (.iconst 1, 1) := by decide +kernel
theorem dX2_markPoints_67 : decode cX2_markPoints 67 = .ok (.goto 4, 3) := by decide +kernel
theorem dX2_markPoints_71 : decode cX2_markPoints 71 = .ok (.istore 4, 2) := by decide +kernel
theorem dX2_markPoints_73 : decode cX2_markPoints 73 = .ok (.aload_n 0, 1) := by decide +kernel
theorem dX2_markPoints_74 : decode cX2_markPoints 74 = .ok (.getfield 16, 3) := by decide +kernel
theorem dX2_markPoints_77 : decode cX2_markPoints 77 = .ok (.iload_n 1, 1) := by decide +kernel
theorem dX2_markPoints_78 : decode cX2_markPoints 78 = .ok (.bipush 25, 2) := by decide +kernel
theorem dX2_markPoints_80 : decode cX2_markPoints 80 = .ok (.imul, 1) := by decide +kernel
theorem dX2_markPoints_81 : decode cX2_markPoints 81 = .ok (.iload_n 2, 1) := by decide +kernel
theorem dX2_markPoints_82 : decode cX2_markPoints 82 = .ok (.iadd, 1) := by decide +kernel
theorem dX2_markPoints_83 : decode cX2_markPoints 83 = .ok (.iload_n 3, 1) := by decide +kernel
theorem dX2_markPoints_84 : decode cX2_markPoints 84 = .ok (.ifCond .eq 12, 3) := by decide +kernel
theorem dX2_markPoints_96 : decode cX2_markPoints 96 = .ok (.iconst 0, 1) := by decide +kernel
theorem dX2_markPoints_97 : decode cX2_markPoints 97 = .ok (.bastore, 1) := by decide +kernel
theorem dX2_markPoints_98 : decode cX2_markPoints 98 = .ok (.iinc 2 1, 3) := by decide +kernel
theorem dX2_markPoints_101 : decode cX2_markPoints 101 = .ok (.goto (-91), 3) := by decide +kernel
theorem dX2_markPoints_87 : decode cX2_markPoints 87 = .ok (.iload 4, 2) := by decide +kernel
theorem dX2_markPoints_89 : decode cX2_markPoints 89 = .ok (.ifCond .eq 7, 3) := by decide +kernel
theorem dX2_markPoints_92 : decode cX2_markPoints 92 = .ok (.iconst 1, 1) := by decide +kernel
theorem dX2_markPoints_93 : decode cX2_markPoints 93 = .ok (.goto 4, 3) := by decide +kernel
theorem dX2_markPoints_55 : decode cX2_markPoints 55 = .ok (.aload_n 0, 1) := by decide +kernel
theorem dX2_markPoints_56 : decode cX2_markPoints 56 = .ok (.iload_n 1, 1) := by decide +kernel
theorem dX2_markPoints_57 : decode cX2_markPoints 57 = .ok (.iload_n 2, 1) := by decide +kernel
theorem dX2_markPoints_58 : decode cX2_markPoints 58 = .ok (.iconst 3, 1) := by decide +kernel
theorem dX2_markPoints_59 : decode cX2_markPoints 59 = .ok (.invokevirtual 110, 3) := by decide +kernel
theorem dX2_markPoints_62 : decode cX2_markPoints 62 = .ok (.iconst (-1), 1) := by decide +kernel
theorem dX2_markPoints_63 : decode cX2_markPoints 63 = .ok (.if_icmp .eq 7, 3) := by decide +kernel
theorem dX2_markPoints_70 : decode cX2_markPoints 70 = .ok (.iconst 0, 1) := by decide +kernel
theorem dX2_markPoints_27 : decode cX2_markPoints 27 = .ok (.aload_n 0, 1) := by decide +kernel
theorem dX2_markPoints_28 : decode cX2_markPoints 28 = .ok (.iload_n 1, 1) := by decide +kernel
theorem dX2_markPoints_29 : decode cX2_markPoints 29 = .ok (.iload_n 2, 1) := by decide +kernel
theorem dX2_markPoints_30 : decode cX2_markPoints 30 = .ok (.iconst 2, 1) := by decide +kernel
theorem dX2_markPoints_31 : decode cX2_markPoints 31 = .ok (.invokevirtual 110, 3) := by decide +kernel
theorem dX2_markPoints_34 : decode cX2_markPoints 34 = .ok (.iconst (-1), 1) := by decide +kernel
theorem dX2_markPoints_35 : decode cX2_markPoints 35 = .ok (.if_icmp .eq 7, 3) := by decide +kernel
theorem dX2_markPoints_42 : decode cX2_markPoints 42 = .ok (.iconst 0, 1) := by decide +kernel
theorem dX2_markPoints_104 : decode cX2_markPoints 104 = .ok (.iinc 1 1, 3) := by decide +kernel
theorem dX2_markPoints_107 : decode cX2_markPoints 107 = .ok (.goto (-105), 3) := by decide +kernel
theorem dX2_markPoints_110 : decode cX2_markPoints 110 = .ok (.iconst 0, 1) := by decide +kernel
theorem dX2_markPoints_111 : decode cX2_markPoints 111 = .ok (.istore_n 1, 1) := by decide +kernel
theorem dX2_markPoints_112 : decode cX2_markPoints 112 = .ok (.iload_n 1, 1) := by decide +kernel
theorem dX2_markPoints_113 : decode cX2_markPoints 113 = .ok (.aload_n 0, 1) := by decide +kernel
theorem dX2_markPoints_114 : decode cX2_markPoints 114 = .ok (.getfield 54, 3) := by decide +kernel
theorem dX2_markPoints_117 : decode cX2_markPoints 117 = .ok (.getfield 94, 3) := by decide +kernel
theorem dX2_markPoints_120 : decode cX2_markPoints 120 = .ok (.if_icmp .ge 51, 3) := by decide +kernel
theorem dX2_markPoints_123 : decode cX2_markPoints 123 = .ok (.aload_n 0, 1) := by decide +kernel
theorem dX2_markPoints_124 : decode cX2_markPoints 124 = .ok (.getfield 54, 3) := by decide +kernel
theorem dX2_markPoints_127 : decode cX2_markPoints 127 = .ok (.getfield 103, 3) := by decide +kernel
theorem dX2_markPoints_130 : decode cX2_markPoints 130 = .ok (.iload_n 1, 1) := by decide +kernel
theorem dX2_markPoints_131 : decode cX2_markPoints 131 = .ok (.aaload, 1) := by decide +kernel
theorem dX2_markPoints_132 : decode cX2_markPoints 132 = .ok (.astore_n 2, 1) := by decide +kernel
theorem dX2_markPoints_133 : decode cX2_markPoints 133 = .ok (.aload_n 0, 1) := by decide +kernel
theorem dX2_markPoints_134 : decode cX2_markPoints 134 = .ok (.getfield 16, 3) := by decide +kernel
theorem dX2_markPoints_137 : decode cX2_markPoints 137 = .ok (.aload_n 2, 1) := by decide +kernel
theorem dX2_markPoints_138 : decode cX2_markPoints 138 = .ok (.iconst 0, 1) := by decide +kernel
theorem dX2_markPoints_139 : decode cX2_markPoints 139 = .ok (.iaload, 1) := by decide +kernel
theorem dX2_markPoints_140 : decode cX2_markPoints 140 = .ok (.bipush 25, 2) := by decide +kernel
theorem dX2_markPoints_142 : decode cX2_markPoints 142 = .ok (.imul, 1) := by decide +kernel
theorem dX2_markPoints_143 : decode cX2_markPoints 143 = .ok (.aload_n 2, 1) := by decide +kernel
theorem dX2_markPoints_144 : decode cX2_markPoints 144 = .ok (.iconst 1, 1) := by decide +kernel
theorem dX2_markPoints_145 : decode cX2_markPoints 145 = .ok (.iaload, 1) := by decide +kernel
theorem dX2_markPoints_146 : decode cX2_markPoints 146 = .ok (.iadd, 1) := by decide +kernel
theorem dX2_markPoints_147 : decode cX2_markPoints 147 = .ok (.iconst 1, 1) := by decide +kernel
theorem dX2_markPoints_148 : decode cX2_markPoints 148 = .ok (.bastore, 1) := by decide +kernel
theorem dX2_markPoints_149 : decode cX2_markPoints 149 = .ok (.aload_n 0, 1) := by decide +kernel
theorem dX2_markPoints_150 : decode cX2_markPoints 150 = .ok (.getfield 16, 3) := by decide +kernel
theorem dX2_markPoints_153 : decode cX2_markPoints 153 = .ok (.aload_n 2, 1) := by decide +kernel
theorem dX2_markPoints_154 : decode cX2_markPoints 154 = .ok (.iconst 2, 1) := by decide +kernel
theorem dX2_markPoints_155 : decode cX2_markPoints 155 = .ok (.iaload, 1) := by decide +kernel
theorem dX2_markPoints_156 : decode cX2_markPoints 156 = .ok (.bipush 25, 2) := by decide +kernel
theorem dX2_markPoints_158 : decode cX2_markPoints 158 = .ok (.imul, 1) := by decide +kernel
theorem dX2_markPoints_159 : decode cX2_markPoints 159 = .ok (.aload_n 2, 1) := by decide +kernel
theorem dX2_markPoints_160 : decode cX2_markPoints 160 = .ok (.iconst 3, 1) := by decide +kernel
theorem dX2_markPoints_161 : decode cX2_markPoints 161 = .ok (.iaload, 1) := by decide +kernel
theorem dX2_markPoints_162 : decode cX2_markPoints 162 = .ok (.iadd, 1) := by decide +kernel
theorem dX2_markPoints_163 : decode cX2_markPoints 163 = .ok (.iconst 1, 1) := by decide +kernel
theorem dX2_markPoints_164 : decode cX2_markPoints 164 = .ok (.bastore, 1) := by decide +kernel
theorem dX2_markPoints_165 : decode cX2_markPoints 165 = .ok (.iinc 1 1, 3) := by decide +kernel
theorem dX2_markPoints_168 : decode cX2_markPoints 168 = .ok (.goto (-56), 3) := by decide +kernel
theorem dX2_markPoints_171 : decode cX2_markPoints 171 = .ok (.return_, 1) := by decide +kernel
theorem dX2_placeBeside_0 : decode cX2_placeBeside 0 = .ok (.iload_n 1, 1) := by decide +kernel
theorem dX2_placeBeside_1 : decode cX2_placeBeside 1 = .ok (.bipush 24, 2) := by decide +kernel
theorem dX2_placeBeside_3 : decode cX2_placeBeside 3 = .ok (.idiv, 1) := by decide +kernel
theorem dX2_placeBeside_4 : decode cX2_placeBeside 4 = .ok (.bipush 25, 2) := by decide +kernel
theorem dX2_placeBeside_6 : decode cX2_placeBeside 6 = .ok (.imul, 1) := by decide +kernel
theorem dX2_placeBeside_7 : decode cX2_placeBeside 7 = .ok (.iload_n 1, 1) := by decide +kernel
theorem dX2_placeBeside_8 : decode cX2_placeBeside 8 = .ok (.bipush 24, 2) := by decide +kernel
theorem dX2_placeBeside_10 : decode cX2_placeBeside 10 = .ok (.irem, 1) := by decide +kernel
theorem dX2_placeBeside_11 : decode cX2_placeBeside 11 = .ok (.iadd, 1) := by decide +kernel
theorem dX2_placeBeside_12 : decode cX2_placeBeside 12 = .ok (.istore_n 3, 1) := by decide +kernel
theorem dX2_placeBeside_13 : decode cX2_placeBeside 13 = .ok (.iload_n 2, 1) := by decide +kernel
theorem dX2_placeBeside_14 : decode cX2_placeBeside 14 = .ok (.ifCond .ne 8, 3) := by decide +kernel
theorem dX2_placeBeside_22 : decode cX2_placeBeside 22 = .ok (.iload_n 2, 1) := by decide +kernel
theorem dX2_placeBeside_23 : decode cX2_placeBeside 23 = .ok (.iconst 2, 1) := by decide +kernel
theorem dX2_placeBeside_24 : decode cX2_placeBeside 24 = .ok (.if_icmp .ne 9, 3) := by decide +kernel
theorem dX2_placeBeside_33 : decode cX2_placeBeside 33 = .ok (.iload_n 3, 1) := by decide +kernel
theorem dX2_placeBeside_34 : decode cX2_placeBeside 34 = .ok (.ireturn, 1) := by decide +kernel
theorem dX2_placeBeside_27 : decode cX2_placeBeside 27 = .ok (.iload_n 3, 1) := by decide +kernel
theorem dX2_placeBeside_28 : decode cX2_placeBeside 28 = .ok (.iconst 1, 1) := by decide +kernel
theorem dX2_placeBeside_29 : decode cX2_placeBeside 29 = .ok (.iadd, 1) := by decide +kernel
theorem dX2_placeBeside_30 : decode cX2_placeBeside 30 = .ok (.goto 4, 3) := by decide +kernel
theorem dX2_placeBeside_17 : decode cX2_placeBeside 17 = .ok (.iload_n 3, 1) := by decide +kernel
theorem dX2_placeBeside_18 : decode cX2_placeBeside 18 = .ok (.bipush 25, 2) := by decide +kernel
theorem dX2_placeBeside_20 : decode cX2_placeBeside 20 = .ok (.iadd, 1) := by decide +kernel
theorem dX2_placeBeside_21 : decode cX2_placeBeside 21 = .ok (.ireturn, 1) := by decide +kernel
theorem dX2_wallBeside_0 : decode cX2_wallBeside 0 = .ok (.aload_n 0, 1) := by decide +kernel
theorem dX2_wallBeside_1 : decode cX2_wallBeside 1 = .ok (.iload_n 1, 1) := by decide +kernel
theorem dX2_wallBeside_2 : decode cX2_wallBeside 2 = .ok (.iload_n 2, 1) := by decide +kernel
theorem dX2_wallBeside_3 : decode cX2_wallBeside 3 = .ok (.invokevirtual 130, 3) := by decide +kernel
theorem dX2_wallBeside_6 : decode cX2_wallBeside 6 = .ok (.istore_n 3, 1) := by decide +kernel
theorem dX2_wallBeside_7 : decode cX2_wallBeside 7 = .ok (.iload_n 2, 1) := by decide +kernel
theorem dX2_wallBeside_8 : decode cX2_wallBeside 8 = .ok (.iconst 2, 1) := by decide +kernel
theorem dX2_wallBeside_9 : decode cX2_wallBeside 9 = .ok (.if_icmp .ge 14, 3) := by decide +kernel
theorem dX2_wallBeside_23 : decode cX2_wallBeside 23 = .ok (.aload_n 0, 1) := by decide +kernel
theorem dX2_wallBeside_24 : decode cX2_wallBeside 24 = .ok (.getfield 13, 3) := by decide +kernel
theorem dX2_wallBeside_27 : decode cX2_wallBeside 27 = .ok (.iconst 0, 1) := by decide +kernel
theorem dX2_wallBeside_28 : decode cX2_wallBeside 28 = .ok (.aaload, 1) := by decide +kernel
theorem dX2_wallBeside_29 : decode cX2_wallBeside 29 = .ok (.iload_n 3, 1) := by decide +kernel
theorem dX2_wallBeside_30 : decode cX2_wallBeside 30 = .ok (.iaload, 1) := by decide +kernel
theorem dX2_wallBeside_31 : decode cX2_wallBeside 31 = .ok (.ireturn, 1) := by decide +kernel
theorem dX2_wallBeside_12 : decode cX2_wallBeside 12 = .ok (.aload_n 0, 1) := by decide +kernel
theorem dX2_wallBeside_13 : decode cX2_wallBeside 13 = .ok (.getfield 13, 3) := by decide +kernel
theorem dX2_wallBeside_16 : decode cX2_wallBeside 16 = .ok (.iconst 1, 1) := by decide +kernel
theorem dX2_wallBeside_17 : decode cX2_wallBeside 17 = .ok (.aaload, 1) := by decide +kernel
theorem dX2_wallBeside_18 : decode cX2_wallBeside 18 = .ok (.iload_n 3, 1) := by decide +kernel
theorem dX2_wallBeside_19 : decode cX2_wallBeside 19 = .ok (.iaload, 1) := by decide +kernel
theorem dX2_wallBeside_20 : decode cX2_wallBeside 20 = .ok (.goto 11, 3) := by decide +kernel
theorem dX2_cellBeside_0 : decode cX2_cellBeside 0 = .ok (.iload_n 1, 1) := by decide +kernel
theorem dX2_cellBeside_1 : decode cX2_cellBeside 1 = .ok (.bipush 24, 2) := by decide +kernel
theorem dX2_cellBeside_3 : decode cX2_cellBeside 3 = .ok (.idiv, 1) := by decide +kernel
theorem dX2_cellBeside_4 : decode cX2_cellBeside 4 = .ok (.istore_n 3, 1) := by decide +kernel
theorem dX2_cellBeside_5 : decode cX2_cellBeside 5 = .ok (.iload_n 1, 1) := by decide +kernel
theorem dX2_cellBeside_6 : decode cX2_cellBeside 6 = .ok (.bipush 24, 2) := by decide +kernel
theorem dX2_cellBeside_8 : decode cX2_cellBeside 8 = .ok (.irem, 1) := by decide +kernel
theorem dX2_cellBeside_9 : decode cX2_cellBeside 9 = .ok (.istore 4, 2) := by decide +kernel
theorem dX2_cellBeside_11 : decode cX2_cellBeside 11 = .ok (.iload_n 2, 1) := by decide +kernel
theorem dX2_cellBeside_12 : decode cX2_cellBeside 12 = .ok (.tableswitch 71 0 2 #[28, 43, 56], 28) := by decide +kernel
theorem dX2_cellBeside_83 : decode cX2_cellBeside 83 = .ok (.iload 4, 2) := by decide +kernel
theorem dX2_cellBeside_85 : decode cX2_cellBeside 85 = .ok (.ifCond .le 9, 3) := by decide +kernel
theorem dX2_cellBeside_94 : decode cX2_cellBeside 94 = .ok (.iconst (-1), 1) := by decide +kernel
theorem dX2_cellBeside_95 : decode cX2_cellBeside 95 = .ok (.ireturn, 1) := by decide +kernel
theorem dX2_cellBeside_88 : decode cX2_cellBeside 88 = .ok (.iload_n 1, 1) := by decide +kernel
theorem dX2_cellBeside_89 : decode cX2_cellBeside 89 = .ok (.iconst 1, 1) := by decide +kernel
theorem dX2_cellBeside_90 : decode cX2_cellBeside 90 = .ok (.isub, 1) := by decide +kernel
theorem dX2_cellBeside_91 : decode cX2_cellBeside 91 = .ok (.goto 4, 3) := by decide +kernel
theorem dX2_cellBeside_40 : decode cX2_cellBeside 40 = .ok (.iload_n 3, 1) := by decide +kernel
theorem dX2_cellBeside_41 : decode cX2_cellBeside 41 = .ok (.bipush 23, 2) := by decide +kernel
theorem dX2_cellBeside_43 : decode cX2_cellBeside 43 = .ok (.if_icmp .ge 10, 3) := by decide +kernel
theorem dX2_cellBeside_53 : decode cX2_cellBeside 53 = .ok (.iconst (-1), 1) := by decide +kernel
theorem dX2_cellBeside_54 : decode cX2_cellBeside 54 = .ok (.ireturn, 1) := by decide +kernel
theorem dX2_cellBeside_46 : decode cX2_cellBeside 46 = .ok (.iload_n 1, 1) := by decide +kernel
theorem dX2_cellBeside_47 : decode cX2_cellBeside 47 = .ok (.bipush 24, 2) := by decide +kernel
theorem dX2_cellBeside_49 : decode cX2_cellBeside 49 = .ok (.iadd, 1) := by decide +kernel
theorem dX2_cellBeside_50 : decode cX2_cellBeside 50 = .ok (.goto 4, 3) := by decide +kernel
theorem dX2_cellBeside_55 : decode cX2_cellBeside 55 = .ok (.iload_n 3, 1) := by decide +kernel
theorem dX2_cellBeside_56 : decode cX2_cellBeside 56 = .ok (.ifCond .le 10, 3) := by decide +kernel
theorem dX2_cellBeside_66 : decode cX2_cellBeside 66 = .ok (.iconst (-1), 1) := by decide +kernel
theorem dX2_cellBeside_67 : decode cX2_cellBeside 67 = .ok (.ireturn, 1) := by decide +kernel
theorem dX2_cellBeside_59 : decode cX2_cellBeside 59 = .ok (.iload_n 1, 1) := by decide +kernel
theorem dX2_cellBeside_60 : decode cX2_cellBeside 60 = .ok (.bipush 24, 2) := by decide +kernel
theorem dX2_cellBeside_62 : decode cX2_cellBeside 62 = .ok (.isub, 1) := by decide +kernel
theorem dX2_cellBeside_63 : decode cX2_cellBeside 63 = .ok (.goto 4, 3) := by decide +kernel
theorem dX2_cellBeside_68 : decode cX2_cellBeside 68 = .ok (.iload 4, 2) := by decide +kernel
theorem dX2_cellBeside_70 : decode cX2_cellBeside 70 = .ok (.bipush 23, 2) := by decide +kernel
theorem dX2_cellBeside_72 : decode cX2_cellBeside 72 = .ok (.if_icmp .ge 9, 3) := by decide +kernel
theorem dX2_cellBeside_81 : decode cX2_cellBeside 81 = .ok (.iconst (-1), 1) := by decide +kernel
theorem dX2_cellBeside_82 : decode cX2_cellBeside 82 = .ok (.ireturn, 1) := by decide +kernel
theorem dX2_cellBeside_75 : decode cX2_cellBeside 75 = .ok (.iload_n 1, 1) := by decide +kernel
theorem dX2_cellBeside_76 : decode cX2_cellBeside 76 = .ok (.iconst 1, 1) := by decide +kernel
theorem dX2_cellBeside_77 : decode cX2_cellBeside 77 = .ok (.iadd, 1) := by decide +kernel
theorem dX2_cellBeside_78 : decode cX2_cellBeside 78 = .ok (.goto 4, 3) := by decide +kernel
theorem dX2_fill_0 : decode cX2_fill 0 = .ok (.iconst 1, 1) := by decide +kernel
theorem dX2_fill_1 : decode cX2_fill 1 = .ok (.istore_n 3, 1) := by decide +kernel
theorem dX2_fill_2 : decode cX2_fill 2 = .ok (.aload_n 0, 1) := by decide +kernel
theorem dX2_fill_3 : decode cX2_fill 3 = .ok (.getfield 20, 3) := by decide +kernel
theorem dX2_fill_6 : decode cX2_fill 6 = .ok (.iload_n 1, 1) := by decide +kernel
theorem dX2_fill_7 : decode cX2_fill 7 = .ok (.iload_n 2, 1) := by decide +kernel
theorem dX2_fill_8 : decode cX2_fill 8 = .ok (.iastore, 1) := by decide +kernel
theorem dX2_fill_9 : decode cX2_fill 9 = .ok (.aload_n 0, 1) := by decide +kernel
theorem dX2_fill_10 : decode cX2_fill 10 = .ok (.getfield 48, 3) := by decide +kernel
theorem dX2_fill_13 : decode cX2_fill 13 = .ok (.iconst 0, 1) := by decide +kernel
theorem dX2_fill_14 : decode cX2_fill 14 = .ok (.iload_n 1, 1) := by decide +kernel
theorem dX2_fill_15 : decode cX2_fill 15 = .ok (.iastore, 1) := by decide +kernel
theorem dX2_fill_16 : decode cX2_fill 16 = .ok (.iconst 0, 1) := by decide +kernel
theorem dX2_fill_17 : decode cX2_fill 17 = .ok (.istore 4, 2) := by decide +kernel
theorem dX2_fill_19 : decode cX2_fill 19 = .ok (.iload 4, 2) := by decide +kernel
theorem dX2_fill_21 : decode cX2_fill 21 = .ok (.iload_n 3, 1) := by decide +kernel
theorem dX2_fill_22 : decode cX2_fill 22 = .ok (.if_icmp .ge 112, 3) := by decide +kernel
theorem dX2_fill_25 : decode cX2_fill 25 = .ok (.iconst 0, 1) := by decide +kernel
theorem dX2_fill_26 : decode cX2_fill 26 = .ok (.istore 5, 2) := by decide +kernel
theorem dX2_fill_28 : decode cX2_fill 28 = .ok (.iload 5, 2) := by decide +kernel
theorem dX2_fill_30 : decode cX2_fill 30 = .ok (.iconst 4, 1) := by decide +kernel
theorem dX2_fill_31 : decode cX2_fill 31 = .ok (.if_icmp .ge 97, 3) := by decide +kernel
theorem dX2_fill_34 : decode cX2_fill 34 = .ok (.aload_n 0, 1) := by decide +kernel
theorem dX2_fill_35 : decode cX2_fill 35 = .ok (.aload_n 0, 1) := by decide +kernel
theorem dX2_fill_36 : decode cX2_fill 36 = .ok (.getfield 48, 3) := by decide +kernel
theorem dX2_fill_39 : decode cX2_fill 39 = .ok (.iload 4, 2) := by decide +kernel
theorem dX2_fill_41 : decode cX2_fill 41 = .ok (.iaload, 1) := by decide +kernel
theorem dX2_fill_42 : decode cX2_fill 42 = .ok (.iload 5, 2) := by decide +kernel
theorem dX2_fill_44 : decode cX2_fill 44 = .ok (.invokevirtual 127, 3) := by decide +kernel
theorem dX2_fill_47 : decode cX2_fill 47 = .ok (.istore 6, 2) := by decide +kernel
theorem dX2_fill_49 : decode cX2_fill 49 = .ok (.iload 6, 2) := by decide +kernel
theorem dX2_fill_51 : decode cX2_fill 51 = .ok (.iconst (-1), 1) := by decide +kernel
theorem dX2_fill_52 : decode cX2_fill 52 = .ok (.if_icmp .eq 24, 3) := by decide +kernel
theorem dX2_fill_76 : decode cX2_fill 76 = .ok (.iconst 0, 1) := by decide +kernel
theorem dX2_fill_77 : decode cX2_fill 77 = .ok (.istore 7, 2) := by decide +kernel
theorem dX2_fill_79 : decode cX2_fill 79 = .ok (.iload 7, 2) := by decide +kernel
theorem dX2_fill_81 : decode cX2_fill 81 = .ok (.ifCond .eq 41, 3) := by decide +kernel
theorem dX2_fill_122 : decode cX2_fill 122 = .ok (.iinc 5 1, 3) := by decide +kernel
theorem dX2_fill_125 : decode cX2_fill 125 = .ok (.goto (-97), 3) := by decide +kernel
theorem dX2_fill_84 : decode cX2_fill 84 = .ok (.aload_n 0, 1) := by decide +kernel
theorem dX2_fill_85 : decode cX2_fill 85 = .ok (.getfield 20, 3) := by decide +kernel
theorem dX2_fill_88 : decode cX2_fill 88 = .ok (.iload 6, 2) := by decide +kernel
theorem dX2_fill_90 : decode cX2_fill 90 = .ok (.iaload, 1) := by decide +kernel
theorem dX2_fill_91 : decode cX2_fill 91 = .ok (.bipush (-3), 2) := by decide +kernel
theorem dX2_fill_93 : decode cX2_fill 93 = .ok (.if_icmp .ne 29, 3) := by decide +kernel
theorem dX2_fill_96 : decode cX2_fill 96 = .ok (.iload_n 3, 1) := by decide +kernel
theorem dX2_fill_97 : decode cX2_fill 97 = .ok (.sipush 576, 3) := by decide +kernel
theorem dX2_fill_100 : decode cX2_fill 100 = .ok (.if_icmp .ge 22, 3) := by decide +kernel
theorem dX2_fill_103 : decode cX2_fill 103 = .ok (.aload_n 0, 1) := by decide +kernel
theorem dX2_fill_104 : decode cX2_fill 104 = .ok (.getfield 20, 3) := by decide +kernel
theorem dX2_fill_107 : decode cX2_fill 107 = .ok (.iload 6, 2) := by decide +kernel
theorem dX2_fill_109 : decode cX2_fill 109 = .ok (.iload_n 2, 1) := by decide +kernel
theorem dX2_fill_110 : decode cX2_fill 110 = .ok (.iastore, 1) := by decide +kernel
theorem dX2_fill_111 : decode cX2_fill 111 = .ok (.aload_n 0, 1) := by decide +kernel
theorem dX2_fill_112 : decode cX2_fill 112 = .ok (.getfield 48, 3) := by decide +kernel
theorem dX2_fill_115 : decode cX2_fill 115 = .ok (.iload_n 3, 1) := by decide +kernel
theorem dX2_fill_116 : decode cX2_fill 116 = .ok (.iload 6, 2) := by decide +kernel
theorem dX2_fill_118 : decode cX2_fill 118 = .ok (.iastore, 1) := by decide +kernel
theorem dX2_fill_119 : decode cX2_fill 119 = .ok (.iinc 3 1, 3) := by decide +kernel
theorem dX2_fill_55 : decode cX2_fill 55 = .ok (.aload_n 0, 1) := by decide +kernel
theorem dX2_fill_56 : decode cX2_fill 56 = .ok (.aload_n 0, 1) := by decide +kernel
theorem dX2_fill_57 : decode cX2_fill 57 = .ok (.getfield 48, 3) := by decide +kernel
theorem dX2_fill_60 : decode cX2_fill 60 = .ok (.iload 4, 2) := by decide +kernel
theorem dX2_fill_62 : decode cX2_fill 62 = .ok (.iaload, 1) := by decide +kernel
theorem dX2_fill_63 : decode cX2_fill 63 = .ok (.iload 5, 2) := by decide +kernel
theorem dX2_fill_65 : decode cX2_fill 65 = .ok (.invokevirtual 124, 3) := by decide +kernel
theorem dX2_fill_68 : decode cX2_fill 68 = .ok (.iconst (-1), 1) := by decide +kernel
theorem dX2_fill_69 : decode cX2_fill 69 = .ok (.if_icmp .ne 7, 3) := by decide +kernel
theorem dX2_fill_72 : decode cX2_fill 72 = .ok (.iconst 1, 1) := by decide +kernel
theorem dX2_fill_73 : decode cX2_fill 73 = .ok (.goto 4, 3) := by decide +kernel
theorem dX2_fill_128 : decode cX2_fill 128 = .ok (.iinc 4 1, 3) := by decide +kernel
theorem dX2_fill_131 : decode cX2_fill 131 = .ok (.goto (-112), 3) := by decide +kernel
theorem dX2_fill_134 : decode cX2_fill 134 = .ok (.iload_n 3, 1) := by decide +kernel
theorem dX2_fill_135 : decode cX2_fill 135 = .ok (.ireturn, 1) := by decide +kernel
theorem dX2_fillFromEdge_0 : decode cX2_fillFromEdge 0 = .ok (.aload_n 0, 1) := by decide +kernel
theorem dX2_fillFromEdge_1 : decode cX2_fillFromEdge 1 = .ok (.getfield 20, 3) := by decide +kernel
theorem dX2_fillFromEdge_4 : decode cX2_fillFromEdge 4 = .ok (.iload_n 1, 1) := by decide +kernel
theorem dX2_fillFromEdge_5 : decode cX2_fillFromEdge 5 = .ok (.iaload, 1) := by decide +kernel
theorem dX2_fillFromEdge_6 : decode cX2_fillFromEdge 6 = .ok (.bipush (-3), 2) := by decide +kernel
theorem dX2_fillFromEdge_8 : decode cX2_fillFromEdge 8 = .ok (.if_icmp .ne 20, 3) := by decide +kernel
theorem dX2_fillFromEdge_28 : decode cX2_fillFromEdge 28 = .ok (.return_, 1) := by decide +kernel
theorem dX2_fillFromEdge_11 : decode cX2_fillFromEdge 11 = .ok (.aload_n 0, 1) := by decide +kernel
theorem dX2_fillFromEdge_12 : decode cX2_fillFromEdge 12 = .ok (.iload_n 1, 1) := by decide +kernel
theorem dX2_fillFromEdge_13 : decode cX2_fillFromEdge 13 = .ok (.iload_n 2, 1) := by decide +kernel
theorem dX2_fillFromEdge_14 : decode cX2_fillFromEdge 14 = .ok (.invokevirtual 124, 3) := by decide +kernel
theorem dX2_fillFromEdge_17 : decode cX2_fillFromEdge 17 = .ok (.iconst (-1), 1) := by decide +kernel
theorem dX2_fillFromEdge_18 : decode cX2_fillFromEdge 18 = .ok (.if_icmp .ne 10, 3) := by decide +kernel
theorem dX2_fillFromEdge_21 : decode cX2_fillFromEdge 21 = .ok (.aload_n 0, 1) := by decide +kernel
theorem dX2_fillFromEdge_22 : decode cX2_fillFromEdge 22 = .ok (.iload_n 1, 1) := by decide +kernel
theorem dX2_fillFromEdge_23 : decode cX2_fillFromEdge 23 = .ok (.iconst (-1), 1) := by decide +kernel
theorem dX2_fillFromEdge_24 : decode cX2_fillFromEdge 24 = .ok (.invokevirtual 122, 3) := by decide +kernel
theorem dX2_fillFromEdge_27 : decode cX2_fillFromEdge 27 = .ok (.pop, 1) := by decide +kernel
theorem dX2_fillSpaces_0 : decode cX2_fillSpaces 0 = .ok (.aload_n 0, 1) := by decide +kernel
theorem dX2_fillSpaces_1 : decode cX2_fillSpaces 1 = .ok (.getfield 20, 3) := by decide +kernel
theorem dX2_fillSpaces_4 : decode cX2_fillSpaces 4 = .ok (.bipush (-3), 2) := by decide +kernel
theorem dX2_fillSpaces_6 : decode cX2_fillSpaces 6 = .ok (.invokestatic 88, 3) := by decide +kernel
theorem dX2_fillSpaces_9 : decode cX2_fillSpaces 9 = .ok (.iconst 0, 1) := by decide +kernel
theorem dX2_fillSpaces_10 : decode cX2_fillSpaces 10 = .ok (.istore_n 1, 1) := by decide +kernel
theorem dX2_fillSpaces_11 : decode cX2_fillSpaces 11 = .ok (.iload_n 1, 1) := by decide +kernel
theorem dX2_fillSpaces_12 : decode cX2_fillSpaces 12 = .ok (.bipush 24, 2) := by decide +kernel
theorem dX2_fillSpaces_14 : decode cX2_fillSpaces 14 = .ok (.if_icmp .ge 51, 3) := by decide +kernel
theorem dX2_fillSpaces_17 : decode cX2_fillSpaces 17 = .ok (.aload_n 0, 1) := by decide +kernel
theorem dX2_fillSpaces_18 : decode cX2_fillSpaces 18 = .ok (.bipush 23, 2) := by decide +kernel
theorem dX2_fillSpaces_20 : decode cX2_fillSpaces 20 = .ok (.iload_n 1, 1) := by decide +kernel
theorem dX2_fillSpaces_21 : decode cX2_fillSpaces 21 = .ok (.invokestatic 114, 3) := by decide +kernel
theorem dX2_fillSpaces_24 : decode cX2_fillSpaces 24 = .ok (.iconst 0, 1) := by decide +kernel
theorem dX2_fillSpaces_25 : decode cX2_fillSpaces 25 = .ok (.invokevirtual 118, 3) := by decide +kernel
theorem dX2_fillSpaces_28 : decode cX2_fillSpaces 28 = .ok (.aload_n 0, 1) := by decide +kernel
theorem dX2_fillSpaces_29 : decode cX2_fillSpaces 29 = .ok (.iconst 0, 1) := by decide +kernel
theorem dX2_fillSpaces_30 : decode cX2_fillSpaces 30 = .ok (.iload_n 1, 1) := by decide +kernel
theorem dX2_fillSpaces_31 : decode cX2_fillSpaces 31 = .ok (.invokestatic 114, 3) := by decide +kernel
theorem dX2_fillSpaces_34 : decode cX2_fillSpaces 34 = .ok (.iconst 1, 1) := by decide +kernel
theorem dX2_fillSpaces_35 : decode cX2_fillSpaces 35 = .ok (.invokevirtual 118, 3) := by decide +kernel
theorem dX2_fillSpaces_38 : decode cX2_fillSpaces 38 = .ok (.aload_n 0, 1) := by decide +kernel
theorem dX2_fillSpaces_39 : decode cX2_fillSpaces 39 = .ok (.iload_n 1, 1) := by decide +kernel
theorem dX2_fillSpaces_40 : decode cX2_fillSpaces 40 = .ok (.bipush 23, 2) := by decide +kernel
theorem dX2_fillSpaces_42 : decode cX2_fillSpaces 42 = .ok (.invokestatic 114, 3) := by decide +kernel
theorem dX2_fillSpaces_45 : decode cX2_fillSpaces 45 = .ok (.iconst 2, 1) := by decide +kernel
theorem dX2_fillSpaces_46 : decode cX2_fillSpaces 46 = .ok (.invokevirtual 118, 3) := by decide +kernel
theorem dX2_fillSpaces_49 : decode cX2_fillSpaces 49 = .ok (.aload_n 0, 1) := by decide +kernel
theorem dX2_fillSpaces_50 : decode cX2_fillSpaces 50 = .ok (.iload_n 1, 1) := by decide +kernel
theorem dX2_fillSpaces_51 : decode cX2_fillSpaces 51 = .ok (.iconst 0, 1) := by decide +kernel
theorem dX2_fillSpaces_52 : decode cX2_fillSpaces 52 = .ok (.invokestatic 114, 3) := by decide +kernel
theorem dX2_fillSpaces_55 : decode cX2_fillSpaces 55 = .ok (.iconst 3, 1) := by decide +kernel
theorem dX2_fillSpaces_56 : decode cX2_fillSpaces 56 = .ok (.invokevirtual 118, 3) := by decide +kernel
theorem dX2_fillSpaces_59 : decode cX2_fillSpaces 59 = .ok (.iinc 1 1, 3) := by decide +kernel
theorem dX2_fillSpaces_62 : decode cX2_fillSpaces 62 = .ok (.goto (-51), 3) := by decide +kernel
theorem dX2_fillSpaces_65 : decode cX2_fillSpaces 65 = .ok (.aload_n 0, 1) := by decide +kernel
theorem dX2_fillSpaces_66 : decode cX2_fillSpaces 66 = .ok (.iconst 0, 1) := by decide +kernel
theorem dX2_fillSpaces_67 : decode cX2_fillSpaces 67 = .ok (.putfield 58, 3) := by decide +kernel
theorem dX2_fillSpaces_70 : decode cX2_fillSpaces 70 = .ok (.iconst 0, 1) := by decide +kernel
theorem dX2_fillSpaces_71 : decode cX2_fillSpaces 71 = .ok (.istore_n 1, 1) := by decide +kernel
theorem dX2_fillSpaces_72 : decode cX2_fillSpaces 72 = .ok (.iload_n 1, 1) := by decide +kernel
theorem dX2_fillSpaces_73 : decode cX2_fillSpaces 73 = .ok (.sipush 576, 3) := by decide +kernel
theorem dX2_fillSpaces_76 : decode cX2_fillSpaces 76 = .ok (.if_icmp .ge 57, 3) := by decide +kernel
theorem dX2_fillSpaces_79 : decode cX2_fillSpaces 79 = .ok (.aload_n 0, 1) := by decide +kernel
theorem dX2_fillSpaces_80 : decode cX2_fillSpaces 80 = .ok (.getfield 20, 3) := by decide +kernel
theorem dX2_fillSpaces_83 : decode cX2_fillSpaces 83 = .ok (.iload_n 1, 1) := by decide +kernel
theorem dX2_fillSpaces_84 : decode cX2_fillSpaces 84 = .ok (.iaload, 1) := by decide +kernel
theorem dX2_fillSpaces_85 : decode cX2_fillSpaces 85 = .ok (.bipush (-3), 2) := by decide +kernel
theorem dX2_fillSpaces_87 : decode cX2_fillSpaces 87 = .ok (.if_icmp .ne 40, 3) := by decide +kernel
theorem dX2_fillSpaces_127 : decode cX2_fillSpaces 127 = .ok (.iinc 1 1, 3) := by decide +kernel
theorem dX2_fillSpaces_130 : decode cX2_fillSpaces 130 = .ok (.goto (-58), 3) := by decide +kernel
theorem dX2_fillSpaces_90 : decode cX2_fillSpaces 90 = .ok (.aload_n 0, 1) := by decide +kernel
theorem dX2_fillSpaces_91 : decode cX2_fillSpaces 91 = .ok (.getfield 58, 3) := by decide +kernel
theorem dX2_fillSpaces_94 : decode cX2_fillSpaces 94 = .ok (.bipush 100, 2) := by decide +kernel
theorem dX2_fillSpaces_96 : decode cX2_fillSpaces 96 = .ok (.if_icmp .ge 31, 3) := by decide +kernel
theorem dX2_fillSpaces_99 : decode cX2_fillSpaces 99 = .ok (.aload_n 0, 1) := by decide +kernel
theorem dX2_fillSpaces_100 : decode cX2_fillSpaces 100 = .ok (.getfield 33, 3) := by decide +kernel
theorem dX2_fillSpaces_103 : decode cX2_fillSpaces 103 = .ok (.aload_n 0, 1) := by decide +kernel
theorem dX2_fillSpaces_104 : decode cX2_fillSpaces 104 = .ok (.getfield 58, 3) := by decide +kernel
theorem dX2_fillSpaces_107 : decode cX2_fillSpaces 107 = .ok (.aload_n 0, 1) := by decide +kernel
theorem dX2_fillSpaces_108 : decode cX2_fillSpaces 108 = .ok (.iload_n 1, 1) := by decide +kernel
theorem dX2_fillSpaces_109 : decode cX2_fillSpaces 109 = .ok (.aload_n 0, 1) := by decide +kernel
theorem dX2_fillSpaces_110 : decode cX2_fillSpaces 110 = .ok (.getfield 58, 3) := by decide +kernel
theorem dX2_fillSpaces_113 : decode cX2_fillSpaces 113 = .ok (.invokevirtual 122, 3) := by decide +kernel
theorem dX2_fillSpaces_116 : decode cX2_fillSpaces 116 = .ok (.iastore, 1) := by decide +kernel
theorem dX2_fillSpaces_117 : decode cX2_fillSpaces 117 = .ok (.aload_n 0, 1) := by decide +kernel
theorem dX2_fillSpaces_118 : decode cX2_fillSpaces 118 = .ok (.dup, 1) := by decide +kernel
theorem dX2_fillSpaces_119 : decode cX2_fillSpaces 119 = .ok (.getfield 58, 3) := by decide +kernel
theorem dX2_fillSpaces_122 : decode cX2_fillSpaces 122 = .ok (.iconst 1, 1) := by decide +kernel
theorem dX2_fillSpaces_123 : decode cX2_fillSpaces 123 = .ok (.iadd, 1) := by decide +kernel
theorem dX2_fillSpaces_124 : decode cX2_fillSpaces 124 = .ok (.putfield 58, 3) := by decide +kernel
theorem dX2_fillSpaces_133 : decode cX2_fillSpaces 133 = .ok (.return_, 1) := by decide +kernel
theorem dX2_leftOf_0 : decode cX2_leftOf 0 = .ok (.aload_n 0, 1) := by decide +kernel
theorem dX2_leftOf_1 : decode cX2_leftOf 1 = .ok (.iload_n 3, 1) := by decide +kernel
theorem dX2_leftOf_2 : decode cX2_leftOf 2 = .ok (.iconst 1, 1) := by decide +kernel
theorem dX2_leftOf_3 : decode cX2_leftOf 3 = .ok (.if_icmp .eq 8, 3) := by decide +kernel
theorem dX2_leftOf_11 : decode cX2_leftOf 11 = .ok (.iload_n 1, 1) := by decide +kernel
theorem dX2_leftOf_12 : decode cX2_leftOf 12 = .ok (.iconst 1, 1) := by decide +kernel
theorem dX2_leftOf_13 : decode cX2_leftOf 13 = .ok (.isub, 1) := by decide +kernel
theorem dX2_leftOf_14 : decode cX2_leftOf 14 = .ok (.goto 4, 3) := by decide +kernel
theorem dX2_leftOf_18 : decode cX2_leftOf 18 = .ok (.iload_n 3, 1) := by decide +kernel
theorem dX2_leftOf_19 : decode cX2_leftOf 19 = .ok (.iconst 2, 1) := by decide +kernel
theorem dX2_leftOf_20 : decode cX2_leftOf 20 = .ok (.if_icmp .lt 9, 3) := by decide +kernel
theorem dX2_leftOf_29 : decode cX2_leftOf 29 = .ok (.iload_n 2, 1) := by decide +kernel
theorem dX2_leftOf_30 : decode cX2_leftOf 30 = .ok (.invokevirtual 136, 3) := by decide +kernel
theorem dX2_leftOf_33 : decode cX2_leftOf 33 = .ok (.ireturn, 1) := by decide +kernel
theorem dX2_leftOf_23 : decode cX2_leftOf 23 = .ok (.iload_n 2, 1) := by decide +kernel
theorem dX2_leftOf_24 : decode cX2_leftOf 24 = .ok (.iconst 1, 1) := by decide +kernel
theorem dX2_leftOf_25 : decode cX2_leftOf 25 = .ok (.isub, 1) := by decide +kernel
theorem dX2_leftOf_26 : decode cX2_leftOf 26 = .ok (.goto 4, 3) := by decide +kernel
theorem dX2_leftOf_6 : decode cX2_leftOf 6 = .ok (.iload_n 3, 1) := by decide +kernel
theorem dX2_leftOf_7 : decode cX2_leftOf 7 = .ok (.iconst 2, 1) := by decide +kernel
theorem dX2_leftOf_8 : decode cX2_leftOf 8 = .ok (.if_icmp .ne 9, 3) := by decide +kernel
theorem dX2_leftOf_17 : decode cX2_leftOf 17 = .ok (.iload_n 1, 1) := by decide +kernel
theorem dX2_pieceLength_0 : decode cX2_pieceLength 0 = .ok (.iconst 1, 1) := by decide +kernel
theorem dX2_pieceLength_1 : decode cX2_pieceLength 1 = .ok (.istore 4, 2) := by decide +kernel
theorem dX2_pieceLength_3 : decode cX2_pieceLength 3 = .ok (.iconst 1, 1) := by decide +kernel
theorem dX2_pieceLength_4 : decode cX2_pieceLength 4 = .ok (.istore 5, 2) := by decide +kernel
theorem dX2_pieceLength_6 : decode cX2_pieceLength 6 = .ok (.iload 5, 2) := by decide +kernel
theorem dX2_pieceLength_8 : decode cX2_pieceLength 8 = .ok (.bipush 24, 2) := by decide +kernel
theorem dX2_pieceLength_10 : decode cX2_pieceLength 10 = .ok (.if_icmp .ge 56, 3) := by decide +kernel
theorem dX2_pieceLength_13 : decode cX2_pieceLength 13 = .ok (.aload_n 0, 1) := by decide +kernel
theorem dX2_pieceLength_14 : decode cX2_pieceLength 14 = .ok (.iload_n 1, 1) := by decide +kernel
theorem dX2_pieceLength_15 : decode cX2_pieceLength 15 = .ok (.iload_n 2, 1) := by decide +kernel
theorem dX2_pieceLength_16 : decode cX2_pieceLength 16 = .ok (.iload_n 3, 1) := by decide +kernel
theorem dX2_pieceLength_17 : decode cX2_pieceLength 17 = .ok (.invokevirtual 110, 3) := by decide +kernel
theorem dX2_pieceLength_20 : decode cX2_pieceLength 20 = .ok (.iconst (-1), 1) := by decide +kernel
theorem dX2_pieceLength_21 : decode cX2_pieceLength 21 = .ok (.if_icmp .eq 45, 3) := by decide +kernel
theorem dX2_pieceLength_24 : decode cX2_pieceLength 24 = .ok (.iload_n 1, 1) := by decide +kernel
theorem dX2_pieceLength_25 : decode cX2_pieceLength 25 = .ok (.getstatic 158, 3) := by decide +kernel
theorem dX2_pieceLength_28 : decode cX2_pieceLength 28 = .ok (.iload_n 3, 1) := by decide +kernel
theorem dX2_pieceLength_29 : decode cX2_pieceLength 29 = .ok (.iaload, 1) := by decide +kernel
theorem dX2_pieceLength_30 : decode cX2_pieceLength 30 = .ok (.iadd, 1) := by decide +kernel
theorem dX2_pieceLength_31 : decode cX2_pieceLength 31 = .ok (.istore_n 1, 1) := by decide +kernel
theorem dX2_pieceLength_32 : decode cX2_pieceLength 32 = .ok (.iload_n 2, 1) := by decide +kernel
theorem dX2_pieceLength_33 : decode cX2_pieceLength 33 = .ok (.getstatic 161, 3) := by decide +kernel
theorem dX2_pieceLength_36 : decode cX2_pieceLength 36 = .ok (.iload_n 3, 1) := by decide +kernel
theorem dX2_pieceLength_37 : decode cX2_pieceLength 37 = .ok (.iaload, 1) := by decide +kernel
theorem dX2_pieceLength_38 : decode cX2_pieceLength 38 = .ok (.iadd, 1) := by decide +kernel
theorem dX2_pieceLength_39 : decode cX2_pieceLength 39 = .ok (.istore_n 2, 1) := by decide +kernel
theorem dX2_pieceLength_40 : decode cX2_pieceLength 40 = .ok (.aload_n 0, 1) := by decide +kernel
theorem dX2_pieceLength_41 : decode cX2_pieceLength 41 = .ok (.getfield 16, 3) := by decide +kernel
theorem dX2_pieceLength_44 : decode cX2_pieceLength 44 = .ok (.iload_n 1, 1) := by decide +kernel
theorem dX2_pieceLength_45 : decode cX2_pieceLength 45 = .ok (.bipush 25, 2) := by decide +kernel
theorem dX2_pieceLength_47 : decode cX2_pieceLength 47 = .ok (.imul, 1) := by decide +kernel
theorem dX2_pieceLength_48 : decode cX2_pieceLength 48 = .ok (.iload_n 2, 1) := by decide +kernel
theorem dX2_pieceLength_49 : decode cX2_pieceLength 49 = .ok (.iadd, 1) := by decide +kernel
theorem dX2_pieceLength_50 : decode cX2_pieceLength 50 = .ok (.baload, 1) := by decide +kernel
theorem dX2_pieceLength_51 : decode cX2_pieceLength 51 = .ok (.ifCond .eq 6, 3) := by decide +kernel
theorem dX2_pieceLength_57 : decode cX2_pieceLength 57 = .ok (.iinc 4 1, 3) := by decide +kernel
theorem dX2_pieceLength_60 : decode cX2_pieceLength 60 = .ok (.iinc 5 1, 3) := by decide +kernel
theorem dX2_pieceLength_63 : decode cX2_pieceLength 63 = .ok (.goto (-57), 3) := by decide +kernel
theorem dX2_pieceLength_54 : decode cX2_pieceLength 54 = .ok (.iload 4, 2) := by decide +kernel
theorem dX2_pieceLength_56 : decode cX2_pieceLength 56 = .ok (.ireturn, 1) := by decide +kernel
theorem dX2_pieceLength_66 : decode cX2_pieceLength 66 = .ok (.iload 4, 2) := by decide +kernel
theorem dX2_pieceLength_68 : decode cX2_pieceLength 68 = .ok (.ireturn, 1) := by decide +kernel
theorem dX2_rightOf_0 : decode cX2_rightOf 0 = .ok (.aload_n 0, 1) := by decide +kernel
theorem dX2_rightOf_1 : decode cX2_rightOf 1 = .ok (.iload_n 3, 1) := by decide +kernel
theorem dX2_rightOf_2 : decode cX2_rightOf 2 = .ok (.iconst 2, 1) := by decide +kernel
theorem dX2_rightOf_3 : decode cX2_rightOf 3 = .ok (.if_icmp .lt 9, 3) := by decide +kernel
theorem dX2_rightOf_12 : decode cX2_rightOf 12 = .ok (.iload_n 1, 1) := by decide +kernel
theorem dX2_rightOf_13 : decode cX2_rightOf 13 = .ok (.iload_n 3, 1) := by decide +kernel
theorem dX2_rightOf_14 : decode cX2_rightOf 14 = .ok (.ifCond .eq 8, 3) := by decide +kernel
theorem dX2_rightOf_22 : decode cX2_rightOf 22 = .ok (.iload_n 2, 1) := by decide +kernel
theorem dX2_rightOf_23 : decode cX2_rightOf 23 = .ok (.iconst 1, 1) := by decide +kernel
theorem dX2_rightOf_24 : decode cX2_rightOf 24 = .ok (.isub, 1) := by decide +kernel
theorem dX2_rightOf_25 : decode cX2_rightOf 25 = .ok (.goto 4, 3) := by decide +kernel
theorem dX2_rightOf_29 : decode cX2_rightOf 29 = .ok (.invokevirtual 136, 3) := by decide +kernel
theorem dX2_rightOf_32 : decode cX2_rightOf 32 = .ok (.ireturn, 1) := by decide +kernel
theorem dX2_rightOf_17 : decode cX2_rightOf 17 = .ok (.iload_n 3, 1) := by decide +kernel
theorem dX2_rightOf_18 : decode cX2_rightOf 18 = .ok (.iconst 3, 1) := by decide +kernel
theorem dX2_rightOf_19 : decode cX2_rightOf 19 = .ok (.if_icmp .ne 9, 3) := by decide +kernel
theorem dX2_rightOf_28 : decode cX2_rightOf 28 = .ok (.iload_n 2, 1) := by decide +kernel
theorem dX2_rightOf_6 : decode cX2_rightOf 6 = .ok (.iload_n 1, 1) := by decide +kernel
theorem dX2_rightOf_7 : decode cX2_rightOf 7 = .ok (.iconst 1, 1) := by decide +kernel
theorem dX2_rightOf_8 : decode cX2_rightOf 8 = .ok (.isub, 1) := by decide +kernel
theorem dX2_rightOf_9 : decode cX2_rightOf 9 = .ok (.goto 4, 3) := by decide +kernel
theorem dX2_noteSide_0 : decode cX2_noteSide 0 = .ok (.aload_n 0, 1) := by decide +kernel
theorem dX2_noteSide_1 : decode cX2_noteSide 1 = .ok (.getfield 142, 3) := by decide +kernel
theorem dX2_noteSide_4 : decode cX2_noteSide 4 = .ok (.sipush 440, 3) := by decide +kernel
theorem dX2_noteSide_7 : decode cX2_noteSide 7 = .ok (.if_icmp .ge 84, 3) := by decide +kernel
theorem dX2_noteSide_91 : decode cX2_noteSide 91 = .ok (.return_, 1) := by decide +kernel
theorem dX2_noteSide_10 : decode cX2_noteSide 10 = .ok (.aload_n 0, 1) := by decide +kernel
theorem dX2_noteSide_11 : decode cX2_noteSide 11 = .ok (.getfield 42, 3) := by decide +kernel
theorem dX2_noteSide_14 : decode cX2_noteSide 14 = .ok (.aload_n 0, 1) := by decide +kernel
theorem dX2_noteSide_15 : decode cX2_noteSide 15 = .ok (.getfield 142, 3) := by decide +kernel
theorem dX2_noteSide_18 : decode cX2_noteSide 18 = .ok (.aaload, 1) := by decide +kernel
theorem dX2_noteSide_19 : decode cX2_noteSide 19 = .ok (.astore 5, 2) := by decide +kernel
theorem dX2_noteSide_21 : decode cX2_noteSide 21 = .ok (.aload 5, 2) := by decide +kernel
theorem dX2_noteSide_23 : decode cX2_noteSide 23 = .ok (.iconst 0, 1) := by decide +kernel
theorem dX2_noteSide_24 : decode cX2_noteSide 24 = .ok (.aload_n 0, 1) := by decide +kernel
theorem dX2_noteSide_25 : decode cX2_noteSide 25 = .ok (.iload_n 1, 1) := by decide +kernel
theorem dX2_noteSide_26 : decode cX2_noteSide 26 = .ok (.iload_n 2, 1) := by decide +kernel
theorem dX2_noteSide_27 : decode cX2_noteSide 27 = .ok (.iload_n 3, 1) := by decide +kernel
theorem dX2_noteSide_28 : decode cX2_noteSide 28 = .ok (.invokevirtual 110, 3) := by decide +kernel
theorem dX2_noteSide_31 : decode cX2_noteSide 31 = .ok (.iastore, 1) := by decide +kernel
theorem dX2_noteSide_32 : decode cX2_noteSide 32 = .ok (.aload 5, 2) := by decide +kernel
theorem dX2_noteSide_34 : decode cX2_noteSide 34 = .ok (.iconst 1, 1) := by decide +kernel
theorem dX2_noteSide_35 : decode cX2_noteSide 35 = .ok (.iload_n 1, 1) := by decide +kernel
theorem dX2_noteSide_36 : decode cX2_noteSide 36 = .ok (.iastore, 1) := by decide +kernel
theorem dX2_noteSide_37 : decode cX2_noteSide 37 = .ok (.aload 5, 2) := by decide +kernel
theorem dX2_noteSide_39 : decode cX2_noteSide 39 = .ok (.iconst 2, 1) := by decide +kernel
theorem dX2_noteSide_40 : decode cX2_noteSide 40 = .ok (.iload_n 2, 1) := by decide +kernel
theorem dX2_noteSide_41 : decode cX2_noteSide 41 = .ok (.iastore, 1) := by decide +kernel
theorem dX2_noteSide_42 : decode cX2_noteSide 42 = .ok (.aload 5, 2) := by decide +kernel
theorem dX2_noteSide_44 : decode cX2_noteSide 44 = .ok (.iconst 3, 1) := by decide +kernel
theorem dX2_noteSide_45 : decode cX2_noteSide 45 = .ok (.iload_n 1, 1) := by decide +kernel
theorem dX2_noteSide_46 : decode cX2_noteSide 46 = .ok (.iload 4, 2) := by decide +kernel
theorem dX2_noteSide_48 : decode cX2_noteSide 48 = .ok (.getstatic 158, 3) := by decide +kernel
theorem dX2_noteSide_51 : decode cX2_noteSide 51 = .ok (.iload_n 3, 1) := by decide +kernel
theorem dX2_noteSide_52 : decode cX2_noteSide 52 = .ok (.iaload, 1) := by decide +kernel
theorem dX2_noteSide_53 : decode cX2_noteSide 53 = .ok (.imul, 1) := by decide +kernel
theorem dX2_noteSide_54 : decode cX2_noteSide 54 = .ok (.iadd, 1) := by decide +kernel
theorem dX2_noteSide_55 : decode cX2_noteSide 55 = .ok (.iastore, 1) := by decide +kernel
theorem dX2_noteSide_56 : decode cX2_noteSide 56 = .ok (.aload 5, 2) := by decide +kernel
theorem dX2_noteSide_58 : decode cX2_noteSide 58 = .ok (.iconst 4, 1) := by decide +kernel
theorem dX2_noteSide_59 : decode cX2_noteSide 59 = .ok (.iload_n 2, 1) := by decide +kernel
theorem dX2_noteSide_60 : decode cX2_noteSide 60 = .ok (.iload 4, 2) := by decide +kernel
theorem dX2_noteSide_62 : decode cX2_noteSide 62 = .ok (.getstatic 161, 3) := by decide +kernel
theorem dX2_noteSide_65 : decode cX2_noteSide 65 = .ok (.iload_n 3, 1) := by decide +kernel
theorem dX2_noteSide_66 : decode cX2_noteSide 66 = .ok (.iaload, 1) := by decide +kernel
theorem dX2_noteSide_67 : decode cX2_noteSide 67 = .ok (.imul, 1) := by decide +kernel
theorem dX2_noteSide_68 : decode cX2_noteSide 68 = .ok (.iadd, 1) := by decide +kernel
theorem dX2_noteSide_69 : decode cX2_noteSide 69 = .ok (.iastore, 1) := by decide +kernel
theorem dX2_noteSide_70 : decode cX2_noteSide 70 = .ok (.aload 5, 2) := by decide +kernel
theorem dX2_noteSide_72 : decode cX2_noteSide 72 = .ok (.iconst 5, 1) := by decide +kernel
theorem dX2_noteSide_73 : decode cX2_noteSide 73 = .ok (.aload_n 0, 1) := by decide +kernel
theorem dX2_noteSide_74 : decode cX2_noteSide 74 = .ok (.iload_n 1, 1) := by decide +kernel
theorem dX2_noteSide_75 : decode cX2_noteSide 75 = .ok (.iload_n 2, 1) := by decide +kernel
theorem dX2_noteSide_76 : decode cX2_noteSide 76 = .ok (.iload_n 3, 1) := by decide +kernel
theorem dX2_noteSide_77 : decode cX2_noteSide 77 = .ok (.invokevirtual 167, 3) := by decide +kernel
theorem dX2_noteSide_80 : decode cX2_noteSide 80 = .ok (.iastore, 1) := by decide +kernel
theorem dX2_noteSide_81 : decode cX2_noteSide 81 = .ok (.aload_n 0, 1) := by decide +kernel
theorem dX2_noteSide_82 : decode cX2_noteSide 82 = .ok (.dup, 1) := by decide +kernel
theorem dX2_noteSide_83 : decode cX2_noteSide 83 = .ok (.getfield 142, 3) := by decide +kernel
theorem dX2_noteSide_86 : decode cX2_noteSide 86 = .ok (.iconst 1, 1) := by decide +kernel
theorem dX2_noteSide_87 : decode cX2_noteSide 87 = .ok (.iadd, 1) := by decide +kernel
theorem dX2_noteSide_88 : decode cX2_noteSide 88 = .ok (.putfield 142, 3) := by decide +kernel
theorem dX2_turnAt_0 : decode cX2_turnAt 0 = .ok (.iconst 0, 1) := by decide +kernel
theorem dX2_turnAt_1 : decode cX2_turnAt 1 = .ok (.istore 4, 2) := by decide +kernel
theorem dX2_turnAt_3 : decode cX2_turnAt 3 = .ok (.iload 4, 2) := by decide +kernel
theorem dX2_turnAt_5 : decode cX2_turnAt 5 = .ok (.getstatic 170, 3) := by decide +kernel
theorem dX2_turnAt_8 : decode cX2_turnAt 8 = .ok (.arraylength, 1) := by decide +kernel
theorem dX2_turnAt_9 : decode cX2_turnAt 9 = .ok (.if_icmp .ge 36, 3) := by decide +kernel
theorem dX2_turnAt_12 : decode cX2_turnAt 12 = .ok (.iload_n 3, 1) := by decide +kernel
theorem dX2_turnAt_13 : decode cX2_turnAt 13 = .ok (.getstatic 170, 3) := by decide +kernel
theorem dX2_turnAt_16 : decode cX2_turnAt 16 = .ok (.iload 4, 2) := by decide +kernel
theorem dX2_turnAt_18 : decode cX2_turnAt 18 = .ok (.iaload, 1) := by decide +kernel
theorem dX2_turnAt_19 : decode cX2_turnAt 19 = .ok (.iadd, 1) := by decide +kernel
theorem dX2_turnAt_20 : decode cX2_turnAt 20 = .ok (.iconst 4, 1) := by decide +kernel
theorem dX2_turnAt_21 : decode cX2_turnAt 21 = .ok (.irem, 1) := by decide +kernel
theorem dX2_turnAt_22 : decode cX2_turnAt 22 = .ok (.istore 5, 2) := by decide +kernel
theorem dX2_turnAt_24 : decode cX2_turnAt 24 = .ok (.aload_n 0, 1) := by decide +kernel
theorem dX2_turnAt_25 : decode cX2_turnAt 25 = .ok (.iload_n 1, 1) := by decide +kernel
theorem dX2_turnAt_26 : decode cX2_turnAt 26 = .ok (.iload_n 2, 1) := by decide +kernel
theorem dX2_turnAt_27 : decode cX2_turnAt 27 = .ok (.iload 5, 2) := by decide +kernel
theorem dX2_turnAt_29 : decode cX2_turnAt 29 = .ok (.invokevirtual 110, 3) := by decide +kernel
theorem dX2_turnAt_32 : decode cX2_turnAt 32 = .ok (.iconst (-1), 1) := by decide +kernel
theorem dX2_turnAt_33 : decode cX2_turnAt 33 = .ok (.if_icmp .eq 6, 3) := by decide +kernel
theorem dX2_turnAt_39 : decode cX2_turnAt 39 = .ok (.iinc 4 1, 3) := by decide +kernel
theorem dX2_turnAt_42 : decode cX2_turnAt 42 = .ok (.goto (-39), 3) := by decide +kernel
theorem dX2_turnAt_36 : decode cX2_turnAt 36 = .ok (.iload 5, 2) := by decide +kernel
theorem dX2_turnAt_38 : decode cX2_turnAt 38 = .ok (.ireturn, 1) := by decide +kernel
theorem dX2_turnAt_45 : decode cX2_turnAt 45 = .ok (.iload_n 3, 1) := by decide +kernel
theorem dX2_turnAt_46 : decode cX2_turnAt 46 = .ok (.ireturn, 1) := by decide +kernel
theorem zl_X1_136 : zm_F zk_E RX1 136 1 10 := ⟨RX1, TX1, 20, rfl, zk_i1, by decide, zk_b3 40 (by decide +kernel) rfl⟩
theorem zt_1_10 : zm_T zk_E RX1 1 10 .int false := ⟨RX1, TX1, 20, tyX1, rfl, tyX1_ok, nmX1, rfl, rfl, rfl⟩
theorem zl_X1_148 : zm_F zk_E RX1 148 1 13 := ⟨RX1, TX1, 20, rfl, zk_i1, by decide, zk_b3 43 (by decide +kernel) rfl⟩
theorem zt_1_13 : zm_T zk_E RX1 1 13 .int false := ⟨RX1, TX1, 20, tyX1, rfl, tyX1_ok, nmX1, rfl, rfl, rfl⟩
theorem zl_X1_151 : zm_F zk_E RX1 151 1 11 := ⟨RX1, TX1, 20, rfl, zk_i1, by decide, zk_b3 41 (by decide +kernel) rfl⟩
theorem zt_1_11 : zm_T zk_E RX1 1 11 .boolean false := ⟨RX1, TX1, 20, tyX1, rfl, tyX1_ok, nmX1, rfl, rfl, rfl⟩
theorem zl_X1_145 : zm_L zk_E RX1 145 yX1_beginCharacter (.code yX1_beginCharacter cX1_beginCharacter 1 none) 0 ∧ Cond.instanceMethod yX1_beginCharacter ∈ zk_E.2.2.1 ∧ Cond.selects yX1_beginCharacter.cls yX1_beginCharacter yX1_beginCharacter ∈ zk_E.2.2.1 := ⟨⟨zk_b12 229 (by decide +kernel) rfl, zk_b1 10 (by decide +kernel) rfl, zk_b12 226 (by decide +kernel) rfl, by decide +kernel, by decide +kernel, by decide +kernel⟩, zk_b12 228 (by decide +kernel) rfl, zk_s10 (q := (yX1_beginCharacter, 20)) 10 (by decide +kernel)⟩
theorem zl_X1_127 : Cond.methodLink RX1 127 arraycopyName ∈ zk_E.2.2.1 ∧ Cond.native arraycopyName ∈ zk_E.2.2.1 ∧ Cond.static arraycopyName ∈ zk_E.2.2.1 ∧ Cond.initialized "java/lang/System" ∈ zk_E.2.2.1 := ⟨zk_b13 2 (by decide +kernel) rfl, zk_b4 104 (by decide +kernel) rfl, zk_b4 103 (by decide +kernel) rfl, zk_b1 32 (by decide +kernel) rfl⟩
theorem zt_1_15 : zm_T zk_E RX1 1 15 .int false := ⟨RX1, TX1, 20, tyX1, rfl, tyX1_ok, nmX1, rfl, rfl, rfl⟩
theorem zl_X1_66 : zm_F zk_E RX1 66 1 17 := ⟨RX1, TX1, 20, rfl, zk_i1, by decide, zk_b3 49 (by decide +kernel) rfl⟩
theorem zt_1_17 : zm_T zk_E RX1 1 17 .boolean false := ⟨RX1, TX1, 20, tyX1, rfl, tyX1_ok, nmX1, rfl, rfl, rfl⟩
theorem zl_X1_159 : zm_FN zk_E RX1 159 9 12 := ⟨RX9, TX9, 20, "TowerHouse", rfl, zk_i9, by decide, zk_n2 210 (by decide +kernel) rfl⟩
theorem zl_X1_154 : zm_L zk_E RX1 154 yX1_takeTelegram (.code yX1_takeTelegram cX1_takeTelegram 3 none) 1 ∧ Cond.instanceMethod yX1_takeTelegram ∈ zk_E.2.2.1 ∧ Cond.selects yX1_takeTelegram.cls yX1_takeTelegram yX1_takeTelegram ∈ zk_E.2.2.1 := ⟨⟨zk_b13 1 (by decide +kernel) rfl, zk_b1 10 (by decide +kernel) rfl, zk_b12 238 (by decide +kernel) rfl, by decide +kernel, by decide +kernel, by decide +kernel⟩, zk_b13 0 (by decide +kernel) rfl, zk_s10 (q := (yX1_takeTelegram, 20)) 13 (by decide +kernel)⟩
theorem zl_X1_142 : zm_L zk_E RX1 142 yX1_complete (.code yX1_complete cX1_complete 3 none) 0 ∧ Cond.instanceMethod yX1_complete ∈ zk_E.2.2.1 ∧ Cond.selects yX1_complete.cls yX1_complete yX1_complete ∈ zk_E.2.2.1 := ⟨⟨zk_b12 237 (by decide +kernel) rfl, zk_b1 10 (by decide +kernel) rfl, zk_b12 234 (by decide +kernel) rfl, by decide +kernel, by decide +kernel, by decide +kernel⟩, zk_b12 236 (by decide +kernel) rfl, zk_s10 (q := (yX1_complete, 20)) 12 (by decide +kernel)⟩
theorem zl_X1_133 : zm_L zk_E RX1 133 yX1_beginHearing (.code yX1_beginHearing cX1_beginHearing 1 none) 0 ∧ Cond.instanceMethod yX1_beginHearing ∈ zk_E.2.2.1 ∧ Cond.selects yX1_beginHearing.cls yX1_beginHearing yX1_beginHearing ∈ zk_E.2.2.1 := ⟨⟨zk_b12 225 (by decide +kernel) rfl, zk_b1 10 (by decide +kernel) rfl, zk_b12 222 (by decide +kernel) rfl, by decide +kernel, by decide +kernel, by decide +kernel⟩, zk_b12 224 (by decide +kernel) rfl, zk_s10 (q := (yX1_beginHearing, 20)) 9 (by decide +kernel)⟩
theorem zl_X1_139 : zm_L zk_E RX1 139 yX1_takeCharacter (.code yX1_takeCharacter cX1_takeCharacter 2 none) 0 ∧ Cond.instanceMethod yX1_takeCharacter ∈ zk_E.2.2.1 ∧ Cond.selects yX1_takeCharacter.cls yX1_takeCharacter yX1_takeCharacter ∈ zk_E.2.2.1 := ⟨⟨zk_b12 233 (by decide +kernel) rfl, zk_b1 10 (by decide +kernel) rfl, zk_b12 230 (by decide +kernel) rfl, by decide +kernel, by decide +kernel, by decide +kernel⟩, zk_b12 232 (by decide +kernel) rfl, zk_s10 (q := (yX1_takeCharacter, 20)) 11 (by decide +kernel)⟩
theorem zl_X1_124 : zm_L zk_E RX1 124 yX1_dropFirst (.code yX1_dropFirst cX1_dropFirst 3 none) 1 ∧ Cond.instanceMethod yX1_dropFirst ∈ zk_E.2.2.1 ∧ Cond.selects yX1_dropFirst.cls yX1_dropFirst yX1_dropFirst ∈ zk_E.2.2.1 := ⟨⟨zk_b13 10 (by decide +kernel) rfl, zk_b1 10 (by decide +kernel) rfl, zk_b13 7 (by decide +kernel) rfl, by decide +kernel, by decide +kernel, by decide +kernel⟩, zk_b13 9 (by decide +kernel) rfl, zk_s10 (q := (yX1_dropFirst, 20)) 15 (by decide +kernel)⟩
theorem zt_1_5 : zm_T zk_E RX1 1 5 .int false := ⟨RX1, TX1, 20, tyX1, rfl, tyX1_ok, nmX1, rfl, rfl, rfl⟩
theorem zl_X1_73 : zm_L zk_E RX1 73 yX1_beginSaying (.code yX1_beginSaying cX1_beginSaying 5 none) 1 ∧ Cond.instanceMethod yX1_beginSaying ∈ zk_E.2.2.1 ∧ Cond.selects yX1_beginSaying.cls yX1_beginSaying yX1_beginSaying ∈ zk_E.2.2.1 := ⟨⟨zk_b12 194 (by decide +kernel) rfl, zk_b1 10 (by decide +kernel) rfl, zk_b12 191 (by decide +kernel) rfl, by decide +kernel, by decide +kernel, by decide +kernel⟩, zk_b12 193 (by decide +kernel) rfl, zk_s10 (q := (yX1_beginSaying, 20)) 3 (by decide +kernel)⟩
theorem zl_X1_77 : zm_L zk_E RX1 77 yX1_lineNow (.code yX1_lineNow cX1_lineNow 5 (some .int)) 0 ∧ Cond.instanceMethod yX1_lineNow ∈ zk_E.2.2.1 ∧ Cond.selects yX1_lineNow.cls yX1_lineNow yX1_lineNow ∈ zk_E.2.2.1 := ⟨⟨zk_b12 201 (by decide +kernel) rfl, zk_b1 10 (by decide +kernel) rfl, zk_b12 198 (by decide +kernel) rfl, by decide +kernel, by decide +kernel, by decide +kernel⟩, zk_b12 200 (by decide +kernel) rfl, zk_s10 (q := (yX1_lineNow, 20)) 4 (by decide +kernel)⟩
theorem zl_X1_81 : zm_L zk_E RX1 81 yX1_goOnSaying (.code yX1_goOnSaying cX1_goOnSaying 5 none) 2 ∧ Cond.instanceMethod yX1_goOnSaying ∈ zk_E.2.2.1 ∧ Cond.selects yX1_goOnSaying.cls yX1_goOnSaying yX1_goOnSaying ∈ zk_E.2.2.1 := ⟨⟨zk_b12 213 (by decide +kernel) rfl, zk_b1 10 (by decide +kernel) rfl, zk_b12 210 (by decide +kernel) rfl, by decide +kernel, by decide +kernel, by decide +kernel⟩, zk_b12 212 (by decide +kernel) rfl, zk_s10 (q := (yX1_goOnSaying, 20)) 6 (by decide +kernel)⟩
theorem zl_X1_85 : zm_L zk_E RX1 85 yX1_goOnAnswering (.code yX1_goOnAnswering cX1_goOnAnswering 3 none) 1 ∧ Cond.instanceMethod yX1_goOnAnswering ∈ zk_E.2.2.1 ∧ Cond.selects yX1_goOnAnswering.cls yX1_goOnAnswering yX1_goOnAnswering ∈ zk_E.2.2.1 := ⟨⟨zk_b12 217 (by decide +kernel) rfl, zk_b1 10 (by decide +kernel) rfl, zk_b12 214 (by decide +kernel) rfl, by decide +kernel, by decide +kernel, by decide +kernel⟩, zk_b12 216 (by decide +kernel) rfl, zk_s10 (q := (yX1_goOnAnswering, 20)) 7 (by decide +kernel)⟩
theorem zl_X1_88 : zm_L zk_E RX1 88 yX1_hear (.code yX1_hear cX1_hear 2 none) 1 ∧ Cond.instanceMethod yX1_hear ∈ zk_E.2.2.1 ∧ Cond.selects yX1_hear.cls yX1_hear yX1_hear ∈ zk_E.2.2.1 := ⟨⟨zk_b12 221 (by decide +kernel) rfl, zk_b1 10 (by decide +kernel) rfl, zk_b12 218 (by decide +kernel) rfl, by decide +kernel, by decide +kernel, by decide +kernel⟩, zk_b12 220 (by decide +kernel) rfl, zk_s10 (q := (yX1_hear, 20)) 8 (by decide +kernel)⟩
theorem zl_X1_91 : zm_L zk_E RX1 91 yX1_endWaiting (.code yX1_endWaiting cX1_endWaiting 3 none) 1 ∧ Cond.instanceMethod yX1_endWaiting ∈ zk_E.2.2.1 ∧ Cond.selects yX1_endWaiting.cls yX1_endWaiting yX1_endWaiting ∈ zk_E.2.2.1 := ⟨⟨zk_b13 6 (by decide +kernel) rfl, zk_b1 10 (by decide +kernel) rfl, zk_b13 3 (by decide +kernel) rfl, by decide +kernel, by decide +kernel, by decide +kernel⟩, zk_b13 5 (by decide +kernel) rfl, zk_s10 (q := (yX1_endWaiting, 20)) 14 (by decide +kernel)⟩
theorem zl_X1_70 : zm_L zk_E RX1 70 yX1_beginAnswers (.code yX1_beginAnswers cX1_beginAnswers 5 none) 0 ∧ Cond.instanceMethod yX1_beginAnswers ∈ zk_E.2.2.1 ∧ Cond.selects yX1_beginAnswers.cls yX1_beginAnswers yX1_beginAnswers ∈ zk_E.2.2.1 := ⟨⟨zk_b12 178 (by decide +kernel) rfl, zk_b1 10 (by decide +kernel) rfl, zk_b12 175 (by decide +kernel) rfl, by decide +kernel, by decide +kernel, by decide +kernel⟩, zk_b12 177 (by decide +kernel) rfl, zk_s9 (q := (yX1_beginAnswers, 20)) 15 (by decide +kernel)⟩
theorem zl_X2_5 : Cond.methodLink RX2 5 Lib.objectInit ∈ zk_E.2.2.1 ∧ Cond.instanceMethod Lib.objectInit ∈ zk_E.2.2.1 ∧ Cond.code Lib.objectInit ⟨#[0xb1]⟩ 1 none ∈ zk_E.2.2.1 := ⟨zk_b1 81 (by decide +kernel) rfl, zk_b1 43 (by decide +kernel) rfl, zk_b1 44 (by decide +kernel) rfl⟩
theorem zl_X2_11 : Cond.classLink RX2 11 "[[I" ∈ zk_E.2.2.1 := zk_b1 82 (by decide +kernel) rfl
theorem zl_X2_13 : zm_F zk_E RX2 13 2 4 := ⟨RX2, TX2, 19, rfl, zk_i2, by decide, zk_b1 91 (by decide +kernel) rfl⟩
theorem zt_2_4 : zm_T zk_E RX2 2 4 (.array (.array .int)) true := ⟨RX2, TX2, 19, tyX2, rfl, tyX2_ok, nmX2, rfl, rfl, rfl⟩
theorem zt_2_5 : zm_T zk_E RX2 2 5 (.array .boolean) true := ⟨RX2, TX2, 19, tyX2, rfl, tyX2_ok, nmX2, rfl, rfl, rfl⟩
theorem zt_2_6 : zm_T zk_E RX2 2 6 (.array .int) false := ⟨RX2, TX2, 19, tyX2, rfl, tyX2_ok, nmX2, rfl, rfl, rfl⟩
theorem zl_X2_24 : zm_F zk_E RX2 24 2 7 := ⟨RX2, TX2, 19, rfl, zk_i2, by decide, zk_b1 95 (by decide +kernel) rfl⟩
theorem zt_2_7 : zm_T zk_E RX2 2 7 (.array .int) false := ⟨RX2, TX2, 19, tyX2, rfl, tyX2_ok, nmX2, rfl, rfl, rfl⟩
theorem zl_X2_27 : zm_F zk_E RX2 27 2 8 := ⟨RX2, TX2, 19, rfl, zk_i2, by decide, zk_b1 96 (by decide +kernel) rfl⟩
theorem zt_2_8 : zm_T zk_E RX2 2 8 (.array .int) false := ⟨RX2, TX2, 19, tyX2, rfl, tyX2_ok, nmX2, rfl, rfl, rfl⟩
theorem zl_X2_30 : zm_F zk_E RX2 30 2 9 := ⟨RX2, TX2, 19, rfl, zk_i2, by decide, zk_b1 99 (by decide +kernel) rfl⟩
theorem zt_2_9 : zm_T zk_E RX2 2 9 (.array .int) false := ⟨RX2, TX2, 19, tyX2, rfl, tyX2_ok, nmX2, rfl, rfl, rfl⟩
theorem zl_X2_33 : zm_F zk_E RX2 33 2 10 := ⟨RX2, TX2, 19, rfl, zk_i2, by decide, zk_b1 100 (by decide +kernel) rfl⟩
theorem zt_2_10 : zm_T zk_E RX2 2 10 (.array .int) true := ⟨RX2, TX2, 19, tyX2, rfl, tyX2_ok, nmX2, rfl, rfl, rfl⟩
theorem zl_X2_36 : zm_F zk_E RX2 36 2 11 := ⟨RX2, TX2, 19, rfl, zk_i2, by decide, zk_b1 101 (by decide +kernel) rfl⟩
theorem zt_2_11 : zm_T zk_E RX2 2 11 (.array .int) true := ⟨RX2, TX2, 19, tyX2, rfl, tyX2_ok, nmX2, rfl, rfl, rfl⟩
theorem zl_X2_39 : zm_F zk_E RX2 39 2 13 := ⟨RX2, TX2, 19, rfl, zk_i2, by decide, zk_b1 103 (by decide +kernel) rfl⟩
theorem zt_2_13 : zm_T zk_E RX2 2 13 (.array (.array .int)) true := ⟨RX2, TX2, 19, tyX2, rfl, tyX2_ok, nmX2, rfl, rfl, rfl⟩
theorem zl_X2_42 : zm_F zk_E RX2 42 2 15 := ⟨RX2, TX2, 19, rfl, zk_i2, by decide, zk_b1 105 (by decide +kernel) rfl⟩
theorem zt_2_15 : zm_T zk_E RX2 2 15 (.array (.array .int)) true := ⟨RX2, TX2, 19, tyX2, rfl, tyX2_ok, nmX2, rfl, rfl, rfl⟩
theorem zl_X2_45 : zm_F zk_E RX2 45 2 16 := ⟨RX2, TX2, 19, rfl, zk_i2, by decide, zk_b1 106 (by decide +kernel) rfl⟩
theorem zt_2_16 : zm_T zk_E RX2 2 16 (.array .boolean) true := ⟨RX2, TX2, 19, tyX2, rfl, tyX2_ok, nmX2, rfl, rfl, rfl⟩
theorem zl_X2_48 : zm_F zk_E RX2 48 2 17 := ⟨RX2, TX2, 19, rfl, zk_i2, by decide, zk_b1 107 (by decide +kernel) rfl⟩
theorem zt_2_17 : zm_T zk_E RX2 2 17 (.array .int) true := ⟨RX2, TX2, 19, tyX2, rfl, tyX2_ok, nmX2, rfl, rfl, rfl⟩
theorem zl_X2_51 : zm_F zk_E RX2 51 2 18 := ⟨RX2, TX2, 19, rfl, zk_i2, by decide, zk_b1 108 (by decide +kernel) rfl⟩
theorem zt_2_18 : zm_T zk_E RX2 2 18 (.array .int) true := ⟨RX2, TX2, 19, tyX2, rfl, tyX2_ok, nmX2, rfl, rfl, rfl⟩
theorem zt_2_0 : zm_T zk_E RX2 2 0 (.object "TowerHouse$Plan") true := ⟨RX2, TX2, 19, tyX2, rfl, tyX2_ok, nmX2, rfl, rfl, rfl⟩
theorem zl_X2_88 : zm_L zk_E RX2 88 yJ7_fill_53178 (.code yJ7_fill_53178 cJ7_fill_53178 4 none) 2 ∧ Cond.static yJ7_fill_53178 ∈ zk_E.2.2.1 := ⟨⟨zk_b5 43 (by decide +kernel) rfl, zk_b1 26 (by decide +kernel) rfl, zk_b5 41 (by decide +kernel) rfl, by decide +kernel, by decide +kernel, by decide +kernel⟩, zk_b5 42 (by decide +kernel) rfl⟩
theorem zl_X2_94 : zm_FN zk_E RX2 94 8 0 := ⟨RX8, TX8, 4, "TowerHouse", rfl, zk_i8, by decide, zk_n1 56 (by decide +kernel) rfl⟩
theorem zl_X2_106 : zm_L zk_E RX2 106 yX8_lengthOf (.code yX8_lengthOf cX8_lengthOf 3 (some .int)) 1 ∧ Cond.instanceMethod yX8_lengthOf ∈ zk_E.2.2.1 ∧ Cond.selects yX8_lengthOf.cls yX8_lengthOf yX8_lengthOf ∈ zk_E.2.2.1 := ⟨⟨zk_b5 17 (by decide +kernel) rfl, zk_b1 2 (by decide +kernel) rfl, zk_b5 48 (by decide +kernel) rfl, by decide +kernel, by decide +kernel, by decide +kernel⟩, zk_b5 15 (by decide +kernel) rfl, zk_b5 16 (by decide +kernel) rfl⟩
theorem zl_X2_110 : zm_L zk_E RX2 110 yX2_wallFrom (.code yX2_wallFrom cX2_wallFrom 4 (some .int)) 3 ∧ Cond.instanceMethod yX2_wallFrom ∈ zk_E.2.2.1 ∧ Cond.selects yX2_wallFrom.cls yX2_wallFrom yX2_wallFrom ∈ zk_E.2.2.1 := ⟨⟨zk_b5 56 (by decide +kernel) rfl, zk_b1 3 (by decide +kernel) rfl, zk_b5 53 (by decide +kernel) rfl, by decide +kernel, by decide +kernel, by decide +kernel⟩, zk_b5 55 (by decide +kernel) rfl, zk_s2 (q := (yX2_wallFrom, 19)) 3 (by decide +kernel)⟩
theorem zl_X2_130 : zm_L zk_E RX2 130 yX2_placeBeside (.code yX2_placeBeside cX2_placeBeside 4 (some .int)) 2 ∧ Cond.instanceMethod yX2_placeBeside ∈ zk_E.2.2.1 ∧ Cond.selects yX2_placeBeside.cls yX2_placeBeside yX2_placeBeside ∈ zk_E.2.2.1 := ⟨⟨zk_b5 75 (by decide +kernel) rfl, zk_b1 3 (by decide +kernel) rfl, zk_b5 72 (by decide +kernel) rfl, by decide +kernel, by decide +kernel, by decide +kernel⟩, zk_b5 74 (by decide +kernel) rfl, zk_s2 (q := (yX2_placeBeside, 19)) 6 (by decide +kernel)⟩
theorem zl_X2_127 : zm_L zk_E RX2 127 yX2_cellBeside (.code yX2_cellBeside cX2_cellBeside 5 (some .int)) 2 ∧ Cond.instanceMethod yX2_cellBeside ∈ zk_E.2.2.1 ∧ Cond.selects yX2_cellBeside.cls yX2_cellBeside yX2_cellBeside ∈ zk_E.2.2.1 := ⟨⟨zk_b5 83 (by decide +kernel) rfl, zk_b1 3 (by decide +kernel) rfl, zk_b5 80 (by decide +kernel) rfl, by decide +kernel, by decide +kernel, by decide +kernel⟩, zk_b5 81 (by decide +kernel) rfl, zk_b5 82 (by decide +kernel) rfl⟩
theorem zl_X2_124 : zm_L zk_E RX2 124 yX2_wallBeside (.code yX2_wallBeside cX2_wallBeside 4 (some .int)) 2 ∧ Cond.instanceMethod yX2_wallBeside ∈ zk_E.2.2.1 ∧ Cond.selects yX2_wallBeside.cls yX2_wallBeside yX2_wallBeside ∈ zk_E.2.2.1 := ⟨⟨zk_b5 71 (by decide +kernel) rfl, zk_b1 3 (by decide +kernel) rfl, zk_b5 68 (by decide +kernel) rfl, by decide +kernel, by decide +kernel, by decide +kernel⟩, zk_b5 69 (by decide +kernel) rfl, zk_b5 70 (by decide +kernel) rfl⟩
theorem zl_X2_122 : zm_L zk_E RX2 122 yX2_fill (.code yX2_fill cX2_fill 8 (some .int)) 2 ∧ Cond.instanceMethod yX2_fill ∈ zk_E.2.2.1 ∧ Cond.selects yX2_fill.cls yX2_fill yX2_fill ∈ zk_E.2.2.1 := ⟨⟨zk_b5 79 (by decide +kernel) rfl, zk_b1 3 (by decide +kernel) rfl, zk_b5 76 (by decide +kernel) rfl, by decide +kernel, by decide +kernel, by decide +kernel⟩, zk_b5 78 (by decide +kernel) rfl, zk_s2 (q := (yX2_fill, 19)) 7 (by decide +kernel)⟩
theorem zl_X2_114 : zm_L zk_E RX2 114 yX2_cellNumber (.code yX2_cellNumber cX2_cellNumber 2 (some .int)) 2 ∧ Cond.static yX2_cellNumber ∈ zk_E.2.2.1 := ⟨⟨zk_b5 63 (by decide +kernel) rfl, zk_b1 3 (by decide +kernel) rfl, zk_b5 61 (by decide +kernel) rfl, by decide +kernel, by decide +kernel, by decide +kernel⟩, zk_b5 62 (by decide +kernel) rfl⟩
theorem zl_X2_118 : zm_L zk_E RX2 118 yX2_fillFromEdge (.code yX2_fillFromEdge cX2_fillFromEdge 3 none) 2 ∧ Cond.instanceMethod yX2_fillFromEdge ∈ zk_E.2.2.1 ∧ Cond.selects yX2_fillFromEdge.cls yX2_fillFromEdge yX2_fillFromEdge ∈ zk_E.2.2.1 := ⟨⟨zk_b5 67 (by decide +kernel) rfl, zk_b1 3 (by decide +kernel) rfl, zk_b5 64 (by decide +kernel) rfl, by decide +kernel, by decide +kernel, by decide +kernel⟩, zk_b5 66 (by decide +kernel) rfl, zk_s2 (q := (yX2_fillFromEdge, 19)) 5 (by decide +kernel)⟩
theorem zl_X2_58 : zm_F zk_E RX2 58 2 3 := ⟨RX2, TX2, 19, rfl, zk_i2, by decide, zk_b1 89 (by decide +kernel) rfl⟩
theorem zt_2_3 : zm_T zk_E RX2 2 3 .int false := ⟨RX2, TX2, 19, tyX2, rfl, tyX2_ok, nmX2, rfl, rfl, rfl⟩
theorem zl_X2_158 : Cond.fieldLink RX2 158 "TowerHouse$Finding" "SIDE_X" "[I" ∈ zk_E.2.2.1 := zk_b5 104 (by decide +kernel) rfl
theorem zl_X2_161 : Cond.fieldLink RX2 161 "TowerHouse$Finding" "SIDE_Y" "[I" ∈ zk_E.2.2.1 := zk_b5 106 (by decide +kernel) rfl
theorem zl_X2_142 : zm_F zk_E RX2 142 2 14 := ⟨RX2, TX2, 19, rfl, zk_i2, by decide, zk_b1 104 (by decide +kernel) rfl⟩
theorem zl_X2_167 : zm_L zk_E RX2 167 yX2_rightOf (.code yX2_rightOf cX2_rightOf 4 (some .int)) 3 ∧ Cond.instanceMethod yX2_rightOf ∈ zk_E.2.2.1 ∧ Cond.selects yX2_rightOf.cls yX2_rightOf yX2_rightOf ∈ zk_E.2.2.1 := ⟨⟨zk_b5 115 (by decide +kernel) rfl, zk_b1 3 (by decide +kernel) rfl, zk_b5 112 (by decide +kernel) rfl, by decide +kernel, by decide +kernel, by decide +kernel⟩, zk_b5 114 (by decide +kernel) rfl, zk_s2 (q := (yX2_rightOf, 19)) 13 (by decide +kernel)⟩
theorem zt_2_14 : zm_T zk_E RX2 2 14 .int false := ⟨RX2, TX2, 19, tyX2, rfl, tyX2_ok, nmX2, rfl, rfl, rfl⟩
theorem zl_X2_170 : Cond.fieldLink RX2 170 "TowerHouse$Finding" "TURNS" "[I" ∈ zk_E.2.2.1 := zk_b5 120 (by decide +kernel) rfl
set_option maxHeartbeats 4000000 in
set_option maxRecDepth 100000 in
theorem zt_X1_beginCharacter {l : Launch} {V : zm_V} {N : Nat} {S : zm_S} {out : (Unit × zm_S)} {d : Nat} {a0 : Nat} (hd : 1 ≤ d) (h : zf_X1_beginCharacter N a0 S = some out) : zm_Met l zk_E V yX1_beginCharacter (.code yX1_beginCharacter cX1_beginCharacter 1 none) d [.ref a0] S 0 0 (zo_v out) zo_x := by
  refine zm_of (by decide +kernel) (Nat.le_of_ble_eq_true rfl) ?_
  intro p e R s m args below meth c hRR hX hr hxt
  have hR : R.frames = d ∧ R.locals = 64 * d := by rw [hRR]; exact ⟨rfl, rfl⟩
  have hX : zm_X p R s m args meth c RX1 "beginCharacter" cX1_beginCharacter 1 zk_E V 0 0 := hX
  unfold zf_X1_beginCharacter at h
  refine zw_sub (lv' := [(0, .ref a0)]) (List.forall_mem_cons.mpr ⟨rfl, zs_nil⟩) ?_
  refine zw_aload_n hX dX1_beginCharacter_0 rfl ?_
  refine zw_iconst (v := (0 : Int32)) hX dX1_beginCharacter_1 (by decide) ?_
  obtain ⟨S1, g, h⟩ := zb_some h
  refine zw_putv hX zl_X1_136 zt_1_10 dX1_beginCharacter_2 rfl rfl g ?_
  refine zw_aload_n hX dX1_beginCharacter_5 rfl ?_
  refine zw_iconst (v := (1 : Int32)) hX dX1_beginCharacter_6 (by decide) ?_
  obtain ⟨S2, g, h⟩ := zb_some h
  refine zw_putv hX zl_X1_33 zt_1_9 dX1_beginCharacter_7 rfl rfl g ?_
  obtain rfl := Option.some.inj h
  exact zw_vret hX hr dX1_beginCharacter_10 ⟨rfl, rfl⟩
set_option maxHeartbeats 4000000 in
set_option maxRecDepth 100000 in
theorem zt_X1_beginHearing {l : Launch} {V : zm_V} {N : Nat} {S : zm_S} {out : (Unit × zm_S)} {d : Nat} {a0 : Nat} (hd : 2 ≤ d) (h : zf_X1_beginHearing N a0 S = some out) : zm_Met l zk_E V yX1_beginHearing (.code yX1_beginHearing cX1_beginHearing 1 none) d [.ref a0] S 0 0 (zo_v out) zo_x := by
  refine zm_of (by decide +kernel) (Nat.le_of_ble_eq_true rfl) ?_
  intro p e R s m args below meth c hRR hX hr hxt
  have hR : R.frames = d ∧ R.locals = 64 * d := by rw [hRR]; exact ⟨rfl, rfl⟩
  have hX : zm_X p R s m args meth c RX1 "beginHearing" cX1_beginHearing 1 zk_E V 0 0 := hX
  unfold zf_X1_beginHearing at h
  refine zw_sub (lv' := [(0, .ref a0)]) (List.forall_mem_cons.mpr ⟨rfl, zs_nil⟩) ?_
  refine zw_aload_n hX dX1_beginHearing_0 rfl ?_
  refine zw_iconst (v := (0 : Int32)) hX dX1_beginHearing_1 (by decide) ?_
  obtain ⟨S1, g, h⟩ := zb_some h
  refine zw_putv hX zl_X1_148 zt_1_13 dX1_beginHearing_2 rfl rfl g ?_
  refine zw_aload_n hX dX1_beginHearing_5 rfl ?_
  refine zw_iconst (v := (0 : Int32)) hX dX1_beginHearing_6 (by decide) ?_
  obtain ⟨S2, g, h⟩ := zb_some h
  refine zw_putv hX zl_X1_151 zt_1_11 dX1_beginHearing_7 rfl (by decide) g ?_
  refine zw_aload_n hX dX1_beginHearing_10 rfl ?_
  obtain ⟨_, gi, h⟩ := zb_some h
  obtain ⟨r4, g, h⟩ := zb_some h
  refine zc_Vv (as := []) hX gi (zt_X1_beginCharacter (d := d - 1) (by omega) g) zl_X1_145 rfl dX1_beginHearing_11 ⟨rfl, rfl, Nat.le_of_ble_eq_true rfl⟩ ⟨by omega, by omega⟩ ?_
  obtain rfl := Option.some.inj h
  exact zw_vret hX hr dX1_beginHearing_14 ⟨rfl, rfl⟩
set_option maxHeartbeats 4000000 in
set_option maxRecDepth 100000 in
theorem zt_X1_takeCharacter_J56 {p : Program} {l : Launch} {e : Env} {R : Room} {s : State} {m : MethodId} {args : Array Value} {below : List Frame} {meth : Method} {c : Code} {V : zm_V} {mc ms d rc rs : Nat} (hX : zm_X p R s m args meth c RX1 "takeCharacter" cX1_takeCharacter 2 zk_E V mc ms) (hr : meth.sig.returnType = none) (hR : R.frames = d ∧ R.locals = 64 * d) (hd : 2 ≤ d) {N : Nat} {a0 : Nat} {i1 : Int32} {out : (Unit × zm_S)} {S : zm_S} (h : zf_X1_takeCharacter_J56 N a0 i1 S = some out) : zw p l e R s m args below meth c (vx_MQ below (zm_Qc zk_E V (zo_v out)) (zm_XC zk_E V zo_x) args s mc ms (fun q => V.2.2.2.1 ≤ q)) 2 zk_E V mc ms 56 [(0, .ref a0), (1, .int i1)] [] S rc rs := by
  unfold zf_X1_takeCharacter_J56 at h
  refine zw_aload_n hX dX1_takeCharacter_56 rfl ?_
  obtain ⟨v6, g, h⟩ := zb_some h
  refine zw_geti hX zl_X1_148 dX1_takeCharacter_57 g ?_
  refine zw_sipush (v := (600 : Int32)) hX dX1_takeCharacter_60 (by decide) ?_
  refine zw_icmp_ge (tgt := 86) hX dX1_takeCharacter_63 (by decide) (fun c63 => ?_) (fun c63 => ?_)
  · rw [if_pos c63] at h
    obtain rfl := Option.some.inj h
    exact zw_vret hX hr dX1_takeCharacter_86 ⟨rfl, rfl⟩
  · rw [if_neg c63] at h
    refine zw_aload_n hX dX1_takeCharacter_66 rfl ?_
    obtain ⟨b7, g, h⟩ := zb_some h
    refine zw_getr hX zl_X1_36 dX1_takeCharacter_67 g ?_
    refine zw_aload_n hX dX1_takeCharacter_70 rfl ?_
    obtain ⟨v8, g, h⟩ := zb_some h
    refine zw_geti hX zl_X1_148 dX1_takeCharacter_71 g ?_
    refine zw_iload_n hX dX1_takeCharacter_74 rfl ?_
    obtain ⟨S9, g, h⟩ := zb_some h
    refine zw_si hX dX1_takeCharacter_75 g ?_
    refine zw_aload_n hX dX1_takeCharacter_76 rfl ?_
    refine zw_dup hX dX1_takeCharacter_77 rfl ?_
    obtain ⟨v10, g, h⟩ := zb_some h
    refine zw_geti hX zl_X1_148 dX1_takeCharacter_78 g ?_
    refine zw_iconst (v := (1 : Int32)) hX dX1_takeCharacter_81 (by decide) ?_
    refine zw_iadd hX dX1_takeCharacter_82 ?_
    obtain ⟨S11, g, h⟩ := zb_some h
    refine zw_putv hX zl_X1_148 zt_1_13 dX1_takeCharacter_83 rfl rfl g ?_
    obtain rfl := Option.some.inj h
    exact zw_vret hX hr dX1_takeCharacter_86 ⟨rfl, rfl⟩
set_option maxHeartbeats 4000000 in
set_option maxRecDepth 100000 in
theorem zt_X1_takeCharacter_J51 {p : Program} {l : Launch} {e : Env} {R : Room} {s : State} {m : MethodId} {args : Array Value} {below : List Frame} {meth : Method} {c : Code} {V : zm_V} {mc ms d rc rs : Nat} (hX : zm_X p R s m args meth c RX1 "takeCharacter" cX1_takeCharacter 2 zk_E V mc ms) (hr : meth.sig.returnType = none) (hR : R.frames = d ∧ R.locals = 64 * d) (hd : 2 ≤ d) {N : Nat} {a0 : Nat} {i1 : Int32} {out : (Unit × zm_S)} {S : zm_S} (h : zf_X1_takeCharacter_J51 N a0 i1 S = some out) : zw p l e R s m args below meth c (vx_MQ below (zm_Qc zk_E V (zo_v out)) (zm_XC zk_E V zo_x) args s mc ms (fun q => V.2.2.2.1 ≤ q)) 2 zk_E V mc ms 51 [(0, .ref a0), (1, .int i1)] [] S rc rs := by
  unfold zf_X1_takeCharacter_J51 at h
  refine zw_aload_n hX dX1_takeCharacter_51 rfl ?_
  refine zw_iconst (v := (1 : Int32)) hX dX1_takeCharacter_52 (by decide) ?_
  obtain ⟨S5, g, h⟩ := zb_some h
  refine zw_putv hX zl_X1_151 zt_1_11 dX1_takeCharacter_53 rfl (by decide) g ?_
  refine zw_sub (lv' := [(0, .ref a0), (1, .int i1)]) (List.forall_mem_cons.mpr ⟨rfl, (List.forall_mem_cons.mpr ⟨rfl, zs_nil⟩)⟩) ?_
  exact zt_X1_takeCharacter_J56 hX hr hR hd h
set_option maxHeartbeats 4000000 in
set_option maxRecDepth 100000 in
theorem zt_X1_takeCharacter {l : Launch} {V : zm_V} {N : Nat} {S : zm_S} {out : (Unit × zm_S)} {d : Nat} {a0 : Nat} (hd : 2 ≤ d) (h : zf_X1_takeCharacter N a0 S = some out) : zm_Met l zk_E V yX1_takeCharacter (.code yX1_takeCharacter cX1_takeCharacter 2 none) d [.ref a0] S 0 0 (zo_v out) zo_x := by
  refine zm_of (by decide +kernel) (Nat.le_of_ble_eq_true rfl) ?_
  intro p e R s m args below meth c hRR hX hr hxt
  have hR : R.frames = d ∧ R.locals = 64 * d := by rw [hRR]; exact ⟨rfl, rfl⟩
  have hX : zm_X p R s m args meth c RX1 "takeCharacter" cX1_takeCharacter 2 zk_E V 0 0 := hX
  unfold zf_X1_takeCharacter at h
  refine zw_sub (lv' := [(0, .ref a0)]) (List.forall_mem_cons.mpr ⟨rfl, zs_nil⟩) ?_
  refine zw_aload_n hX dX1_takeCharacter_0 rfl ?_
  obtain ⟨v1, g, h⟩ := zb_some h
  refine zw_geti hX zl_X1_136 dX1_takeCharacter_1 g ?_
  refine zw_iconst (v := (1 : Int32)) hX dX1_takeCharacter_4 (by decide) ?_
  refine zw_ishr hX dX1_takeCharacter_5 ?_
  refine zw_sipush (v := (255 : Int32)) hX dX1_takeCharacter_6 (by decide) ?_
  refine zw_iand hX dX1_takeCharacter_9 ?_
  refine zw_istore_n hX dX1_takeCharacter_10 (by decide) ?_
  refine zw_aload_n hX dX1_takeCharacter_11 rfl ?_
  obtain ⟨v2, g, h⟩ := zb_some h
  refine zw_geti hX zl_X1_136 dX1_takeCharacter_12 g ?_
  refine zw_bipush (v := (9 : Int32)) hX dX1_takeCharacter_15 (by decide) ?_
  refine zw_ishr hX dX1_takeCharacter_17 ?_
  refine zw_iconst (v := (1 : Int32)) hX dX1_takeCharacter_18 (by decide) ?_
  refine zw_iand hX dX1_takeCharacter_19 ?_
  refine zw_iload_n hX dX1_takeCharacter_20 rfl ?_
  obtain ⟨r4, g, h⟩ := zb_some h
  refine zc_Si (as := [.int ((v1 >>> ((1 : Int32) &&& 31)) &&& (255 : Int32))]) hX (zt_J6_bitCount_0f7a4 (d := d - 1) (by omega) g) zl_X1_119 dX1_takeCharacter_21 ⟨rfl, rfl, Nat.le_of_ble_eq_true rfl⟩ ⟨by omega, by omega⟩ ?_
  refine zw_iconst (v := (1 : Int32)) hX dX1_takeCharacter_24 (by decide) ?_
  refine zw_iand hX dX1_takeCharacter_25 ?_
  refine zw_icmp_ne (tgt := 51) hX dX1_takeCharacter_26 (by decide) (fun c26 => ?_) (fun c26 => ?_)
  · rw [if_neg c26] at h
    refine zw_sub (lv' := [(0, .ref a0), (1, .int ((v1 >>> ((1 : Int32) &&& 31)) &&& (255 : Int32)))]) (List.forall_mem_cons.mpr ⟨rfl, (List.forall_mem_cons.mpr ⟨rfl, zs_nil⟩)⟩) ?_
    exact zt_X1_takeCharacter_J51 hX hr hR hd h
  · rw [if_pos c26] at h
    refine zw_aload_n hX dX1_takeCharacter_29 rfl ?_
    obtain ⟨v12, g, h⟩ := zb_some h
    refine zw_geti hX zl_X1_136 dX1_takeCharacter_30 g ?_
    refine zw_bipush (v := (10 : Int32)) hX dX1_takeCharacter_33 (by decide) ?_
    refine zw_ishr hX dX1_takeCharacter_35 ?_
    refine zw_iconst (v := (1 : Int32)) hX dX1_takeCharacter_36 (by decide) ?_
    refine zw_iand hX dX1_takeCharacter_37 ?_
    refine zw_if_eq (tgt := 51) hX dX1_takeCharacter_38 (by decide) (fun c38 => ?_) (fun c38 => ?_)
    · rw [if_pos c38] at h
      refine zw_sub (lv' := [(0, .ref a0), (1, .int ((v1 >>> ((1 : Int32) &&& 31)) &&& (255 : Int32)))]) (List.forall_mem_cons.mpr ⟨rfl, (List.forall_mem_cons.mpr ⟨rfl, zs_nil⟩)⟩) ?_
      exact zt_X1_takeCharacter_J51 hX hr hR hd h
    · rw [if_neg c38] at h
      refine zw_aload_n hX dX1_takeCharacter_41 rfl ?_
      obtain ⟨v13, g, h⟩ := zb_some h
      refine zw_geti hX zl_X1_148 dX1_takeCharacter_42 g ?_
      refine zw_sipush (v := (600 : Int32)) hX dX1_takeCharacter_45 (by decide) ?_
      refine zw_icmp_lt (tgt := 56) hX dX1_takeCharacter_48 (by decide) (fun c48 => ?_) (fun c48 => ?_)
      · rw [if_pos c48] at h
        refine zw_sub (lv' := [(0, .ref a0), (1, .int ((v1 >>> ((1 : Int32) &&& 31)) &&& (255 : Int32)))]) (List.forall_mem_cons.mpr ⟨rfl, (List.forall_mem_cons.mpr ⟨rfl, zs_nil⟩)⟩) ?_
        exact zt_X1_takeCharacter_J56 hX hr hR hd h
      · rw [if_neg c48] at h
        refine zw_sub (lv' := [(0, .ref a0), (1, .int ((v1 >>> ((1 : Int32) &&& 31)) &&& (255 : Int32)))]) (List.forall_mem_cons.mpr ⟨rfl, (List.forall_mem_cons.mpr ⟨rfl, zs_nil⟩)⟩) ?_
        exact zt_X1_takeCharacter_J51 hX hr hR hd h
set_option maxHeartbeats 4000000 in
set_option maxRecDepth 100000 in
theorem zt_X1_takeTelegram {l : Launch} {V : zm_V} {N : Nat} {S : zm_S} {out : (Unit × zm_S)} {d : Nat} {a0 : Nat} {i1 : Int32} (hd : 2 ≤ d) (h : zf_X1_takeTelegram N a0 i1 S = some out) : zm_Met l zk_E V yX1_takeTelegram (.code yX1_takeTelegram cX1_takeTelegram 3 none) d [.ref a0, .int i1] S 0 0 (zo_v out) zo_x := by
  refine zm_of (by decide +kernel) (Nat.le_of_ble_eq_true rfl) ?_
  intro p e R s m args below meth c hRR hX hr hxt
  have hR : R.frames = d ∧ R.locals = 64 * d := by rw [hRR]; exact ⟨rfl, rfl⟩
  have hX : zm_X p R s m args meth c RX1 "takeTelegram" cX1_takeTelegram 3 zk_E V 0 0 := hX
  unfold zf_X1_takeTelegram at h
  refine zw_sub (lv' := [(0, .ref a0), (1, .int i1)]) (List.forall_mem_cons.mpr ⟨rfl, (List.forall_mem_cons.mpr ⟨rfl, zs_nil⟩)⟩) ?_
  refine zw_aload_n hX dX1_takeTelegram_0 rfl ?_
  obtain ⟨b1, g, h⟩ := zb_some h
  refine zw_getr hX zl_X1_36 dX1_takeTelegram_1 g ?_
  refine zw_iconst (v := (0 : Int32)) hX dX1_takeTelegram_4 (by decide) ?_
  refine zw_aload_n hX dX1_takeTelegram_5 rfl ?_
  obtain ⟨b2, g, h⟩ := zb_some h
  refine zw_getr hX zl_X1_40 dX1_takeTelegram_6 g ?_
  refine zw_iconst (v := (0 : Int32)) hX dX1_takeTelegram_9 (by decide) ?_
  refine zw_aload_n hX dX1_takeTelegram_10 rfl ?_
  obtain ⟨v3, g, h⟩ := zb_some h
  refine zw_geti hX zl_X1_148 dX1_takeTelegram_11 g ?_
  obtain ⟨S4, g, h⟩ := zb_some h
  refine zw_cp hX zl_X1_127 dX1_takeTelegram_14 (Nat.le_of_ble_eq_true rfl) ⟨by omega, by omega⟩ g ?_
  refine zw_aload_n hX dX1_takeTelegram_17 rfl ?_
  refine zw_aload_n hX dX1_takeTelegram_18 rfl ?_
  obtain ⟨v5, g, h⟩ := zb_some h
  refine zw_geti hX zl_X1_148 dX1_takeTelegram_19 g ?_
  obtain ⟨S6, g, h⟩ := zb_some h
  refine zw_putv hX zl_X1_104 zt_1_15 dX1_takeTelegram_22 rfl rfl g ?_
  refine zw_aload_n hX dX1_takeTelegram_25 rfl ?_
  refine zw_iload_n hX dX1_takeTelegram_26 rfl ?_
  obtain ⟨S7, g, h⟩ := zb_some h
  refine zw_putv hX zl_X1_43 zt_1_16 dX1_takeTelegram_27 rfl rfl g ?_
  refine zw_aload_n hX dX1_takeTelegram_30 rfl ?_
  refine zw_iconst (v := (1 : Int32)) hX dX1_takeTelegram_31 (by decide) ?_
  obtain ⟨S8, g, h⟩ := zb_some h
  refine zw_putv hX zl_X1_66 zt_1_17 dX1_takeTelegram_32 rfl (by decide) g ?_
  refine zw_aload_n hX dX1_takeTelegram_35 rfl ?_
  refine zw_iconst (v := (-1 : Int32)) hX dX1_takeTelegram_36 (by decide) ?_
  obtain ⟨S9, g, h⟩ := zb_some h
  refine zw_putv hX zl_X1_46 zt_1_18 dX1_takeTelegram_37 rfl rfl g ?_
  refine zw_aload_n hX dX1_takeTelegram_40 rfl ?_
  obtain ⟨b10, g, h⟩ := zb_some h
  refine zw_getr hX zl_X1_49 dX1_takeTelegram_41 g ?_
  refine zw_iconst (v := (0 : Int32)) hX dX1_takeTelegram_44 (by decide) ?_
  refine zw_dup2 hX dX1_takeTelegram_45 rfl rfl ?_
  obtain ⟨v11, g, h⟩ := zb_some h
  refine zw_xi hX dX1_takeTelegram_46 g ?_
  refine zw_iconst (v := (1 : Int32)) hX dX1_takeTelegram_47 (by decide) ?_
  refine zw_iadd hX dX1_takeTelegram_48 ?_
  obtain ⟨S12, g, h⟩ := zb_some h
  refine zw_si hX dX1_takeTelegram_49 g ?_
  refine zw_aload_n hX dX1_takeTelegram_50 rfl ?_
  obtain ⟨_, gi, h⟩ := zb_some h
  obtain ⟨r14, g, h⟩ := zb_some h
  refine zc_Vi (as := []) hX gi (zt_X1_isLatestRight (d := d - 1) (by omega) g) zl_X1_94 rfl dX1_takeTelegram_51 ⟨rfl, rfl, Nat.le_of_ble_eq_true rfl⟩ ⟨by omega, by omega⟩ ?_
  refine zw_if_eq (tgt := 111) hX dX1_takeTelegram_54 (by decide) (fun c54 => ?_) (fun c54 => ?_)
  · rw [if_pos c54] at h
    obtain rfl := Option.some.inj h
    exact zw_vret hX hr dX1_takeTelegram_111 ⟨rfl, rfl⟩
  · rw [if_neg c54] at h
    refine zw_aload_n hX dX1_takeTelegram_57 rfl ?_
    obtain ⟨b15, g, h⟩ := zb_some h
    refine zw_getr hX zl_X1_49 dX1_takeTelegram_58 g ?_
    refine zw_iconst (v := (1 : Int32)) hX dX1_takeTelegram_61 (by decide) ?_
    refine zw_dup2 hX dX1_takeTelegram_62 rfl rfl ?_
    obtain ⟨v16, g, h⟩ := zb_some h
    refine zw_xi hX dX1_takeTelegram_63 g ?_
    refine zw_iconst (v := (1 : Int32)) hX dX1_takeTelegram_64 (by decide) ?_
    refine zw_iadd hX dX1_takeTelegram_65 ?_
    obtain ⟨S17, g, h⟩ := zb_some h
    refine zw_si hX dX1_takeTelegram_66 g ?_
    refine zw_aload_n hX dX1_takeTelegram_67 rfl ?_
    obtain ⟨_, gi, h⟩ := zb_some h
    obtain ⟨r19, g, h⟩ := zb_some h
    refine zc_Vi (as := []) hX gi (zt_X1_latestAim (d := d - 1) (by omega) g) zl_X1_101 rfl dX1_takeTelegram_68 ⟨rfl, rfl, Nat.le_of_ble_eq_true rfl⟩ ⟨by omega, by omega⟩ ?_
    refine zw_istore_n hX dX1_takeTelegram_71 (by decide) ?_
    refine zw_aload_n hX dX1_takeTelegram_72 rfl ?_
    obtain ⟨b20, g, h⟩ := zb_some h
    refine zw_getr hX zl_X1_40 dX1_takeTelegram_73 g ?_
    refine zw_iconst (v := (5 : Int32)) hX dX1_takeTelegram_76 (by decide) ?_
    obtain ⟨v21, g, h⟩ := zb_some h
    refine zw_xi hX dX1_takeTelegram_77 g ?_
    refine zw_sipush (v := (128 : Int32)) hX dX1_takeTelegram_78 (by decide) ?_
    refine zw_icmp_lt (tgt := 111) hX dX1_takeTelegram_81 (by decide) (fun c81 => ?_) (fun c81 => ?_)
    · rw [if_pos c81] at h
      obtain rfl := Option.some.inj h
      exact zw_vret hX hr dX1_takeTelegram_111 ⟨rfl, rfl⟩
    · rw [if_neg c81] at h
      refine zw_iload_n hX dX1_takeTelegram_84 rfl ?_
      refine zw_iconst (v := (4 : Int32)) hX dX1_takeTelegram_85 (by decide) ?_
      refine zw_icmp_lt (tgt := 111) hX dX1_takeTelegram_86 (by decide) (fun c86 => ?_) (fun c86 => ?_)
      · rw [if_pos c86] at h
        obtain rfl := Option.some.inj h
        exact zw_vret hX hr dX1_takeTelegram_111 ⟨rfl, rfl⟩
      · rw [if_neg c86] at h
        refine zw_iload_n hX dX1_takeTelegram_89 rfl ?_
        refine zw_bipush (v := (10 : Int32)) hX dX1_takeTelegram_90 (by decide) ?_
        refine zw_icmp_ge (tgt := 111) hX dX1_takeTelegram_92 (by decide) (fun c92 => ?_) (fun c92 => ?_)
        · rw [if_pos c92] at h
          obtain rfl := Option.some.inj h
          exact zw_vret hX hr dX1_takeTelegram_111 ⟨rfl, rfl⟩
        · rw [if_neg c92] at h
          refine zw_aload_n hX dX1_takeTelegram_95 rfl ?_
          obtain ⟨b22, g, h⟩ := zb_some h
          refine zw_getr hX zl_X1_52 dX1_takeTelegram_96 g ?_
          obtain ⟨b23, g, h⟩ := zb_some h
          refine zw_getNr hX zl_X1_159 dX1_takeTelegram_99 g ?_
          refine zw_iload_n hX dX1_takeTelegram_102 rfl ?_
          refine zw_aload_n hX dX1_takeTelegram_103 rfl ?_
          obtain ⟨b24, g, h⟩ := zb_some h
          refine zw_getr hX zl_X1_40 dX1_takeTelegram_104 g ?_
          refine zw_bipush (v := (6 : Int32)) hX dX1_takeTelegram_107 (by decide) ?_
          obtain ⟨v25, g, h⟩ := zb_some h
          refine zw_xi hX dX1_takeTelegram_109 g ?_
          obtain ⟨S26, g, h⟩ := zb_some h
          refine zw_si hX dX1_takeTelegram_110 g ?_
          obtain rfl := Option.some.inj h
          exact zw_vret hX hr dX1_takeTelegram_111 ⟨rfl, rfl⟩
set_option maxHeartbeats 4000000 in
set_option maxRecDepth 100000 in
theorem zt_X1_complete_J112 {p : Program} {l : Launch} {e : Env} {R : Room} {s : State} {m : MethodId} {args : Array Value} {below : List Frame} {meth : Method} {c : Code} {V : zm_V} {mc ms d rc rs : Nat} (hX : zm_X p R s m args meth c RX1 "complete" cX1_complete 3 zk_E V mc ms) (hr : meth.sig.returnType = none) (hR : R.frames = d ∧ R.locals = 64 * d) (hd : 3 ≤ d) {N : Nat} {t0 : Nat} {t1 : Int32} {out : (Unit × zm_S)} {S : zm_S} (h : zf_X1_complete_J112 N t0 t1 S = some out) : zw p l e R s m args below meth c (vx_MQ below (zm_Qc zk_E V (zo_v out)) (zm_XC zk_E V zo_x) args s mc ms (fun q => V.2.2.2.1 ≤ q)) 3 zk_E V mc ms 112 [] [.int t1, .ref t0] S rc rs := by
  unfold zf_X1_complete_J112 at h
  refine zw_dup2 hX dX1_complete_112 rfl rfl ?_
  obtain ⟨v14, g, h⟩ := zb_some h
  refine zw_xi hX dX1_complete_113 g ?_
  refine zw_iconst (v := (1 : Int32)) hX dX1_complete_114 (by decide) ?_
  refine zw_iadd hX dX1_complete_115 ?_
  obtain ⟨S15, g, h⟩ := zb_some h
  refine zw_si hX dX1_complete_116 g ?_
  refine zw_goto (tgt := 130) hX dX1_complete_117 (by decide) ?_
  obtain rfl := Option.some.inj h
  exact zw_vret hX hr dX1_complete_130 ⟨rfl, rfl⟩
set_option maxHeartbeats 4000000 in
set_option maxRecDepth 100000 in
theorem zt_X1_complete_J78 {p : Program} {l : Launch} {e : Env} {R : Room} {s : State} {m : MethodId} {args : Array Value} {below : List Frame} {meth : Method} {c : Code} {V : zm_V} {mc ms d rc rs : Nat} (hX : zm_X p R s m args meth c RX1 "complete" cX1_complete 3 zk_E V mc ms) (hr : meth.sig.returnType = none) (hR : R.frames = d ∧ R.locals = 64 * d) (hd : 3 ≤ d) {N : Nat} {a0 : Nat} {t0 : Int32} {out : (Unit × zm_S)} {S : zm_S} (h : zf_X1_complete_J78 N a0 t0 S = some out) : zw p l e R s m args below meth c (vx_MQ below (zm_Qc zk_E V (zo_v out)) (zm_XC zk_E V zo_x) args s mc ms (fun q => V.2.2.2.1 ≤ q)) 3 zk_E V mc ms 78 [(0, .ref a0)] [.int t0] S rc rs := by
  unfold zf_X1_complete_J78 at h
  refine zw_istore_n hX dX1_complete_78 (by decide) ?_
  refine zw_iload_n hX dX1_complete_79 rfl ?_
  refine zw_if_eq (tgt := 120) hX dX1_complete_80 (by decide) (fun c80 => ?_) (fun c80 => ?_)
  · rw [if_pos c80] at h
    refine zw_aload_n hX dX1_complete_120 rfl ?_
    obtain ⟨b6, g, h⟩ := zb_some h
    refine zw_getr hX zl_X1_49 dX1_complete_121 g ?_
    refine zw_iconst (v := (2 : Int32)) hX dX1_complete_124 (by decide) ?_
    refine zw_dup2 hX dX1_complete_125 rfl rfl ?_
    obtain ⟨v7, g, h⟩ := zb_some h
    refine zw_xi hX dX1_complete_126 g ?_
    refine zw_iconst (v := (1 : Int32)) hX dX1_complete_127 (by decide) ?_
    refine zw_iadd hX dX1_complete_128 ?_
    obtain ⟨S8, g, h⟩ := zb_some h
    refine zw_si hX dX1_complete_129 g ?_
    obtain rfl := Option.some.inj h
    exact zw_vret hX hr dX1_complete_130 ⟨rfl, rfl⟩
  · rw [if_neg c80] at h
    refine zw_aload_n hX dX1_complete_83 rfl ?_
    refine zw_aload_n hX dX1_complete_84 rfl ?_
    obtain ⟨b9, g, h⟩ := zb_some h
    refine zw_getr hX zl_X1_36 dX1_complete_85 g ?_
    refine zw_iconst (v := (0 : Int32)) hX dX1_complete_88 (by decide) ?_
    obtain ⟨v10, g, h⟩ := zb_some h
    refine zw_xi hX dX1_complete_89 g ?_
    obtain ⟨S11, g, h⟩ := zb_some h
    refine zw_putv hX zl_X1_46 zt_1_18 dX1_complete_90 rfl rfl g ?_
    refine zw_aload_n hX dX1_complete_93 rfl ?_
    obtain ⟨b12, g, h⟩ := zb_some h
    refine zw_getr hX zl_X1_49 dX1_complete_94 g ?_
    refine zw_aload_n hX dX1_complete_97 rfl ?_
    obtain ⟨v13, g, h⟩ := zb_some h
    refine zw_geti hX zl_X1_46 dX1_complete_98 g ?_
    refine zw_sipush (v := (204 : Int32)) hX dX1_complete_101 (by decide) ?_
    refine zw_icmp_ne (tgt := 111) hX dX1_complete_104 (by decide) (fun c104 => ?_) (fun c104 => ?_)
    · rw [if_neg c104] at h
      refine zw_iconst (v := (4 : Int32)) hX dX1_complete_111 (by decide) ?_
      refine zw_sub (lv' := []) zs_nil ?_
      exact zt_X1_complete_J112 hX hr hR hd h
    · rw [if_pos c104] at h
      refine zw_iconst (v := (3 : Int32)) hX dX1_complete_107 (by decide) ?_
      refine zw_goto (tgt := 112) hX dX1_complete_108 (by decide) ?_
      refine zw_sub (lv' := []) zs_nil ?_
      exact zt_X1_complete_J112 hX hr hR hd h
set_option maxHeartbeats 4000000 in
set_option maxRecDepth 100000 in
theorem zt_X1_complete_J77 {p : Program} {l : Launch} {e : Env} {R : Room} {s : State} {m : MethodId} {args : Array Value} {below : List Frame} {meth : Method} {c : Code} {V : zm_V} {mc ms d rc rs : Nat} (hX : zm_X p R s m args meth c RX1 "complete" cX1_complete 3 zk_E V mc ms) (hr : meth.sig.returnType = none) (hR : R.frames = d ∧ R.locals = 64 * d) (hd : 3 ≤ d) {N : Nat} {a0 : Nat} {out : (Unit × zm_S)} {S : zm_S} (h : zf_X1_complete_J77 N a0 S = some out) : zw p l e R s m args below meth c (vx_MQ below (zm_Qc zk_E V (zo_v out)) (zm_XC zk_E V zo_x) args s mc ms (fun q => V.2.2.2.1 ≤ q)) 3 zk_E V mc ms 77 [(0, .ref a0)] [] S rc rs := by
  unfold zf_X1_complete_J77 at h
  refine zw_iconst (v := (0 : Int32)) hX dX1_complete_77 (by decide) ?_
  refine zw_sub (lv' := [(0, .ref a0)]) (List.forall_mem_cons.mpr ⟨rfl, zs_nil⟩) ?_
  exact zt_X1_complete_J78 hX hr hR hd h
set_option maxHeartbeats 4000000 in
set_option maxRecDepth 100000 in
theorem zt_X1_complete_J37 {p : Program} {l : Launch} {e : Env} {R : Room} {s : State} {m : MethodId} {args : Array Value} {below : List Frame} {meth : Method} {c : Code} {V : zm_V} {mc ms d rc rs : Nat} (hX : zm_X p R s m args meth c RX1 "complete" cX1_complete 3 zk_E V mc ms) (hr : meth.sig.returnType = none) (hR : R.frames = d ∧ R.locals = 64 * d) (hd : 3 ≤ d) {N : Nat} {a0 : Nat} {i1 : Int32} {out : (Unit × zm_S)} {S : zm_S} (h : zf_X1_complete_J37 N a0 i1 S = some out) : zw p l e R s m args below meth c (vx_MQ below (zm_Qc zk_E V (zo_v out)) (zm_XC zk_E V zo_x) args s mc ms (fun q => V.2.2.2.1 ≤ q)) 3 zk_E V mc ms 37 [(0, .ref a0), (1, .int i1)] [] S rc rs := by
  unfold zf_X1_complete_J37 at h
  refine zw_aload_n hX dX1_complete_37 rfl ?_
  refine zw_iconst (v := (0 : Int32)) hX dX1_complete_38 (by decide) ?_
  obtain ⟨S4, g, h⟩ := zb_some h
  refine zw_putv hX zl_X1_66 zt_1_17 dX1_complete_39 rfl (by decide) g ?_
  refine zw_aload_n hX dX1_complete_42 rfl ?_
  obtain ⟨v5, g, h⟩ := zb_some h
  refine zw_geti hX zl_X1_148 dX1_complete_43 g ?_
  refine zw_iconst (v := (1 : Int32)) hX dX1_complete_46 (by decide) ?_
  refine zw_icmp_ne (tgt := 77) hX dX1_complete_47 (by decide) (fun c47 => ?_) (fun c47 => ?_)
  · rw [if_neg c47] at h
    refine zw_sub (lv' := [(0, .ref a0)]) (List.forall_mem_cons.mpr ⟨rfl, zs_nil⟩) ?_
    exact zt_X1_complete_J77 hX hr hR hd h
  · rw [if_pos c47] at h
    refine zw_aload_n hX dX1_complete_50 rfl ?_
    obtain ⟨v16, g, h⟩ := zb_some h
    refine zw_geti hX zl_X1_151 dX1_complete_51 g ?_
    refine zw_if_ne (tgt := 77) hX dX1_complete_54 (by decide) (fun c54 => ?_) (fun c54 => ?_)
    · rw [if_neg c54] at h
      refine zw_sub (lv' := [(0, .ref a0)]) (List.forall_mem_cons.mpr ⟨rfl, zs_nil⟩) ?_
      exact zt_X1_complete_J77 hX hr hR hd h
    · rw [if_pos c54] at h
      refine zw_iload_n hX dX1_complete_57 rfl ?_
      refine zw_aload_n hX dX1_complete_58 rfl ?_
      obtain ⟨v17, g, h⟩ := zb_some h
      refine zw_geti hX zl_X1_43 dX1_complete_59 g ?_
      refine zw_bipush (v := (14 : Int32)) hX dX1_complete_62 (by decide) ?_
      refine zw_iadd hX dX1_complete_64 ?_
      refine zw_bipush (v := (11 : Int32)) hX dX1_complete_65 (by decide) ?_
      refine zw_iadd hX dX1_complete_67 ?_
      refine zw_iconst (v := (1 : Int32)) hX dX1_complete_68 (by decide) ?_
      refine zw_isub hX dX1_complete_69 ?_
      refine zw_icmp_ne (tgt := 77) hX dX1_complete_70 (by decide) (fun c70 => ?_) (fun c70 => ?_)
      · rw [if_neg c70] at h
        refine zw_sub (lv' := [(0, .ref a0)]) (List.forall_mem_cons.mpr ⟨rfl, zs_nil⟩) ?_
        exact zt_X1_complete_J77 hX hr hR hd h
      · rw [if_pos c70] at h
        refine zw_iconst (v := (1 : Int32)) hX dX1_complete_73 (by decide) ?_
        refine zw_goto (tgt := 78) hX dX1_complete_74 (by decide) ?_
        refine zw_sub (lv' := [(0, .ref a0)]) (List.forall_mem_cons.mpr ⟨rfl, zs_nil⟩) ?_
        exact zt_X1_complete_J78 hX hr hR hd h
set_option maxHeartbeats 4000000 in
set_option maxRecDepth 100000 in
theorem zt_X1_complete {l : Launch} {V : zm_V} {N : Nat} {S : zm_S} {out : (Unit × zm_S)} {d : Nat} {a0 : Nat} (hd : 3 ≤ d) (h : zf_X1_complete N a0 S = some out) : zm_Met l zk_E V yX1_complete (.code yX1_complete cX1_complete 3 none) d [.ref a0] S 0 0 (zo_v out) zo_x := by
  refine zm_of (by decide +kernel) (Nat.le_of_ble_eq_true rfl) ?_
  intro p e R s m args below meth c hRR hX hr hxt
  have hR : R.frames = d ∧ R.locals = 64 * d := by rw [hRR]; exact ⟨rfl, rfl⟩
  have hX : zm_X p R s m args meth c RX1 "complete" cX1_complete 3 zk_E V 0 0 := hX
  unfold zf_X1_complete at h
  refine zw_sub (lv' := [(0, .ref a0)]) (List.forall_mem_cons.mpr ⟨rfl, zs_nil⟩) ?_
  refine zw_aload_n hX dX1_complete_0 rfl ?_
  obtain ⟨v1, g, h⟩ := zb_some h
  refine zw_geti hX zl_X1_60 dX1_complete_1 g ?_
  refine zw_aload_n hX dX1_complete_4 rfl ?_
  obtain ⟨v2, g, h⟩ := zb_some h
  refine zw_geti hX zl_X1_33 dX1_complete_5 g ?_
  refine zw_bipush (v := (11 : Int32)) hX dX1_complete_8 (by decide) ?_
  refine zw_isub hX dX1_complete_10 ?_
  refine zw_iconst (v := (1 : Int32)) hX dX1_complete_11 (by decide) ?_
  refine zw_iadd hX dX1_complete_12 ?_
  refine zw_isub hX dX1_complete_13 ?_
  refine zw_istore_n hX dX1_complete_14 (by decide) ?_
  refine zw_aload_n hX dX1_complete_15 rfl ?_
  obtain ⟨v3, g, h⟩ := zb_some h
  refine zw_geti hX zl_X1_148 dX1_complete_16 g ?_
  refine zw_bipush (v := (8 : Int32)) hX dX1_complete_19 (by decide) ?_
  refine zw_icmp_lt (tgt := 37) hX dX1_complete_21 (by decide) (fun c21 => ?_) (fun c21 => ?_)
  · rw [if_pos c21] at h
    refine zw_sub (lv' := [(0, .ref a0), (1, .int (v1 - ((v2 - (11 : Int32)) + (1 : Int32))))]) (List.forall_mem_cons.mpr ⟨rfl, (List.forall_mem_cons.mpr ⟨rfl, zs_nil⟩)⟩) ?_
    exact zt_X1_complete_J37 hX hr hR hd h
  · rw [if_neg c21] at h
    refine zw_aload_n hX dX1_complete_24 rfl ?_
    obtain ⟨v18, g, h⟩ := zb_some h
    refine zw_geti hX zl_X1_151 dX1_complete_25 g ?_
    refine zw_if_ne (tgt := 37) hX dX1_complete_28 (by decide) (fun c28 => ?_) (fun c28 => ?_)
    · rw [if_neg c28] at h
      refine zw_sub (lv' := [(0, .ref a0), (1, .int (v1 - ((v2 - (11 : Int32)) + (1 : Int32))))]) (List.forall_mem_cons.mpr ⟨rfl, (List.forall_mem_cons.mpr ⟨rfl, zs_nil⟩)⟩) ?_
      exact zt_X1_complete_J37 hX hr hR hd h
    · rw [if_pos c28] at h
      refine zw_aload_n hX dX1_complete_31 rfl ?_
      refine zw_iload_n hX dX1_complete_32 rfl ?_
      obtain ⟨_, gi, h⟩ := zb_some h
      obtain ⟨r20, g, h⟩ := zb_some h
      refine zc_Vv (as := [.int (v1 - ((v2 - (11 : Int32)) + (1 : Int32)))]) hX gi (zt_X1_takeTelegram (d := d - 1) (by omega) g) zl_X1_154 rfl dX1_complete_33 ⟨rfl, rfl, Nat.le_of_ble_eq_true rfl⟩ ⟨by omega, by omega⟩ ?_
      obtain rfl := Option.some.inj h
      exact zw_vret hX hr dX1_complete_36 ⟨rfl, rfl⟩
set_option maxHeartbeats 4000000 in
set_option maxRecDepth 100000 in
theorem zt_X1_hear {l : Launch} {V : zm_V} {N : Nat} {S : zm_S} {out : (Unit × zm_S)} {d : Nat} {a0 : Nat} {i1 : Int32} (hd : 4 ≤ d) (h : zf_X1_hear N a0 i1 S = some out) : zm_Met l zk_E V yX1_hear (.code yX1_hear cX1_hear 2 none) d [.ref a0, .int i1] S 0 0 (zo_v out) zo_x := by
  refine zm_of (by decide +kernel) (Nat.le_of_ble_eq_true rfl) ?_
  intro p e R s m args below meth c hRR hX hr hxt
  have hR : R.frames = d ∧ R.locals = 64 * d := by rw [hRR]; exact ⟨rfl, rfl⟩
  have hX : zm_X p R s m args meth c RX1 "hear" cX1_hear 2 zk_E V 0 0 := hX
  unfold zf_X1_hear at h
  refine zw_sub (lv' := [(0, .ref a0), (1, .int i1)]) (List.forall_mem_cons.mpr ⟨rfl, (List.forall_mem_cons.mpr ⟨rfl, zs_nil⟩)⟩) ?_
  refine zw_aload_n hX dX1_hear_0 rfl ?_
  obtain ⟨v1, g, h⟩ := zb_some h
  refine zw_geti hX zl_X1_33 dX1_hear_1 g ?_
  refine zw_iconst (v := (-1 : Int32)) hX dX1_hear_4 (by decide) ?_
  refine zw_icmp_ne (tgt := 19) hX dX1_hear_5 (by decide) (fun c5 => ?_) (fun c5 => ?_)
  · rw [if_neg c5] at h
    refine zw_aload_n hX dX1_hear_19 rfl ?_
    obtain ⟨v2, g, h⟩ := zb_some h
    refine zw_geti hX zl_X1_33 dX1_hear_20 g ?_
    refine zw_bipush (v := (11 : Int32)) hX dX1_hear_23 (by decide) ?_
    refine zw_icmp_ge (tgt := 69) hX dX1_hear_25 (by decide) (fun c25 => ?_) (fun c25 => ?_)
    · rw [if_pos c25] at h
      refine zw_aload_n hX dX1_hear_69 rfl ?_
      obtain ⟨v3, g, h⟩ := zb_some h
      refine zw_geti hX zl_X1_33 dX1_hear_70 g ?_
      refine zw_bipush (v := (13 : Int32)) hX dX1_hear_73 (by decide) ?_
      refine zw_icmp_ge (tgt := 107) hX dX1_hear_75 (by decide) (fun c75 => ?_) (fun c75 => ?_)
      · rw [if_pos c75] at h
        refine zw_iload_n hX dX1_hear_107 rfl ?_
        refine zw_iconst (v := (1 : Int32)) hX dX1_hear_108 (by decide) ?_
        refine zw_icmp_ne (tgt := 124) hX dX1_hear_109 (by decide) (fun c109 => ?_) (fun c109 => ?_)
        · rw [if_neg c109] at h
          refine zw_aload_n hX dX1_hear_124 rfl ?_
          obtain ⟨_, gi, h⟩ := zb_some h
          obtain ⟨r5, g, h⟩ := zb_some h
          refine zc_Vv (as := []) hX gi (zt_X1_beginCharacter (d := d - 1) (by omega) g) zl_X1_145 rfl dX1_hear_125 ⟨rfl, rfl, Nat.le_of_ble_eq_true rfl⟩ ⟨by omega, by omega⟩ ?_
          obtain rfl := Option.some.inj h
          exact zw_vret hX hr dX1_hear_128 ⟨rfl, rfl⟩
        · rw [if_pos c109] at h
          refine zw_aload_n hX dX1_hear_112 rfl ?_
          obtain ⟨_, gi, h⟩ := zb_some h
          obtain ⟨r7, g, h⟩ := zb_some h
          refine zc_Vv (as := []) hX gi (zt_X1_complete (d := d - 1) (by omega) g) zl_X1_142 rfl dX1_hear_113 ⟨rfl, rfl, Nat.le_of_ble_eq_true rfl⟩ ⟨by omega, by omega⟩ ?_
          refine zw_aload_n hX dX1_hear_116 rfl ?_
          refine zw_iconst (v := (-1 : Int32)) hX dX1_hear_117 (by decide) ?_
          obtain ⟨S8, g, h⟩ := zb_some h
          refine zw_putv hX zl_X1_33 zt_1_9 dX1_hear_118 rfl rfl g ?_
          refine zw_goto (tgt := 128) hX dX1_hear_121 (by decide) ?_
          obtain rfl := Option.some.inj h
          exact zw_vret hX hr dX1_hear_128 ⟨rfl, rfl⟩
      · rw [if_neg c75] at h
        refine zw_iload_n hX dX1_hear_78 rfl ?_
        refine zw_iconst (v := (1 : Int32)) hX dX1_hear_79 (by decide) ?_
        refine zw_icmp_ne (tgt := 96) hX dX1_hear_80 (by decide) (fun c80 => ?_) (fun c80 => ?_)
        · rw [if_neg c80] at h
          refine zw_aload_n hX dX1_hear_96 rfl ?_
          obtain ⟨_, gi, h⟩ := zb_some h
          obtain ⟨r10, g, h⟩ := zb_some h
          refine zc_Vv (as := []) hX gi (zt_X1_complete (d := d - 1) (by omega) g) zl_X1_142 rfl dX1_hear_97 ⟨rfl, rfl, Nat.le_of_ble_eq_true rfl⟩ ⟨by omega, by omega⟩ ?_
          refine zw_aload_n hX dX1_hear_100 rfl ?_
          obtain ⟨_, gi, h⟩ := zb_some h
          obtain ⟨r12, g, h⟩ := zb_some h
          refine zc_Vv (as := []) hX gi (zt_X1_beginHearing (d := d - 1) (by omega) g) zl_X1_133 rfl dX1_hear_101 ⟨rfl, rfl, Nat.le_of_ble_eq_true rfl⟩ ⟨by omega, by omega⟩ ?_
          refine zw_goto (tgt := 128) hX dX1_hear_104 (by decide) ?_
          obtain rfl := Option.some.inj h
          exact zw_vret hX hr dX1_hear_128 ⟨rfl, rfl⟩
        · rw [if_pos c80] at h
          refine zw_aload_n hX dX1_hear_83 rfl ?_
          refine zw_dup hX dX1_hear_84 rfl ?_
          obtain ⟨v13, g, h⟩ := zb_some h
          refine zw_geti hX zl_X1_33 dX1_hear_85 g ?_
          refine zw_iconst (v := (1 : Int32)) hX dX1_hear_88 (by decide) ?_
          refine zw_iadd hX dX1_hear_89 ?_
          obtain ⟨S14, g, h⟩ := zb_some h
          refine zw_putv hX zl_X1_33 zt_1_9 dX1_hear_90 rfl rfl g ?_
          refine zw_goto (tgt := 128) hX dX1_hear_93 (by decide) ?_
          obtain rfl := Option.some.inj h
          exact zw_vret hX hr dX1_hear_128 ⟨rfl, rfl⟩
    · rw [if_neg c25] at h
      refine zw_aload_n hX dX1_hear_28 rfl ?_
      refine zw_aload_n hX dX1_hear_29 rfl ?_
      obtain ⟨v15, g, h⟩ := zb_some h
      refine zw_geti hX zl_X1_136 dX1_hear_30 g ?_
      refine zw_iload_n hX dX1_hear_33 rfl ?_
      refine zw_aload_n hX dX1_hear_34 rfl ?_
      obtain ⟨v16, g, h⟩ := zb_some h
      refine zw_geti hX zl_X1_33 dX1_hear_35 g ?_
      refine zw_ishl hX dX1_hear_38 ?_
      refine zw_ior hX dX1_hear_39 ?_
      obtain ⟨S17, g, h⟩ := zb_some h
      refine zw_putv hX zl_X1_136 zt_1_10 dX1_hear_40 rfl rfl g ?_
      refine zw_aload_n hX dX1_hear_43 rfl ?_
      refine zw_dup hX dX1_hear_44 rfl ?_
      obtain ⟨v18, g, h⟩ := zb_some h
      refine zw_geti hX zl_X1_33 dX1_hear_45 g ?_
      refine zw_iconst (v := (1 : Int32)) hX dX1_hear_48 (by decide) ?_
      refine zw_iadd hX dX1_hear_49 ?_
      obtain ⟨S19, g, h⟩ := zb_some h
      refine zw_putv hX zl_X1_33 zt_1_9 dX1_hear_50 rfl rfl g ?_
      refine zw_aload_n hX dX1_hear_53 rfl ?_
      obtain ⟨v20, g, h⟩ := zb_some h
      refine zw_geti hX zl_X1_33 dX1_hear_54 g ?_
      refine zw_bipush (v := (11 : Int32)) hX dX1_hear_57 (by decide) ?_
      refine zw_icmp_ne (tgt := 128) hX dX1_hear_59 (by decide) (fun c59 => ?_) (fun c59 => ?_)
      · rw [if_neg c59] at h
        obtain rfl := Option.some.inj h
        exact zw_vret hX hr dX1_hear_128 ⟨rfl, rfl⟩
      · rw [if_pos c59] at h
        refine zw_aload_n hX dX1_hear_62 rfl ?_
        obtain ⟨_, gi, h⟩ := zb_some h
        obtain ⟨r22, g, h⟩ := zb_some h
        refine zc_Vv (as := []) hX gi (zt_X1_takeCharacter (d := d - 1) (by omega) g) zl_X1_139 rfl dX1_hear_63 ⟨rfl, rfl, Nat.le_of_ble_eq_true rfl⟩ ⟨by omega, by omega⟩ ?_
        refine zw_goto (tgt := 128) hX dX1_hear_66 (by decide) ?_
        obtain rfl := Option.some.inj h
        exact zw_vret hX hr dX1_hear_128 ⟨rfl, rfl⟩
  · rw [if_pos c5] at h
    refine zw_iload_n hX dX1_hear_8 rfl ?_
    refine zw_if_ne (tgt := 128) hX dX1_hear_9 (by decide) (fun c9 => ?_) (fun c9 => ?_)
    · rw [if_neg c9] at h
      obtain rfl := Option.some.inj h
      exact zw_vret hX hr dX1_hear_128 ⟨rfl, rfl⟩
    · rw [if_pos c9] at h
      refine zw_aload_n hX dX1_hear_12 rfl ?_
      obtain ⟨_, gi, h⟩ := zb_some h
      obtain ⟨r24, g, h⟩ := zb_some h
      refine zc_Vv (as := []) hX gi (zt_X1_beginHearing (d := d - 1) (by omega) g) zl_X1_133 rfl dX1_hear_13 ⟨rfl, rfl, Nat.le_of_ble_eq_true rfl⟩ ⟨by omega, by omega⟩ ?_
      refine zw_goto (tgt := 128) hX dX1_hear_16 (by decide) ?_
      obtain rfl := Option.some.inj h
      exact zw_vret hX hr dX1_hear_128 ⟨rfl, rfl⟩
set_option maxHeartbeats 4000000 in
set_option maxRecDepth 100000 in
theorem zt_X1_dropFirst {l : Launch} {V : zm_V} {N : Nat} {S : zm_S} {out : (Unit × zm_S)} {d : Nat} {a0 : Nat} {i1 : Int32} (hd : 2 ≤ d) (h : zf_X1_dropFirst N a0 i1 S = some out) : zm_Met l zk_E V yX1_dropFirst (.code yX1_dropFirst cX1_dropFirst 3 none) d [.ref a0, .int i1] S 0 0 (zo_v out) zo_x := by
  refine zm_of (by decide +kernel) (Nat.le_of_ble_eq_true rfl) ?_
  intro p e R s m args below meth c hRR hX hr hxt
  have hR : R.frames = d ∧ R.locals = 64 * d := by rw [hRR]; exact ⟨rfl, rfl⟩
  have hX : zm_X p R s m args meth c RX1 "dropFirst" cX1_dropFirst 3 zk_E V 0 0 := hX
  unfold zf_X1_dropFirst at h
  refine zw_sub (lv' := [(0, .ref a0), (1, .int i1)]) (List.forall_mem_cons.mpr ⟨rfl, (List.forall_mem_cons.mpr ⟨rfl, zs_nil⟩)⟩) ?_
  refine zw_aload_n hX dX1_dropFirst_0 rfl ?_
  obtain ⟨b1, g, h⟩ := zb_some h
  refine zw_getr hX zl_X1_16 dX1_dropFirst_1 g ?_
  refine zw_iload_n hX dX1_dropFirst_4 rfl ?_
  obtain ⟨b2, g, h⟩ := zb_some h
  refine zw_xr hX dX1_dropFirst_5 g ?_
  refine zw_astore_n hX dX1_dropFirst_6 (by decide) ?_
  refine zw_aload_n hX dX1_dropFirst_7 rfl ?_
  refine zw_bipush (v := (7 : Int32)) hX dX1_dropFirst_8 (by decide) ?_
  refine zw_aload_n hX dX1_dropFirst_10 rfl ?_
  refine zw_iconst (v := (0 : Int32)) hX dX1_dropFirst_11 (by decide) ?_
  refine zw_aload_n hX dX1_dropFirst_12 rfl ?_
  obtain ⟨v3, g, h⟩ := zb_some h
  refine zw_len hX dX1_dropFirst_13 g ?_
  refine zw_bipush (v := (7 : Int32)) hX dX1_dropFirst_14 (by decide) ?_
  refine zw_isub hX dX1_dropFirst_16 ?_
  obtain ⟨S4, g, h⟩ := zb_some h
  refine zw_cp hX zl_X1_127 dX1_dropFirst_17 (Nat.le_of_ble_eq_true rfl) ⟨by omega, by omega⟩ g ?_
  refine zw_aload_n hX dX1_dropFirst_20 rfl ?_
  obtain ⟨b5, g, h⟩ := zb_some h
  refine zw_getr hX zl_X1_13 dX1_dropFirst_21 g ?_
  refine zw_iload_n hX dX1_dropFirst_24 rfl ?_
  obtain ⟨b6, g, h⟩ := zb_some h
  refine zw_xr hX dX1_dropFirst_25 g ?_
  refine zw_iconst (v := (0 : Int32)) hX dX1_dropFirst_26 (by decide) ?_
  refine zw_dup2 hX dX1_dropFirst_27 rfl rfl ?_
  obtain ⟨v7, g, h⟩ := zb_some h
  refine zw_xi hX dX1_dropFirst_28 g ?_
  refine zw_iconst (v := (1 : Int32)) hX dX1_dropFirst_29 (by decide) ?_
  refine zw_isub hX dX1_dropFirst_30 ?_
  obtain ⟨S8, g, h⟩ := zb_some h
  refine zw_si hX dX1_dropFirst_31 g ?_
  obtain rfl := Option.some.inj h
  exact zw_vret hX hr dX1_dropFirst_32 ⟨rfl, rfl⟩
set_option maxHeartbeats 4000000 in
set_option maxRecDepth 100000 in
theorem zt_X1_endWaiting {l : Launch} {V : zm_V} {N : Nat} {S : zm_S} {out : (Unit × zm_S)} {d : Nat} {a0 : Nat} {i1 : Int32} (hd : 3 ≤ d) (h : zf_X1_endWaiting N a0 i1 S = some out) : zm_Met l zk_E V yX1_endWaiting (.code yX1_endWaiting cX1_endWaiting 3 none) d [.ref a0, .int i1] S 0 0 (zo_v out) zo_x := by
  refine zm_of (by decide +kernel) (Nat.le_of_ble_eq_true rfl) ?_
  intro p e R s m args below meth c hRR hX hr hxt
  have hR : R.frames = d ∧ R.locals = 64 * d := by rw [hRR]; exact ⟨rfl, rfl⟩
  have hX : zm_X p R s m args meth c RX1 "endWaiting" cX1_endWaiting 3 zk_E V 0 0 := hX
  unfold zf_X1_endWaiting at h
  refine zw_sub (lv' := [(0, .ref a0), (1, .int i1)]) (List.forall_mem_cons.mpr ⟨rfl, (List.forall_mem_cons.mpr ⟨rfl, zs_nil⟩)⟩) ?_
  refine zw_aload_n hX dX1_endWaiting_0 rfl ?_
  obtain ⟨b1, g, h⟩ := zb_some h
  refine zw_getr hX zl_X1_13 dX1_endWaiting_1 g ?_
  refine zw_iload_n hX dX1_endWaiting_4 rfl ?_
  obtain ⟨b2, g, h⟩ := zb_some h
  refine zw_xr hX dX1_endWaiting_5 g ?_
  refine zw_astore_n hX dX1_endWaiting_6 (by decide) ?_
  refine zw_aload_n hX dX1_endWaiting_7 rfl ?_
  refine zw_iconst (v := (2 : Int32)) hX dX1_endWaiting_8 (by decide) ?_
  refine zw_iconst (v := (-1 : Int32)) hX dX1_endWaiting_9 (by decide) ?_
  obtain ⟨S3, g, h⟩ := zb_some h
  refine zw_si hX dX1_endWaiting_10 g ?_
  refine zw_aload_n hX dX1_endWaiting_11 rfl ?_
  obtain ⟨v4, g, h⟩ := zb_some h
  refine zw_geti hX zl_X1_46 dX1_endWaiting_12 g ?_
  refine zw_sipush (v := (204 : Int32)) hX dX1_endWaiting_15 (by decide) ?_
  refine zw_icmp_ne (tgt := 36) hX dX1_endWaiting_18 (by decide) (fun c18 => ?_) (fun c18 => ?_)
  · rw [if_neg c18] at h
    refine zw_aload_n hX dX1_endWaiting_36 rfl ?_
    obtain ⟨b5, g, h⟩ := zb_some h
    refine zw_getr hX zl_X1_16 dX1_endWaiting_37 g ?_
    refine zw_iload_n hX dX1_endWaiting_40 rfl ?_
    obtain ⟨b6, g, h⟩ := zb_some h
    refine zw_xr hX dX1_endWaiting_41 g ?_
    refine zw_bipush (v := (6 : Int32)) hX dX1_endWaiting_42 (by decide) ?_
    obtain ⟨v7, g, h⟩ := zb_some h
    refine zw_xi hX dX1_endWaiting_44 g ?_
    refine zw_iconst (v := (4 : Int32)) hX dX1_endWaiting_45 (by decide) ?_
    refine zw_icmp_lt (tgt := 61) hX dX1_endWaiting_46 (by decide) (fun c46 => ?_) (fun c46 => ?_)
    · rw [if_pos c46] at h
      obtain rfl := Option.some.inj h
      exact zw_vret hX hr dX1_endWaiting_61 ⟨rfl, rfl⟩
    · rw [if_neg c46] at h
      refine zw_aload_n hX dX1_endWaiting_49 rfl ?_
      refine zw_iconst (v := (4 : Int32)) hX dX1_endWaiting_50 (by decide) ?_
      refine zw_dup2 hX dX1_endWaiting_51 rfl rfl ?_
      obtain ⟨v8, g, h⟩ := zb_some h
      refine zw_xi hX dX1_endWaiting_52 g ?_
      refine zw_iconst (v := (1 : Int32)) hX dX1_endWaiting_53 (by decide) ?_
      refine zw_iadd hX dX1_endWaiting_54 ?_
      obtain ⟨S9, g, h⟩ := zb_some h
      refine zw_si hX dX1_endWaiting_55 g ?_
      refine zw_aload_n hX dX1_endWaiting_56 rfl ?_
      refine zw_iload_n hX dX1_endWaiting_57 rfl ?_
      obtain ⟨_, gi, h⟩ := zb_some h
      obtain ⟨r11, g, h⟩ := zb_some h
      refine zc_Vv (as := [.int i1]) hX gi (zt_X1_dropFirst (d := d - 1) (by omega) g) zl_X1_124 rfl dX1_endWaiting_58 ⟨rfl, rfl, Nat.le_of_ble_eq_true rfl⟩ ⟨by omega, by omega⟩ ?_
      obtain rfl := Option.some.inj h
      exact zw_vret hX hr dX1_endWaiting_61 ⟨rfl, rfl⟩
  · rw [if_pos c18] at h
    refine zw_aload_n hX dX1_endWaiting_21 rfl ?_
    refine zw_iconst (v := (3 : Int32)) hX dX1_endWaiting_22 (by decide) ?_
    refine zw_dup2 hX dX1_endWaiting_23 rfl rfl ?_
    obtain ⟨v12, g, h⟩ := zb_some h
    refine zw_xi hX dX1_endWaiting_24 g ?_
    refine zw_iconst (v := (1 : Int32)) hX dX1_endWaiting_25 (by decide) ?_
    refine zw_iadd hX dX1_endWaiting_26 ?_
    obtain ⟨S13, g, h⟩ := zb_some h
    refine zw_si hX dX1_endWaiting_27 g ?_
    refine zw_aload_n hX dX1_endWaiting_28 rfl ?_
    refine zw_iload_n hX dX1_endWaiting_29 rfl ?_
    obtain ⟨_, gi, h⟩ := zb_some h
    obtain ⟨r15, g, h⟩ := zb_some h
    refine zc_Vv (as := [.int i1]) hX gi (zt_X1_dropFirst (d := d - 1) (by omega) g) zl_X1_124 rfl dX1_endWaiting_30 ⟨rfl, rfl, Nat.le_of_ble_eq_true rfl⟩ ⟨by omega, by omega⟩ ?_
    refine zw_goto (tgt := 61) hX dX1_endWaiting_33 (by decide) ?_
    obtain rfl := Option.some.inj h
    exact zw_vret hX hr dX1_endWaiting_61 ⟨rfl, rfl⟩
set_option maxHeartbeats 4000000 in
set_option maxRecDepth 100000 in
theorem zt_X1_runBitTime_L37 {p : Program} {l : Launch} {e : Env} {R : Room} {s : State} {m : MethodId} {args : Array Value} {below : List Frame} {meth : Method} {c : Code} {V : zm_V} {mc ms d rc rs : Nat} (hX : zm_X p R s m args meth c RX1 "runBitTime" cX1_runBitTime 3 zk_E V mc ms) (hr : meth.sig.returnType = none) (hR : R.frames = d ∧ R.locals = 64 * d) (hd : 5 ≤ d) {N : Nat} {res : (Unit × zm_S) ⊕ ((Unit) × zm_S)} {out : (Unit × zm_S)} (a0 : Nat) (hf : ∀ o, res = .inl o → o = out) (hk : ∀ (S' : zm_S), res = .inr ((), S') → zw p l e R s m args below meth c (vx_MQ below (zm_Qc zk_E V (zo_v out)) (zm_XC zk_E V zo_x) args s mc ms (fun q => V.2.2.2.1 ≤ q)) 3 zk_E V mc ms 54 [(0, .ref a0)] [] S' rc rs) : ∀ (n : Nat) (i1 : Int32) (S : zm_S), zf_X1_runBitTime_L37 N n a0 i1 S = some res → zw p l e R s m args below meth c (vx_MQ below (zm_Qc zk_E V (zo_v out)) (zm_XC zk_E V zo_x) args s mc ms (fun q => V.2.2.2.1 ≤ q)) 3 zk_E V mc ms 37 [(0, .ref a0), (1, .int i1)] [] S rc rs := by
  intro n
  induction n with
  | zero => intro i1 S h; cases h
  | succ n ih =>
    intro i1 S h
    rw [zf_X1_runBitTime_L37] at h
    refine zw_iload_n hX dX1_runBitTime_37 rfl ?_
    refine zw_bipush (v := (8 : Int32)) hX dX1_runBitTime_38 (by decide) ?_
    refine zw_icmp_ge (tgt := 54) hX dX1_runBitTime_40 (by decide) (fun c40 => ?_) (fun c40 => ?_)
    · rw [if_pos c40] at h
      refine zw_sub (lv' := [(0, .ref a0)]) (List.forall_mem_cons.mpr ⟨rfl, zs_nil⟩) ?_
      exact hk  _ (Option.some.inj h).symm
    · rw [if_neg c40] at h
      refine zw_aload_n hX dX1_runBitTime_43 rfl ?_
      refine zw_iload_n hX dX1_runBitTime_44 rfl ?_
      obtain ⟨_, gi, h⟩ := zb_some h
      obtain ⟨r6, g, h⟩ := zb_some h
      refine zc_Vv (as := [.int i1]) hX gi (zt_X1_beginSaying (d := d - 1) (by omega) g) zl_X1_73 rfl dX1_runBitTime_45 ⟨rfl, rfl, Nat.le_of_ble_eq_true rfl⟩ ⟨by omega, by omega⟩ ?_
      refine zw_iinc (v := (i1 + (1 : Int32))) hX dX1_runBitTime_48 rfl rfl (by decide) ?_
      refine zw_goto (tgt := 37) hX dX1_runBitTime_51 (by decide) ?_
      refine zw_sub (lv' := [(0, .ref a0), (1, .int (i1 + (1 : Int32)))]) (List.forall_mem_cons.mpr ⟨rfl, (List.forall_mem_cons.mpr ⟨rfl, zs_nil⟩)⟩) ?_
      exact ih _ _ h
set_option maxHeartbeats 4000000 in
set_option maxRecDepth 100000 in
theorem zt_X1_runBitTime_L61 {p : Program} {l : Launch} {e : Env} {R : Room} {s : State} {m : MethodId} {args : Array Value} {below : List Frame} {meth : Method} {c : Code} {V : zm_V} {mc ms d rc rs : Nat} (hX : zm_X p R s m args meth c RX1 "runBitTime" cX1_runBitTime 3 zk_E V mc ms) (hr : meth.sig.returnType = none) (hR : R.frames = d ∧ R.locals = 64 * d) (hd : 5 ≤ d) {N : Nat} {res : (Unit × zm_S) ⊕ ((Unit) × zm_S)} {out : (Unit × zm_S)} (a0 : Nat) (i1 : Int32) (hf : ∀ o, res = .inl o → o = out) (hk : ∀ (S' : zm_S), res = .inr ((), S') → zw p l e R s m args below meth c (vx_MQ below (zm_Qc zk_E V (zo_v out)) (zm_XC zk_E V zo_x) args s mc ms (fun q => V.2.2.2.1 ≤ q)) 3 zk_E V mc ms 84 [(0, .ref a0), (1, .int i1)] [] S' rc rs) : ∀ (n : Nat) (i2 : Int32) (S : zm_S), zf_X1_runBitTime_L61 N n a0 i1 i2 S = some res → zw p l e R s m args below meth c (vx_MQ below (zm_Qc zk_E V (zo_v out)) (zm_XC zk_E V zo_x) args s mc ms (fun q => V.2.2.2.1 ≤ q)) 3 zk_E V mc ms 61 [(0, .ref a0), (1, .int i1), (2, .int i2)] [] S rc rs := by
  intro n
  induction n with
  | zero => intro i2 S h; cases h
  | succ n ih =>
    intro i2 S h
    rw [zf_X1_runBitTime_L61] at h
    refine zw_iload_n hX dX1_runBitTime_61 rfl ?_
    refine zw_bipush (v := (8 : Int32)) hX dX1_runBitTime_62 (by decide) ?_
    refine zw_icmp_ge (tgt := 84) hX dX1_runBitTime_64 (by decide) (fun c64 => ?_) (fun c64 => ?_)
    · rw [if_pos c64] at h
      refine zw_sub (lv' := [(0, .ref a0), (1, .int i1)]) (List.forall_mem_cons.mpr ⟨rfl, (List.forall_mem_cons.mpr ⟨rfl, zs_nil⟩)⟩) ?_
      exact hk  _ (Option.some.inj h).symm
    · rw [if_neg c64] at h
      refine zw_aload_n hX dX1_runBitTime_67 rfl ?_
      refine zw_iload_n hX dX1_runBitTime_68 rfl ?_
      refine zw_iload_n hX dX1_runBitTime_69 rfl ?_
      obtain ⟨_, gi, h⟩ := zb_some h
      obtain ⟨r11, g, h⟩ := zb_some h
      refine zc_Vv (as := [.int i2, .int i1]) hX gi (zt_X1_goOnSaying (d := d - 1) (by omega) g) zl_X1_81 rfl dX1_runBitTime_70 ⟨rfl, rfl, Nat.le_of_ble_eq_true rfl⟩ ⟨by omega, by omega⟩ ?_
      refine zw_aload_n hX dX1_runBitTime_73 rfl ?_
      refine zw_iload_n hX dX1_runBitTime_74 rfl ?_
      obtain ⟨_, gi, h⟩ := zb_some h
      obtain ⟨r13, g, h⟩ := zb_some h
      refine zc_Vv (as := [.int i2]) hX gi (zt_X1_goOnAnswering (d := d - 1) (by omega) g) zl_X1_85 rfl dX1_runBitTime_75 ⟨rfl, rfl, Nat.le_of_ble_eq_true rfl⟩ ⟨by omega, by omega⟩ ?_
      refine zw_iinc (v := (i2 + (1 : Int32))) hX dX1_runBitTime_78 rfl rfl (by decide) ?_
      refine zw_goto (tgt := 61) hX dX1_runBitTime_81 (by decide) ?_
      refine zw_sub (lv' := [(0, .ref a0), (1, .int i1), (2, .int (i2 + (1 : Int32)))]) (List.forall_mem_cons.mpr ⟨rfl, (List.forall_mem_cons.mpr ⟨rfl, (List.forall_mem_cons.mpr ⟨rfl, zs_nil⟩)⟩)⟩) ?_
      exact ih _ _ h
set_option maxHeartbeats 4000000 in
set_option maxRecDepth 100000 in
theorem zt_X1_runBitTime_L110 {p : Program} {l : Launch} {e : Env} {R : Room} {s : State} {m : MethodId} {args : Array Value} {below : List Frame} {meth : Method} {c : Code} {V : zm_V} {mc ms d rc rs : Nat} (hX : zm_X p R s m args meth c RX1 "runBitTime" cX1_runBitTime 3 zk_E V mc ms) (hr : meth.sig.returnType = none) (hR : R.frames = d ∧ R.locals = 64 * d) (hd : 5 ≤ d) {N : Nat} {res : (Unit × zm_S) ⊕ ((Unit) × zm_S)} {out : (Unit × zm_S)} (a0 : Nat) (hf : ∀ o, res = .inl o → o = out) (hk : ∀ (S' : zm_S), res = .inr ((), S') → zw p l e R s m args below meth c (vx_MQ below (zm_Qc zk_E V (zo_v out)) (zm_XC zk_E V zo_x) args s mc ms (fun q => V.2.2.2.1 ≤ q)) 3 zk_E V mc ms 142 [] [] S' rc rs) : ∀ (n : Nat) (i2 : Int32) (S : zm_S), zf_X1_runBitTime_L110 N n a0 i2 S = some res → zw p l e R s m args below meth c (vx_MQ below (zm_Qc zk_E V (zo_v out)) (zm_XC zk_E V zo_x) args s mc ms (fun q => V.2.2.2.1 ≤ q)) 3 zk_E V mc ms 110 [(0, .ref a0), (2, .int i2)] [] S rc rs := by
  intro n
  induction n with
  | zero => intro i2 S h; cases h
  | succ n ih =>
    intro i2 S h
    rw [zf_X1_runBitTime_L110] at h
    refine zw_iload_n hX dX1_runBitTime_110 rfl ?_
    refine zw_bipush (v := (8 : Int32)) hX dX1_runBitTime_111 (by decide) ?_
    refine zw_icmp_ge (tgt := 142) hX dX1_runBitTime_113 (by decide) (fun c113 => ?_) (fun c113 => ?_)
    · rw [if_pos c113] at h
      refine zw_sub (lv' := []) zs_nil ?_
      exact hk  _ (Option.some.inj h).symm
    · rw [if_neg c113] at h
      refine zw_aload_n hX dX1_runBitTime_116 rfl ?_
      obtain ⟨b18, g, h⟩ := zb_some h
      refine zw_getr hX zl_X1_13 dX1_runBitTime_117 g ?_
      refine zw_iload_n hX dX1_runBitTime_120 rfl ?_
      obtain ⟨b19, g, h⟩ := zb_some h
      refine zw_xr hX dX1_runBitTime_121 g ?_
      refine zw_iconst (v := (2 : Int32)) hX dX1_runBitTime_122 (by decide) ?_
      obtain ⟨v20, g, h⟩ := zb_some h
      refine zw_xi hX dX1_runBitTime_123 g ?_
      refine zw_aload_n hX dX1_runBitTime_124 rfl ?_
      obtain ⟨v21, g, h⟩ := zb_some h
      refine zw_geti hX zl_X1_60 dX1_runBitTime_125 g ?_
      refine zw_icmp_ne (tgt := 136) hX dX1_runBitTime_128 (by decide) (fun c128 => ?_) (fun c128 => ?_)
      · rw [if_neg c128] at h
        refine zw_iinc (v := (i2 + (1 : Int32))) hX dX1_runBitTime_136 rfl rfl (by decide) ?_
        refine zw_goto (tgt := 110) hX dX1_runBitTime_139 (by decide) ?_
        refine zw_sub (lv' := [(0, .ref a0), (2, .int (i2 + (1 : Int32)))]) (List.forall_mem_cons.mpr ⟨rfl, (List.forall_mem_cons.mpr ⟨rfl, zs_nil⟩)⟩) ?_
        exact ih _ _ h
      · rw [if_pos c128] at h
        refine zw_aload_n hX dX1_runBitTime_131 rfl ?_
        refine zw_iload_n hX dX1_runBitTime_132 rfl ?_
        obtain ⟨_, gi, h⟩ := zb_some h
        obtain ⟨r23, g, h⟩ := zb_some h
        refine zc_Vv (as := [.int i2]) hX gi (zt_X1_endWaiting (d := d - 1) (by omega) g) zl_X1_91 rfl dX1_runBitTime_133 ⟨rfl, rfl, Nat.le_of_ble_eq_true rfl⟩ ⟨by omega, by omega⟩ ?_
        refine zw_iinc (v := (i2 + (1 : Int32))) hX dX1_runBitTime_136 rfl rfl (by decide) ?_
        refine zw_goto (tgt := 110) hX dX1_runBitTime_139 (by decide) ?_
        refine zw_sub (lv' := [(0, .ref a0), (2, .int (i2 + (1 : Int32)))]) (List.forall_mem_cons.mpr ⟨rfl, (List.forall_mem_cons.mpr ⟨rfl, zs_nil⟩)⟩) ?_
        exact ih _ _ h
set_option maxHeartbeats 4000000 in
set_option maxRecDepth 100000 in
theorem zt_X1_runBitTime_J105 {p : Program} {l : Launch} {e : Env} {R : Room} {s : State} {m : MethodId} {args : Array Value} {below : List Frame} {meth : Method} {c : Code} {V : zm_V} {mc ms d rc rs : Nat} (hX : zm_X p R s m args meth c RX1 "runBitTime" cX1_runBitTime 3 zk_E V mc ms) (hr : meth.sig.returnType = none) (hR : R.frames = d ∧ R.locals = 64 * d) (hd : 5 ≤ d) {N : Nat} {a0 : Nat} {t0 : Nat} {t1 : Int32} {out : (Unit × zm_S)} {S : zm_S} (h : zf_X1_runBitTime_J105 N a0 t0 t1 S = some out) : zw p l e R s m args below meth c (vx_MQ below (zm_Qc zk_E V (zo_v out)) (zm_XC zk_E V zo_x) args s mc ms (fun q => V.2.2.2.1 ≤ q)) 3 zk_E V mc ms 105 [(0, .ref a0)] [.int t1, .ref t0] S rc rs := by
  unfold zf_X1_runBitTime_J105 at h
  obtain ⟨S17, g, h⟩ := zb_some h
  refine zw_putv hX zl_X1_26 zt_1_6 dX1_runBitTime_105 rfl rfl g ?_
  refine zw_iconst (v := (0 : Int32)) hX dX1_runBitTime_108 (by decide) ?_
  refine zw_istore_n hX dX1_runBitTime_109 (by decide) ?_
  obtain ⟨r, g, h⟩ := zb_some h
  refine zw_sub (lv' := [(0, .ref a0), (2, .int (0 : Int32))]) (List.forall_mem_cons.mpr ⟨rfl, (List.forall_mem_cons.mpr ⟨rfl, zs_nil⟩)⟩) ?_
  refine zt_X1_runBitTime_L110 hX hr hR hd (res := r) (out := out) a0 ?_ ?_ N _ _ g
  · intro o ho
    subst ho
    exact Option.some.inj h
  · intro  S24 hx
    subst hx
    try dsimp only at h
    obtain rfl := Option.some.inj h
    exact zw_vret hX hr dX1_runBitTime_142 ⟨rfl, rfl⟩
set_option maxHeartbeats 4000000 in
set_option maxRecDepth 100000 in
theorem zt_X1_runBitTime_J35 {p : Program} {l : Launch} {e : Env} {R : Room} {s : State} {m : MethodId} {args : Array Value} {below : List Frame} {meth : Method} {c : Code} {V : zm_V} {mc ms d rc rs : Nat} (hX : zm_X p R s m args meth c RX1 "runBitTime" cX1_runBitTime 3 zk_E V mc ms) (hr : meth.sig.returnType = none) (hR : R.frames = d ∧ R.locals = 64 * d) (hd : 5 ≤ d) {N : Nat} {a0 : Nat} {out : (Unit × zm_S)} {S : zm_S} (h : zf_X1_runBitTime_J35 N a0 S = some out) : zw p l e R s m args below meth c (vx_MQ below (zm_Qc zk_E V (zo_v out)) (zm_XC zk_E V zo_x) args s mc ms (fun q => V.2.2.2.1 ≤ q)) 3 zk_E V mc ms 35 [(0, .ref a0)] [] S rc rs := by
  unfold zf_X1_runBitTime_J35 at h
  refine zw_iconst (v := (0 : Int32)) hX dX1_runBitTime_35 (by decide) ?_
  refine zw_istore_n hX dX1_runBitTime_36 (by decide) ?_
  obtain ⟨r, g, h⟩ := zb_some h
  refine zw_sub (lv' := [(0, .ref a0), (1, .int (0 : Int32))]) (List.forall_mem_cons.mpr ⟨rfl, (List.forall_mem_cons.mpr ⟨rfl, zs_nil⟩)⟩) ?_
  refine zt_X1_runBitTime_L37 hX hr hR hd (res := r) (out := out) a0 ?_ ?_ N _ _ g
  · intro o ho
    subst ho
    exact Option.some.inj h
  · intro  S7 hx
    subst hx
    try dsimp only at h
    refine zw_aload_n hX dX1_runBitTime_54 rfl ?_
    obtain ⟨_, gi, h⟩ := zb_some h
    obtain ⟨r9, g, h⟩ := zb_some h
    refine zc_Vi (as := []) hX gi (zt_X1_lineNow (d := d - 1) (by omega) g) zl_X1_77 rfl dX1_runBitTime_55 ⟨rfl, rfl, Nat.le_of_ble_eq_true rfl⟩ ⟨by omega, by omega⟩ ?_
    refine zw_istore_n hX dX1_runBitTime_58 (by decide) ?_
    refine zw_iconst (v := (0 : Int32)) hX dX1_runBitTime_59 (by decide) ?_
    refine zw_istore_n hX dX1_runBitTime_60 (by decide) ?_
    obtain ⟨r, g, h⟩ := zb_some h
    refine zw_sub (lv' := [(0, .ref a0), (1, .int r9.1), (2, .int (0 : Int32))]) (List.forall_mem_cons.mpr ⟨rfl, (List.forall_mem_cons.mpr ⟨rfl, (List.forall_mem_cons.mpr ⟨rfl, zs_nil⟩)⟩)⟩) ?_
    refine zt_X1_runBitTime_L61 hX hr hR hd (res := r) (out := out) a0 r9.1 ?_ ?_ N _ _ g
    · intro o ho
      subst ho
      exact Option.some.inj h
    · intro  S14 hx
      subst hx
      try dsimp only at h
      refine zw_aload_n hX dX1_runBitTime_84 rfl ?_
      refine zw_iload_n hX dX1_runBitTime_85 rfl ?_
      obtain ⟨_, gi, h⟩ := zb_some h
      obtain ⟨r16, g, h⟩ := zb_some h
      refine zc_Vv (as := [.int r9.1]) hX gi (zt_X1_hear (d := d - 1) (by omega) g) zl_X1_88 rfl dX1_runBitTime_86 ⟨rfl, rfl, Nat.le_of_ble_eq_true rfl⟩ ⟨by omega, by omega⟩ ?_
      refine zw_aload_n hX dX1_runBitTime_89 rfl ?_
      refine zw_iload_n hX dX1_runBitTime_90 rfl ?_
      refine zw_iconst (v := (1 : Int32)) hX dX1_runBitTime_91 (by decide) ?_
      refine zw_icmp_ne (tgt := 104) hX dX1_runBitTime_92 (by decide) (fun c92 => ?_) (fun c92 => ?_)
      · rw [if_neg c92] at h
        refine zw_iconst (v := (0 : Int32)) hX dX1_runBitTime_104 (by decide) ?_
        refine zw_sub (lv' := [(0, .ref a0)]) (List.forall_mem_cons.mpr ⟨rfl, zs_nil⟩) ?_
        exact zt_X1_runBitTime_J105 hX hr hR hd h
      · rw [if_pos c92] at h
        refine zw_aload_n hX dX1_runBitTime_95 rfl ?_
        obtain ⟨v25, g, h⟩ := zb_some h
        refine zw_geti hX zl_X1_26 dX1_runBitTime_96 g ?_
        refine zw_iconst (v := (1 : Int32)) hX dX1_runBitTime_99 (by decide) ?_
        refine zw_iadd hX dX1_runBitTime_100 ?_
        refine zw_goto (tgt := 105) hX dX1_runBitTime_101 (by decide) ?_
        refine zw_sub (lv' := [(0, .ref a0)]) (List.forall_mem_cons.mpr ⟨rfl, zs_nil⟩) ?_
        exact zt_X1_runBitTime_J105 hX hr hR hd h
set_option maxHeartbeats 4000000 in
set_option maxRecDepth 100000 in
theorem zt_X1_runBitTime {l : Launch} {V : zm_V} {N : Nat} {S : zm_S} {out : (Unit × zm_S)} {d : Nat} {a0 : Nat} (hd : 5 ≤ d) (h : zf_X1_runBitTime N a0 S = some out) : zm_Met l zk_E V yX1_runBitTime (.code yX1_runBitTime cX1_runBitTime 3 none) d [.ref a0] S 0 0 (zo_v out) zo_x := by
  refine zm_of (by decide +kernel) (Nat.le_of_ble_eq_true rfl) ?_
  intro p e R s m args below meth c hRR hX hr hxt
  have hR : R.frames = d ∧ R.locals = 64 * d := by rw [hRR]; exact ⟨rfl, rfl⟩
  have hX : zm_X p R s m args meth c RX1 "runBitTime" cX1_runBitTime 3 zk_E V 0 0 := hX
  unfold zf_X1_runBitTime at h
  refine zw_sub (lv' := [(0, .ref a0)]) (List.forall_mem_cons.mpr ⟨rfl, zs_nil⟩) ?_
  refine zw_aload_n hX dX1_runBitTime_0 rfl ?_
  refine zw_dup hX dX1_runBitTime_1 rfl ?_
  obtain ⟨v1, g, h⟩ := zb_some h
  refine zw_geti hX zl_X1_60 dX1_runBitTime_2 g ?_
  refine zw_iconst (v := (1 : Int32)) hX dX1_runBitTime_5 (by decide) ?_
  refine zw_iadd hX dX1_runBitTime_6 ?_
  obtain ⟨S2, g, h⟩ := zb_some h
  refine zw_putv hX zl_X1_60 zt_1_5 dX1_runBitTime_7 rfl rfl g ?_
  refine zw_aload_n hX dX1_runBitTime_10 rfl ?_
  obtain ⟨v3, g, h⟩ := zb_some h
  refine zw_geti hX zl_X1_60 dX1_runBitTime_11 g ?_
  refine zw_aload_n hX dX1_runBitTime_14 rfl ?_
  obtain ⟨v4, g, h⟩ := zb_some h
  refine zw_geti hX zl_X1_43 dX1_runBitTime_15 g ?_
  refine zw_bipush (v := (14 : Int32)) hX dX1_runBitTime_18 (by decide) ?_
  refine zw_iadd hX dX1_runBitTime_20 ?_
  refine zw_icmp_ne (tgt := 35) hX dX1_runBitTime_21 (by decide) (fun c21 => ?_) (fun c21 => ?_)
  · rw [if_neg c21] at h
    refine zw_sub (lv' := [(0, .ref a0)]) (List.forall_mem_cons.mpr ⟨rfl, zs_nil⟩) ?_
    exact zt_X1_runBitTime_J35 hX hr hR hd h
  · rw [if_pos c21] at h
    refine zw_aload_n hX dX1_runBitTime_24 rfl ?_
    obtain ⟨v26, g, h⟩ := zb_some h
    refine zw_geti hX zl_X1_66 dX1_runBitTime_25 g ?_
    refine zw_if_eq (tgt := 35) hX dX1_runBitTime_28 (by decide) (fun c28 => ?_) (fun c28 => ?_)
    · rw [if_pos c28] at h
      refine zw_sub (lv' := [(0, .ref a0)]) (List.forall_mem_cons.mpr ⟨rfl, zs_nil⟩) ?_
      exact zt_X1_runBitTime_J35 hX hr hR hd h
    · rw [if_neg c28] at h
      refine zw_aload_n hX dX1_runBitTime_31 rfl ?_
      obtain ⟨_, gi, h⟩ := zb_some h
      obtain ⟨r28, g, h⟩ := zb_some h
      refine zc_Vv (as := []) hX gi (zt_X1_beginAnswers (d := d - 1) (by omega) g) zl_X1_70 rfl dX1_runBitTime_32 ⟨rfl, rfl, Nat.le_of_ble_eq_true rfl⟩ ⟨by omega, by omega⟩ ?_
      refine zw_sub (lv' := [(0, .ref a0)]) (List.forall_mem_cons.mpr ⟨rfl, zs_nil⟩) ?_
      exact zt_X1_runBitTime_J35 hX hr hR hd h
set_option maxHeartbeats 4000000 in
set_option maxRecDepth 100000 in
theorem zt_X2_init {l : Launch} {V : zm_V} {N : Nat} {S : zm_S} {out : (Unit × zm_S)} {d : Nat} {a0 : Nat} {a1 : Nat} (hd : 2 ≤ d) (h : zf_X2_init N a0 a1 S = some out) : zm_Met l zk_E V yX2_init (.code yX2_init cX2_init 2 none) d [.ref a0, .ref a1] S 675 10565 (zo_v out) zo_x := by
  refine zm_of (by decide +kernel) (Nat.le_of_ble_eq_true rfl) ?_
  intro p e R s m args below meth c hRR hX hr hxt
  have hR : R.frames = d ∧ R.locals = 64 * d := by rw [hRR]; exact ⟨rfl, rfl⟩
  have hX : zm_X p R s m args meth c RX2 "<init>" cX2_init 2 zk_E V 675 10565 := hX
  unfold zf_X2_init at h
  refine zw_sub (lv' := [(0, .ref a0), (1, .ref a1)]) (List.forall_mem_cons.mpr ⟨rfl, (List.forall_mem_cons.mpr ⟨rfl, zs_nil⟩)⟩) ?_
  refine zw_aload_n hX dX2_init_0 rfl ?_
  refine zw_objInit hX zl_X2_5.1 zl_X2_5.2.1 zl_X2_5.2.2 dX2_init_1 (by omega) (by show 0 + 12 ≤ R.locals; omega) ?_
  refine zw_aload_n hX dX2_init_4 rfl ?_
  refine zw_iconst (v := (2 : Int32)) hX dX2_init_5 (by decide) ?_
  refine zw_sipush (v := (625 : Int32)) hX dX2_init_6 (by decide) ?_
  obtain ⟨S1, g, h⟩ := zb_some h
  refine zw_mnao (N := 2) (K := 625) (t1 := 4) (t2 := 0) (ty := .int) hX rfl rfl zl_X2_11 (by decide +kernel) (Or.inl rfl) zk_ai dX2_init_9 (fun _ _ => rfl) (by decide) (by decide) rfl rfl (Nat.le_of_ble_eq_true rfl) (Nat.le_of_ble_eq_true rfl) (Nat.le_of_ble_eq_true rfl) rfl rfl (fun _ h => by cases h) (by omega) (by omega) g ?_
  obtain ⟨S2, g, h⟩ := zb_some h
  refine zw_putvF hX zl_X2_13 zt_2_4 dX2_init_13 rfl rfl g ?_
  refine zw_aload_n hX dX2_init_16 rfl ?_
  refine zw_sipush (v := (625 : Int32)) hX dX2_init_17 (by decide) ?_
  obtain ⟨S3, g, h⟩ := zb_some h
  refine zw_nb (b := 625) hX zk_ab dX2_init_20 (by omega) (by omega) (by decide) g ?_
  obtain ⟨S4, g, h⟩ := zb_some h
  refine zw_putvF hX zl_X2_16 zt_2_5 dX2_init_22 rfl rfl g ?_
  refine zw_aload_n hX dX2_init_25 rfl ?_
  refine zw_sipush (v := (576 : Int32)) hX dX2_init_26 (by decide) ?_
  obtain ⟨S5, g, h⟩ := zb_some h
  refine zw_ni (b := 576) hX zk_ai dX2_init_29 (by omega) (by omega) (by decide) g ?_
  obtain ⟨S6, g, h⟩ := zb_some h
  refine zw_putv hX zl_X2_20 zt_2_6 dX2_init_31 rfl rfl g ?_
  refine zw_aload_n hX dX2_init_34 rfl ?_
  refine zw_sipush (v := (576 : Int32)) hX dX2_init_35 (by decide) ?_
  obtain ⟨S7, g, h⟩ := zb_some h
  refine zw_ni (b := 576) hX zk_ai dX2_init_38 (by omega) (by omega) (by decide) g ?_
  obtain ⟨S8, g, h⟩ := zb_some h
  refine zw_putv hX zl_X2_24 zt_2_7 dX2_init_40 rfl rfl g ?_
  refine zw_aload_n hX dX2_init_43 rfl ?_
  refine zw_bipush (v := (100 : Int32)) hX dX2_init_44 (by decide) ?_
  obtain ⟨S9, g, h⟩ := zb_some h
  refine zw_ni (b := 100) hX zk_ai dX2_init_46 (by omega) (by omega) (by decide) g ?_
  obtain ⟨S10, g, h⟩ := zb_some h
  refine zw_putv hX zl_X2_27 zt_2_8 dX2_init_48 rfl rfl g ?_
  refine zw_aload_n hX dX2_init_51 rfl ?_
  refine zw_bipush (v := (100 : Int32)) hX dX2_init_52 (by decide) ?_
  obtain ⟨S11, g, h⟩ := zb_some h
  refine zw_ni (b := 100) hX zk_ai dX2_init_54 (by omega) (by omega) (by decide) g ?_
  obtain ⟨S12, g, h⟩ := zb_some h
  refine zw_putv hX zl_X2_30 zt_2_9 dX2_init_56 rfl rfl g ?_
  refine zw_aload_n hX dX2_init_59 rfl ?_
  refine zw_bipush (v := (100 : Int32)) hX dX2_init_60 (by decide) ?_
  obtain ⟨S13, g, h⟩ := zb_some h
  refine zw_ni (b := 100) hX zk_ai dX2_init_62 (by omega) (by omega) (by decide) g ?_
  obtain ⟨S14, g, h⟩ := zb_some h
  refine zw_putvF hX zl_X2_33 zt_2_10 dX2_init_64 rfl rfl g ?_
  refine zw_aload_n hX dX2_init_67 rfl ?_
  refine zw_bipush (v := (100 : Int32)) hX dX2_init_68 (by decide) ?_
  obtain ⟨S15, g, h⟩ := zb_some h
  refine zw_ni (b := 100) hX zk_ai dX2_init_70 (by omega) (by omega) (by decide) g ?_
  obtain ⟨S16, g, h⟩ := zb_some h
  refine zw_putvF hX zl_X2_36 zt_2_11 dX2_init_72 rfl rfl g ?_
  refine zw_aload_n hX dX2_init_75 rfl ?_
  refine zw_sipush (v := (220 : Int32)) hX dX2_init_76 (by decide) ?_
  refine zw_iconst (v := (3 : Int32)) hX dX2_init_79 (by decide) ?_
  obtain ⟨S17, g, h⟩ := zb_some h
  refine zw_mnao (N := 220) (K := 3) (t1 := 4) (t2 := 0) (ty := .int) hX rfl rfl zl_X2_11 (by decide +kernel) (Or.inl rfl) zk_ai dX2_init_80 (fun _ _ => rfl) (by decide) (by decide) rfl rfl (Nat.le_of_ble_eq_true rfl) (Nat.le_of_ble_eq_true rfl) (Nat.le_of_ble_eq_true rfl) rfl rfl (fun _ h => by cases h) (by omega) (by omega) g ?_
  obtain ⟨S18, g, h⟩ := zb_some h
  refine zw_putvF hX zl_X2_39 zt_2_13 dX2_init_84 rfl rfl g ?_
  refine zw_aload_n hX dX2_init_87 rfl ?_
  refine zw_sipush (v := (440 : Int32)) hX dX2_init_88 (by decide) ?_
  refine zw_bipush (v := (6 : Int32)) hX dX2_init_91 (by decide) ?_
  obtain ⟨S19, g, h⟩ := zb_some h
  refine zw_mnao (N := 440) (K := 6) (t1 := 4) (t2 := 0) (ty := .int) hX rfl rfl zl_X2_11 (by decide +kernel) (Or.inl rfl) zk_ai dX2_init_93 (fun _ _ => rfl) (by decide) (by decide) rfl rfl (Nat.le_of_ble_eq_true rfl) (Nat.le_of_ble_eq_true rfl) (Nat.le_of_ble_eq_true rfl) rfl rfl (fun _ h => by cases h) (by omega) (by omega) g ?_
  obtain ⟨S20, g, h⟩ := zb_some h
  refine zw_putvF hX zl_X2_42 zt_2_15 dX2_init_97 rfl rfl g ?_
  refine zw_aload_n hX dX2_init_100 rfl ?_
  refine zw_sipush (v := (2500 : Int32)) hX dX2_init_101 (by decide) ?_
  obtain ⟨S21, g, h⟩ := zb_some h
  refine zw_nb (b := 2500) hX zk_ab dX2_init_104 (by omega) (by omega) (by decide) g ?_
  obtain ⟨S22, g, h⟩ := zb_some h
  refine zw_putvF hX zl_X2_45 zt_2_16 dX2_init_106 rfl rfl g ?_
  refine zw_aload_n hX dX2_init_109 rfl ?_
  refine zw_sipush (v := (576 : Int32)) hX dX2_init_110 (by decide) ?_
  obtain ⟨S23, g, h⟩ := zb_some h
  refine zw_ni (b := 576) hX zk_ai dX2_init_113 (by omega) (by omega) (by decide) g ?_
  obtain ⟨S24, g, h⟩ := zb_some h
  refine zw_putvF hX zl_X2_48 zt_2_17 dX2_init_115 rfl rfl g ?_
  refine zw_aload_n hX dX2_init_118 rfl ?_
  refine zw_bipush (v := (100 : Int32)) hX dX2_init_119 (by decide) ?_
  obtain ⟨S25, g, h⟩ := zb_some h
  refine zw_ni (b := 100) hX zk_ai dX2_init_121 (by omega) (by omega) (by decide) g ?_
  obtain ⟨S26, g, h⟩ := zb_some h
  refine zw_putvF hX zl_X2_51 zt_2_18 dX2_init_123 rfl rfl g ?_
  refine zw_aload_n hX dX2_init_126 rfl ?_
  refine zw_aload_n hX dX2_init_127 rfl ?_
  obtain ⟨S27, g, h⟩ := zb_some h
  refine zw_putvF hX zl_X2_54 zt_2_0 dX2_init_128 rfl rfl g ?_
  obtain rfl := Option.some.inj h
  exact zw_vret hX hr dX2_init_131 ⟨rfl, rfl⟩
set_option maxHeartbeats 4000000 in
set_option maxRecDepth 100000 in
theorem zt_X2_cellNumber {l : Launch} {V : zm_V} {N : Nat} {S : zm_S} {out : (Int32 × zm_S)} {d : Nat} {i0 : Int32} {i1 : Int32} (hd : 1 ≤ d) (h : zf_X2_cellNumber N i0 i1 S = some out) : zm_Met l zk_E V yX2_cellNumber (.code yX2_cellNumber cX2_cellNumber 2 (some .int)) d [.int i0, .int i1] S 0 0 (zo_i out) zo_x := by
  refine zm_of (by decide +kernel) (Nat.le_of_ble_eq_true rfl) ?_
  intro p e R s m args below meth c hRR hX hr hxt
  have hR : R.frames = d ∧ R.locals = 64 * d := by rw [hRR]; exact ⟨rfl, rfl⟩
  have hX : zm_X p R s m args meth c RX2 "cellNumber" cX2_cellNumber 2 zk_E V 0 0 := hX
  unfold zf_X2_cellNumber at h
  refine zw_sub (lv' := [(0, .int i0), (1, .int i1)]) (List.forall_mem_cons.mpr ⟨rfl, (List.forall_mem_cons.mpr ⟨rfl, zs_nil⟩)⟩) ?_
  refine zw_iload_n hX dX2_cellNumber_0 rfl ?_
  refine zw_bipush (v := (24 : Int32)) hX dX2_cellNumber_1 (by decide) ?_
  refine zw_imul hX dX2_cellNumber_3 ?_
  refine zw_iload_n hX dX2_cellNumber_4 rfl ?_
  refine zw_iadd hX dX2_cellNumber_5 ?_
  obtain rfl := Option.some.inj h
  exact zw_iret hX hr dX2_cellNumber_6 rfl ⟨rfl, rfl⟩
set_option maxHeartbeats 4000000 in
set_option maxRecDepth 100000 in
theorem zt_X2_swapBefore {l : Launch} {V : zm_V} {N : Nat} {S : zm_S} {out : (Unit × zm_S)} {d : Nat} {a0 : Nat} (hd : 1 ≤ d) (h : zf_X2_swapBefore N a0 S = some out) : zm_Met l zk_E V yX2_swapBefore (.code yX2_swapBefore cX2_swapBefore 3 none) d [.ref a0] S 0 0 (zo_v out) zo_x := by
  refine zm_of (by decide +kernel) (Nat.le_of_ble_eq_true rfl) ?_
  intro p e R s m args below meth c hRR hX hr hxt
  have hR : R.frames = d ∧ R.locals = 64 * d := by rw [hRR]; exact ⟨rfl, rfl⟩
  have hX : zm_X p R s m args meth c RX2 "swapBefore" cX2_swapBefore 3 zk_E V 0 0 := hX
  unfold zf_X2_swapBefore at h
  refine zw_sub (lv' := [(0, .ref a0)]) (List.forall_mem_cons.mpr ⟨rfl, zs_nil⟩) ?_
  refine zw_aload_n hX dX2_swapBefore_0 rfl ?_
  obtain ⟨b1, g, h⟩ := zb_some h
  refine zw_getr hX zl_X2_24 dX2_swapBefore_1 g ?_
  refine zw_astore_n hX dX2_swapBefore_4 (by decide) ?_
  refine zw_aload_n hX dX2_swapBefore_5 rfl ?_
  refine zw_aload_n hX dX2_swapBefore_6 rfl ?_
  obtain ⟨b2, g, h⟩ := zb_some h
  refine zw_getr hX zl_X2_20 dX2_swapBefore_7 g ?_
  obtain ⟨S3, g, h⟩ := zb_some h
  refine zw_putv hX zl_X2_24 zt_2_7 dX2_swapBefore_10 rfl rfl g ?_
  refine zw_aload_n hX dX2_swapBefore_13 rfl ?_
  refine zw_aload_n hX dX2_swapBefore_14 rfl ?_
  obtain ⟨S4, g, h⟩ := zb_some h
  refine zw_putv hX zl_X2_20 zt_2_6 dX2_swapBefore_15 rfl rfl g ?_
  refine zw_aload_n hX dX2_swapBefore_18 rfl ?_
  obtain ⟨b5, g, h⟩ := zb_some h
  refine zw_getr hX zl_X2_30 dX2_swapBefore_19 g ?_
  refine zw_astore_n hX dX2_swapBefore_22 (by decide) ?_
  refine zw_aload_n hX dX2_swapBefore_23 rfl ?_
  refine zw_aload_n hX dX2_swapBefore_24 rfl ?_
  obtain ⟨b6, g, h⟩ := zb_some h
  refine zw_getr hX zl_X2_27 dX2_swapBefore_25 g ?_
  obtain ⟨S7, g, h⟩ := zb_some h
  refine zw_putv hX zl_X2_30 zt_2_9 dX2_swapBefore_28 rfl rfl g ?_
  refine zw_aload_n hX dX2_swapBefore_31 rfl ?_
  refine zw_aload_n hX dX2_swapBefore_32 rfl ?_
  obtain ⟨S8, g, h⟩ := zb_some h
  refine zw_putv hX zl_X2_27 zt_2_8 dX2_swapBefore_33 rfl rfl g ?_
  obtain rfl := Option.some.inj h
  exact zw_vret hX hr dX2_swapBefore_36 ⟨rfl, rfl⟩
set_option maxHeartbeats 4000000 in
set_option maxRecDepth 100000 in
theorem zt_J7_fill_53178_L5 {p : Program} {l : Launch} {e : Env} {R : Room} {s : State} {m : MethodId} {args : Array Value} {below : List Frame} {meth : Method} {c : Code} {V : zm_V} {mc ms d rc rs : Nat} (hX : zm_X p R s m args meth c RJ7 "fill" cJ7_fill_53178 4 zk_E V mc ms) (hr : meth.sig.returnType = none) (hR : R.frames = d ∧ R.locals = 64 * d) (hd : 1 ≤ d) {N : Nat} {res : (Unit × zm_S) ⊕ ((Unit) × zm_S)} {out : (Unit × zm_S)} (a0 : Nat) (i1 : Int32) (i3 : Int32) (hf : ∀ o, res = .inl o → o = out) (hk : ∀ (S' : zm_S), res = .inr ((), S') → zw p l e R s m args below meth c (vx_MQ below (zm_Qc zk_E V (zo_v out)) (zm_XC zk_E V zo_x) args s mc ms (fun q => V.2.2.2.1 ≤ q)) 4 zk_E V mc ms 20 [] [] S' rc rs) : ∀ (n : Nat) (i2 : Int32) (S : zm_S), zf_J7_fill_53178_L5 N n a0 i1 i2 i3 S = some res → zw p l e R s m args below meth c (vx_MQ below (zm_Qc zk_E V (zo_v out)) (zm_XC zk_E V zo_x) args s mc ms (fun q => V.2.2.2.1 ≤ q)) 4 zk_E V mc ms 5 [(0, .ref a0), (1, .int i1), (2, .int i2), (3, .int i3)] [] S rc rs := by
  intro n
  induction n with
  | zero => intro i2 S h; cases h
  | succ n ih =>
    intro i2 S h
    rw [zf_J7_fill_53178_L5] at h
    refine zw_iload_n hX dJ7_fill_53178_5 rfl ?_
    refine zw_iload_n hX dJ7_fill_53178_6 rfl ?_
    refine zw_icmp_ge (tgt := 20) hX dJ7_fill_53178_7 (by decide) (fun c7 => ?_) (fun c7 => ?_)
    · rw [if_pos c7] at h
      refine zw_sub (lv' := []) zs_nil ?_
      exact hk  _ (Option.some.inj h).symm
    · rw [if_neg c7] at h
      refine zw_aload_n hX dJ7_fill_53178_10 rfl ?_
      refine zw_iload_n hX dJ7_fill_53178_11 rfl ?_
      refine zw_iload_n hX dJ7_fill_53178_12 rfl ?_
      obtain ⟨S2, g, h⟩ := zb_some h
      refine zw_si hX dJ7_fill_53178_13 g ?_
      refine zw_iinc (v := (i2 + (1 : Int32))) hX dJ7_fill_53178_14 rfl rfl (by decide) ?_
      refine zw_goto (tgt := 5) hX dJ7_fill_53178_17 (by decide) ?_
      refine zw_sub (lv' := [(0, .ref a0), (1, .int i1), (2, .int (i2 + (1 : Int32))), (3, .int i3)]) (List.forall_mem_cons.mpr ⟨rfl, (List.forall_mem_cons.mpr ⟨rfl, (List.forall_mem_cons.mpr ⟨rfl, (List.forall_mem_cons.mpr ⟨rfl, zs_nil⟩)⟩)⟩)⟩) ?_
      exact ih _ _ h
set_option maxHeartbeats 4000000 in
set_option maxRecDepth 100000 in
theorem zt_J7_fill_53178 {l : Launch} {V : zm_V} {N : Nat} {S : zm_S} {out : (Unit × zm_S)} {d : Nat} {a0 : Nat} {i1 : Int32} (hd : 1 ≤ d) (h : zf_J7_fill_53178 N a0 i1 S = some out) : zm_Met l zk_E V yJ7_fill_53178 (.code yJ7_fill_53178 cJ7_fill_53178 4 none) d [.ref a0, .int i1] S 0 0 (zo_v out) zo_x := by
  refine zm_of (by decide +kernel) (Nat.le_of_ble_eq_true rfl) ?_
  intro p e R s m args below meth c hRR hX hr hxt
  have hR : R.frames = d ∧ R.locals = 64 * d := by rw [hRR]; exact ⟨rfl, rfl⟩
  have hX : zm_X p R s m args meth c RJ7 "fill" cJ7_fill_53178 4 zk_E V 0 0 := hX
  unfold zf_J7_fill_53178 at h
  refine zw_sub (lv' := [(0, .ref a0), (1, .int i1)]) (List.forall_mem_cons.mpr ⟨rfl, (List.forall_mem_cons.mpr ⟨rfl, zs_nil⟩)⟩) ?_
  refine zw_iconst (v := (0 : Int32)) hX dJ7_fill_53178_0 (by decide) ?_
  refine zw_istore_n hX dJ7_fill_53178_1 (by decide) ?_
  refine zw_aload_n hX dJ7_fill_53178_2 rfl ?_
  obtain ⟨v1, g, h⟩ := zb_some h
  refine zw_len hX dJ7_fill_53178_3 g ?_
  refine zw_istore_n hX dJ7_fill_53178_4 (by decide) ?_
  obtain ⟨r, g, h⟩ := zb_some h
  refine zw_sub (lv' := [(0, .ref a0), (1, .int i1), (2, .int (0 : Int32)), (3, .int v1)]) (List.forall_mem_cons.mpr ⟨rfl, (List.forall_mem_cons.mpr ⟨rfl, (List.forall_mem_cons.mpr ⟨rfl, (List.forall_mem_cons.mpr ⟨rfl, zs_nil⟩)⟩)⟩)⟩) ?_
  refine zt_J7_fill_53178_L5 hX hr hR hd (res := r) (out := out) a0 i1 v1 ?_ ?_ N _ _ g
  · intro o ho
    subst ho
    exact Option.some.inj h
  · intro  S3 hx
    subst hx
    try dsimp only at h
    obtain rfl := Option.some.inj h
    exact zw_vret hX hr dJ7_fill_53178_20 ⟨rfl, rfl⟩
set_option maxHeartbeats 4000000 in
set_option maxRecDepth 100000 in
theorem zt_X8_lengthOf {l : Launch} {V : zm_V} {N : Nat} {S : zm_S} {out : (Int32 × zm_S)} {d : Nat} {a0 : Nat} {i1 : Int32} (hd : 1 ≤ d) (h : zf_X8_lengthOf N a0 i1 S = some out) : zm_Met l zk_E V yX8_lengthOf (.code yX8_lengthOf cX8_lengthOf 3 (some .int)) d [.ref a0, .int i1] S 0 0 (zo_i out) zo_x := by
  refine zm_of (by decide +kernel) (Nat.le_of_ble_eq_true rfl) ?_
  intro p e R s m args below meth c hRR hX hr hxt
  have hR : R.frames = d ∧ R.locals = 64 * d := by rw [hRR]; exact ⟨rfl, rfl⟩
  have hX : zm_X p R s m args meth c RX8 "lengthOf" cX8_lengthOf 3 zk_E V 0 0 := hX
  unfold zf_X8_lengthOf at h
  refine zw_sub (lv' := [(0, .ref a0), (1, .int i1)]) (List.forall_mem_cons.mpr ⟨rfl, (List.forall_mem_cons.mpr ⟨rfl, zs_nil⟩)⟩) ?_
  refine zw_aload_n hX dX8_lengthOf_0 rfl ?_
  obtain ⟨b1, g, h⟩ := zb_some h
  refine zw_getr hX zl_X8_13 dX8_lengthOf_1 g ?_
  refine zw_iload_n hX dX8_lengthOf_4 rfl ?_
  obtain ⟨b2, g, h⟩ := zb_some h
  refine zw_xr hX dX8_lengthOf_5 g ?_
  refine zw_astore_n hX dX8_lengthOf_6 (by decide) ?_
  refine zw_aload_n hX dX8_lengthOf_7 rfl ?_
  refine zw_iconst (v := (2 : Int32)) hX dX8_lengthOf_8 (by decide) ?_
  obtain ⟨v3, g, h⟩ := zb_some h
  refine zw_xi hX dX8_lengthOf_9 g ?_
  refine zw_aload_n hX dX8_lengthOf_10 rfl ?_
  refine zw_iconst (v := (0 : Int32)) hX dX8_lengthOf_11 (by decide) ?_
  obtain ⟨v4, g, h⟩ := zb_some h
  refine zw_xi hX dX8_lengthOf_12 g ?_
  refine zw_isub hX dX8_lengthOf_13 ?_
  refine zw_aload_n hX dX8_lengthOf_14 rfl ?_
  refine zw_iconst (v := (3 : Int32)) hX dX8_lengthOf_15 (by decide) ?_
  obtain ⟨v5, g, h⟩ := zb_some h
  refine zw_xi hX dX8_lengthOf_16 g ?_
  refine zw_iadd hX dX8_lengthOf_17 ?_
  refine zw_aload_n hX dX8_lengthOf_18 rfl ?_
  refine zw_iconst (v := (1 : Int32)) hX dX8_lengthOf_19 (by decide) ?_
  obtain ⟨v6, g, h⟩ := zb_some h
  refine zw_xi hX dX8_lengthOf_20 g ?_
  refine zw_isub hX dX8_lengthOf_21 ?_
  obtain rfl := Option.some.inj h
  exact zw_iret hX hr dX8_lengthOf_22 rfl ⟨rfl, rfl⟩
set_option maxHeartbeats 4000000 in
set_option maxRecDepth 100000 in
theorem zt_X2_drawWalls_J116 {p : Program} {l : Launch} {e : Env} {R : Room} {s : State} {m : MethodId} {args : Array Value} {below : List Frame} {meth : Method} {c : Code} {V : zm_V} {mc ms d rc rs : Nat} (hX : zm_X p R s m args meth c RX2 "drawWalls" cX2_drawWalls 6 zk_E V mc ms) (hr : meth.sig.returnType = none) (hR : R.frames = d ∧ R.locals = 64 * d) (hd : 2 ≤ d) {N : Nat} {k : Nat → Int32 → Int32 → Int32 → Int32 → Int32 → zm_S → Option ((Unit × zm_S) ⊕ ((Unit) × zm_S))} {a0 : Nat} {i1 : Int32} {i2 : Int32} {i3 : Int32} {i4 : Int32} {i5 : Int32} {t0 : Nat} {t1 : Int32} {t2 : Int32} {t3 : Int32} {res : (Unit × zm_S) ⊕ ((Unit) × zm_S)} {out : (Unit × zm_S)}   (hf : ∀ o, res = .inl o → o = out) (hk : ∀ (S' : zm_S), res = .inr ((), S') → zw p l e R s m args below meth c (vx_MQ below (zm_Qc zk_E V (zo_v out)) (zm_XC zk_E V zo_x) args s mc ms (fun q => V.2.2.2.1 ≤ q)) 6 zk_E V mc ms 126 [(0, .ref a0), (1, .int i1)] [] S' rc rs) (hrec : ∀ (i5' : Int32) (S : zm_S), k a0 i1 i2 i3 i4 i5' S = some res → zw p l e R s m args below meth c (vx_MQ below (zm_Qc zk_E V (zo_v out)) (zm_XC zk_E V zo_x) args s mc ms (fun q => V.2.2.2.1 ≤ q)) 6 zk_E V mc ms 82 [(0, .ref a0), (1, .int i1), (2, .int i2), (3, .int i3), (4, .int i4), (5, .int i5')] [] S rc rs) {S : zm_S} (h : zf_X2_drawWalls_J116 N k a0 i1 i2 i3 i4 i5 t0 t1 t2 t3 S = some res) : zw p l e R s m args below meth c (vx_MQ below (zm_Qc zk_E V (zo_v out)) (zm_XC zk_E V zo_x) args s mc ms (fun q => V.2.2.2.1 ≤ q)) 6 zk_E V mc ms 116 [(0, .ref a0), (1, .int i1), (2, .int i2), (3, .int i3), (4, .int i4), (5, .int i5)] [.int t3, .int t2, .int t1, .ref t0] S rc rs := by
  unfold zf_X2_drawWalls_J116 at h
  refine zw_imul hX dX2_drawWalls_116 ?_
  refine zw_iadd hX dX2_drawWalls_117 ?_
  refine zw_iload_n hX dX2_drawWalls_118 rfl ?_
  obtain ⟨S27, g, h⟩ := zb_some h
  refine zw_si hX dX2_drawWalls_119 g ?_
  refine zw_iinc (v := (i5 + (1 : Int32))) hX dX2_drawWalls_120 rfl rfl (by decide) ?_
  refine zw_goto (tgt := 82) hX dX2_drawWalls_123 (by decide) ?_
  refine zw_sub (lv' := [(0, .ref a0), (1, .int i1), (2, .int i2), (3, .int i3), (4, .int i4), (5, .int (i5 + (1 : Int32)))]) (List.forall_mem_cons.mpr ⟨rfl, (List.forall_mem_cons.mpr ⟨rfl, (List.forall_mem_cons.mpr ⟨rfl, (List.forall_mem_cons.mpr ⟨rfl, (List.forall_mem_cons.mpr ⟨rfl, (List.forall_mem_cons.mpr ⟨rfl, zs_nil⟩)⟩)⟩)⟩)⟩)⟩) ?_
  exact hrec _ _ h
set_option maxHeartbeats 4000000 in
set_option maxRecDepth 100000 in
theorem zt_X2_drawWalls_J102 {p : Program} {l : Launch} {e : Env} {R : Room} {s : State} {m : MethodId} {args : Array Value} {below : List Frame} {meth : Method} {c : Code} {V : zm_V} {mc ms d rc rs : Nat} (hX : zm_X p R s m args meth c RX2 "drawWalls" cX2_drawWalls 6 zk_E V mc ms) (hr : meth.sig.returnType = none) (hR : R.frames = d ∧ R.locals = 64 * d) (hd : 2 ≤ d) {N : Nat} {k : Nat → Int32 → Int32 → Int32 → Int32 → Int32 → zm_S → Option ((Unit × zm_S) ⊕ ((Unit) × zm_S))} {a0 : Nat} {i1 : Int32} {i2 : Int32} {i3 : Int32} {i4 : Int32} {i5 : Int32} {t0 : Nat} {t1 : Int32} {res : (Unit × zm_S) ⊕ ((Unit) × zm_S)} {out : (Unit × zm_S)}   (hf : ∀ o, res = .inl o → o = out) (hk : ∀ (S' : zm_S), res = .inr ((), S') → zw p l e R s m args below meth c (vx_MQ below (zm_Qc zk_E V (zo_v out)) (zm_XC zk_E V zo_x) args s mc ms (fun q => V.2.2.2.1 ≤ q)) 6 zk_E V mc ms 126 [(0, .ref a0), (1, .int i1)] [] S' rc rs) (hrec : ∀ (i5' : Int32) (S : zm_S), k a0 i1 i2 i3 i4 i5' S = some res → zw p l e R s m args below meth c (vx_MQ below (zm_Qc zk_E V (zo_v out)) (zm_XC zk_E V zo_x) args s mc ms (fun q => V.2.2.2.1 ≤ q)) 6 zk_E V mc ms 82 [(0, .ref a0), (1, .int i1), (2, .int i2), (3, .int i3), (4, .int i4), (5, .int i5')] [] S rc rs) {S : zm_S} (h : zf_X2_drawWalls_J102 N k a0 i1 i2 i3 i4 i5 t0 t1 S = some res) : zw p l e R s m args below meth c (vx_MQ below (zm_Qc zk_E V (zo_v out)) (zm_XC zk_E V zo_x) args s mc ms (fun q => V.2.2.2.1 ≤ q)) 6 zk_E V mc ms 102 [(0, .ref a0), (1, .int i1), (2, .int i2), (3, .int i3), (4, .int i4), (5, .int i5)] [.int t1, .ref t0] S rc rs := by
  unfold zf_X2_drawWalls_J102 at h
  obtain ⟨b26, g, h⟩ := zb_some h
  refine zw_xr hX dX2_drawWalls_102 g ?_
  refine zw_iload_n hX dX2_drawWalls_103 rfl ?_
  refine zw_iload hX dX2_drawWalls_104 rfl ?_
  refine zw_iload_n hX dX2_drawWalls_106 rfl ?_
  refine zw_if_eq (tgt := 115) hX dX2_drawWalls_107 (by decide) (fun c107 => ?_) (fun c107 => ?_)
  · rw [if_pos c107] at h
    refine zw_iconst (v := (1 : Int32)) hX dX2_drawWalls_115 (by decide) ?_
    refine zw_sub (lv' := [(0, .ref a0), (1, .int i1), (2, .int i2), (3, .int i3), (4, .int i4), (5, .int i5)]) (List.forall_mem_cons.mpr ⟨rfl, (List.forall_mem_cons.mpr ⟨rfl, (List.forall_mem_cons.mpr ⟨rfl, (List.forall_mem_cons.mpr ⟨rfl, (List.forall_mem_cons.mpr ⟨rfl, (List.forall_mem_cons.mpr ⟨rfl, zs_nil⟩)⟩)⟩)⟩)⟩)⟩) ?_
    exact zt_X2_drawWalls_J116 hX hr hR hd hf hk hrec h
  · rw [if_neg c107] at h
    refine zw_bipush (v := (25 : Int32)) hX dX2_drawWalls_110 (by decide) ?_
    refine zw_goto (tgt := 116) hX dX2_drawWalls_112 (by decide) ?_
    refine zw_sub (lv' := [(0, .ref a0), (1, .int i1), (2, .int i2), (3, .int i3), (4, .int i4), (5, .int i5)]) (List.forall_mem_cons.mpr ⟨rfl, (List.forall_mem_cons.mpr ⟨rfl, (List.forall_mem_cons.mpr ⟨rfl, (List.forall_mem_cons.mpr ⟨rfl, (List.forall_mem_cons.mpr ⟨rfl, (List.forall_mem_cons.mpr ⟨rfl, zs_nil⟩)⟩)⟩)⟩)⟩)⟩) ?_
    exact zt_X2_drawWalls_J116 hX hr hR hd hf hk hrec h
set_option maxHeartbeats 4000000 in
set_option maxRecDepth 100000 in
theorem zt_X2_drawWalls_L82 {p : Program} {l : Launch} {e : Env} {R : Room} {s : State} {m : MethodId} {args : Array Value} {below : List Frame} {meth : Method} {c : Code} {V : zm_V} {mc ms d rc rs : Nat} (hX : zm_X p R s m args meth c RX2 "drawWalls" cX2_drawWalls 6 zk_E V mc ms) (hr : meth.sig.returnType = none) (hR : R.frames = d ∧ R.locals = 64 * d) (hd : 2 ≤ d) {N : Nat} {res : (Unit × zm_S) ⊕ ((Unit) × zm_S)} {out : (Unit × zm_S)} (a0 : Nat) (i1 : Int32) (i2 : Int32) (i3 : Int32) (i4 : Int32) (hf : ∀ o, res = .inl o → o = out) (hk : ∀ (S' : zm_S), res = .inr ((), S') → zw p l e R s m args below meth c (vx_MQ below (zm_Qc zk_E V (zo_v out)) (zm_XC zk_E V zo_x) args s mc ms (fun q => V.2.2.2.1 ≤ q)) 6 zk_E V mc ms 126 [(0, .ref a0), (1, .int i1)] [] S' rc rs) : ∀ (n : Nat) (i5 : Int32) (S : zm_S), zf_X2_drawWalls_L82 N n a0 i1 i2 i3 i4 i5 S = some res → zw p l e R s m args below meth c (vx_MQ below (zm_Qc zk_E V (zo_v out)) (zm_XC zk_E V zo_x) args s mc ms (fun q => V.2.2.2.1 ≤ q)) 6 zk_E V mc ms 82 [(0, .ref a0), (1, .int i1), (2, .int i2), (3, .int i3), (4, .int i4), (5, .int i5)] [] S rc rs := by
  intro n
  induction n with
  | zero => intro i5 S h; cases h
  | succ n ih =>
    intro i5 S h
    rw [zf_X2_drawWalls_L82] at h
    refine zw_iload hX dX2_drawWalls_82 rfl ?_
    refine zw_iload hX dX2_drawWalls_84 rfl ?_
    refine zw_icmp_ge (tgt := 126) hX dX2_drawWalls_86 (by decide) (fun c86 => ?_) (fun c86 => ?_)
    · rw [if_pos c86] at h
      refine zw_sub (lv' := [(0, .ref a0), (1, .int i1)]) (List.forall_mem_cons.mpr ⟨rfl, (List.forall_mem_cons.mpr ⟨rfl, zs_nil⟩)⟩) ?_
      exact hk  _ (Option.some.inj h).symm
    · rw [if_neg c86] at h
      refine zw_aload_n hX dX2_drawWalls_89 rfl ?_
      obtain ⟨b25, g, h⟩ := zb_some h
      refine zw_getr hX zl_X2_13 dX2_drawWalls_90 g ?_
      refine zw_iload_n hX dX2_drawWalls_93 rfl ?_
      refine zw_if_eq (tgt := 101) hX dX2_drawWalls_94 (by decide) (fun c94 => ?_) (fun c94 => ?_)
      · rw [if_pos c94] at h
        refine zw_iconst (v := (1 : Int32)) hX dX2_drawWalls_101 (by decide) ?_
        refine zw_sub (lv' := [(0, .ref a0), (1, .int i1), (2, .int i2), (3, .int i3), (4, .int i4), (5, .int i5)]) (List.forall_mem_cons.mpr ⟨rfl, (List.forall_mem_cons.mpr ⟨rfl, (List.forall_mem_cons.mpr ⟨rfl, (List.forall_mem_cons.mpr ⟨rfl, (List.forall_mem_cons.mpr ⟨rfl, (List.forall_mem_cons.mpr ⟨rfl, zs_nil⟩)⟩)⟩)⟩)⟩)⟩) ?_
        exact zt_X2_drawWalls_J102 hX hr hR hd hf hk ih h
      · rw [if_neg c94] at h
        refine zw_iconst (v := (0 : Int32)) hX dX2_drawWalls_97 (by decide) ?_
        refine zw_goto (tgt := 102) hX dX2_drawWalls_98 (by decide) ?_
        refine zw_sub (lv' := [(0, .ref a0), (1, .int i1), (2, .int i2), (3, .int i3), (4, .int i4), (5, .int i5)]) (List.forall_mem_cons.mpr ⟨rfl, (List.forall_mem_cons.mpr ⟨rfl, (List.forall_mem_cons.mpr ⟨rfl, (List.forall_mem_cons.mpr ⟨rfl, (List.forall_mem_cons.mpr ⟨rfl, (List.forall_mem_cons.mpr ⟨rfl, zs_nil⟩)⟩)⟩)⟩)⟩)⟩) ?_
        exact zt_X2_drawWalls_J102 hX hr hR hd hf hk ih h
set_option maxHeartbeats 4000000 in
set_option maxRecDepth 100000 in
theorem zt_X2_drawWalls_L22 {p : Program} {l : Launch} {e : Env} {R : Room} {s : State} {m : MethodId} {args : Array Value} {below : List Frame} {meth : Method} {c : Code} {V : zm_V} {mc ms d rc rs : Nat} (hX : zm_X p R s m args meth c RX2 "drawWalls" cX2_drawWalls 6 zk_E V mc ms) (hr : meth.sig.returnType = none) (hR : R.frames = d ∧ R.locals = 64 * d) (hd : 2 ≤ d) {N : Nat} {res : (Unit × zm_S) ⊕ ((Unit) × zm_S)} {out : (Unit × zm_S)} (a0 : Nat) (hf : ∀ o, res = .inl o → o = out) (hk : ∀ (S' : zm_S), res = .inr ((), S') → zw p l e R s m args below meth c (vx_MQ below (zm_Qc zk_E V (zo_v out)) (zm_XC zk_E V zo_x) args s mc ms (fun q => V.2.2.2.1 ≤ q)) 6 zk_E V mc ms 132 [] [] S' rc rs) : ∀ (n : Nat) (i1 : Int32) (S : zm_S), zf_X2_drawWalls_L22 N n a0 i1 S = some res → zw p l e R s m args below meth c (vx_MQ below (zm_Qc zk_E V (zo_v out)) (zm_XC zk_E V zo_x) args s mc ms (fun q => V.2.2.2.1 ≤ q)) 6 zk_E V mc ms 22 [(0, .ref a0), (1, .int i1)] [] S rc rs := by
  intro n
  induction n with
  | zero => intro i1 S h; cases h
  | succ n ih =>
    intro i1 S h
    rw [zf_X2_drawWalls_L22] at h
    refine zw_iload_n hX dX2_drawWalls_22 rfl ?_
    refine zw_aload_n hX dX2_drawWalls_23 rfl ?_
    obtain ⟨b9, g, h⟩ := zb_some h
    refine zw_getr hX zl_X2_54 dX2_drawWalls_24 g ?_
    obtain ⟨v10, g, h⟩ := zb_some h
    refine zw_getNi hX zl_X2_94 dX2_drawWalls_27 g ?_
    refine zw_icmp_ge (tgt := 132) hX dX2_drawWalls_30 (by decide) (fun c30 => ?_) (fun c30 => ?_)
    · rw [if_pos c30] at h
      refine zw_sub (lv' := []) zs_nil ?_
      exact hk  _ (Option.some.inj h).symm
    · rw [if_neg c30] at h
      refine zw_aload_n hX dX2_drawWalls_33 rfl ?_
      obtain ⟨b11, g, h⟩ := zb_some h
      refine zw_getr hX zl_X2_54 dX2_drawWalls_34 g ?_
      refine zw_iload_n hX dX2_drawWalls_37 rfl ?_
      obtain ⟨_, gi, h⟩ := zb_some h
      obtain ⟨r13, g, h⟩ := zb_some h
      refine zc_Vi (as := [.int i1]) hX gi (zt_X8_isLevel (d := d - 1) (by omega) g) zl_X2_99 rfl dX2_drawWalls_38 ⟨rfl, rfl, Nat.le_of_ble_eq_true rfl⟩ ⟨by omega, by omega⟩ ?_
      refine zw_istore_n hX dX2_drawWalls_41 (by decide) ?_
      refine zw_aload_n hX dX2_drawWalls_42 rfl ?_
      obtain ⟨b14, g, h⟩ := zb_some h
      refine zw_getr hX zl_X2_54 dX2_drawWalls_43 g ?_
      obtain ⟨b15, g, h⟩ := zb_some h
      refine zw_getNr hX zl_X2_103 dX2_drawWalls_46 g ?_
      refine zw_iload_n hX dX2_drawWalls_49 rfl ?_
      obtain ⟨b16, g, h⟩ := zb_some h
      refine zw_xr hX dX2_drawWalls_50 g ?_
      refine zw_iconst (v := (0 : Int32)) hX dX2_drawWalls_51 (by decide) ?_
      obtain ⟨v17, g, h⟩ := zb_some h
      refine zw_xi hX dX2_drawWalls_52 g ?_
      refine zw_bipush (v := (25 : Int32)) hX dX2_drawWalls_53 (by decide) ?_
      refine zw_imul hX dX2_drawWalls_55 ?_
      refine zw_aload_n hX dX2_drawWalls_56 rfl ?_
      obtain ⟨b18, g, h⟩ := zb_some h
      refine zw_getr hX zl_X2_54 dX2_drawWalls_57 g ?_
      obtain ⟨b19, g, h⟩ := zb_some h
      refine zw_getNr hX zl_X2_103 dX2_drawWalls_60 g ?_
      refine zw_iload_n hX dX2_drawWalls_63 rfl ?_
      obtain ⟨b20, g, h⟩ := zb_some h
      refine zw_xr hX dX2_drawWalls_64 g ?_
      refine zw_iconst (v := (1 : Int32)) hX dX2_drawWalls_65 (by decide) ?_
      obtain ⟨v21, g, h⟩ := zb_some h
      refine zw_xi hX dX2_drawWalls_66 g ?_
      refine zw_iadd hX dX2_drawWalls_67 ?_
      refine zw_istore_n hX dX2_drawWalls_68 (by decide) ?_
      refine zw_aload_n hX dX2_drawWalls_69 rfl ?_
      obtain ⟨b22, g, h⟩ := zb_some h
      refine zw_getr hX zl_X2_54 dX2_drawWalls_70 g ?_
      refine zw_iload_n hX dX2_drawWalls_73 rfl ?_
      obtain ⟨_, gi, h⟩ := zb_some h
      obtain ⟨r24, g, h⟩ := zb_some h
      refine zc_Vi (as := [.int i1]) hX gi (zt_X8_lengthOf (d := d - 1) (by omega) g) zl_X2_106 rfl dX2_drawWalls_74 ⟨rfl, rfl, Nat.le_of_ble_eq_true rfl⟩ ⟨by omega, by omega⟩ ?_
      refine zw_istore hX dX2_drawWalls_77 (by decide) ?_
      refine zw_iconst (v := (0 : Int32)) hX dX2_drawWalls_79 (by decide) ?_
      refine zw_istore hX dX2_drawWalls_80 (by decide) ?_
      obtain ⟨r, g, h⟩ := zb_some h
      refine zw_sub (lv' := [(0, .ref a0), (1, .int i1), (2, .int r13.1), (3, .int ((v17 * (25 : Int32)) + v21)), (4, .int r24.1), (5, .int (0 : Int32))]) (List.forall_mem_cons.mpr ⟨rfl, (List.forall_mem_cons.mpr ⟨rfl, (List.forall_mem_cons.mpr ⟨rfl, (List.forall_mem_cons.mpr ⟨rfl, (List.forall_mem_cons.mpr ⟨rfl, (List.forall_mem_cons.mpr ⟨rfl, zs_nil⟩)⟩)⟩)⟩)⟩)⟩) ?_
      refine zt_X2_drawWalls_L82 hX hr hR hd (res := r) (out := out) a0 i1 r13.1 ((v17 * (25 : Int32)) + v21) r24.1 ?_ ?_ N _ _ g
      · intro o ho
        subst ho
        exact hf _ (Option.some.inj h).symm
      · intro  S28 hx
        subst hx
        try dsimp only at h
        refine zw_iinc (v := (i1 + (1 : Int32))) hX dX2_drawWalls_126 rfl rfl (by decide) ?_
        refine zw_goto (tgt := 22) hX dX2_drawWalls_129 (by decide) ?_
        refine zw_sub (lv' := [(0, .ref a0), (1, .int (i1 + (1 : Int32)))]) (List.forall_mem_cons.mpr ⟨rfl, (List.forall_mem_cons.mpr ⟨rfl, zs_nil⟩)⟩) ?_
        exact ih _ _ h
set_option maxHeartbeats 4000000 in
set_option maxRecDepth 100000 in
theorem zt_X2_drawWalls {l : Launch} {V : zm_V} {N : Nat} {S : zm_S} {out : (Unit × zm_S)} {d : Nat} {a0 : Nat} (hd : 2 ≤ d) (h : zf_X2_drawWalls N a0 S = some out) : zm_Met l zk_E V yX2_drawWalls (.code yX2_drawWalls cX2_drawWalls 6 none) d [.ref a0] S 0 0 (zo_v out) zo_x := by
  refine zm_of (by decide +kernel) (Nat.le_of_ble_eq_true rfl) ?_
  intro p e R s m args below meth c hRR hX hr hxt
  have hR : R.frames = d ∧ R.locals = 64 * d := by rw [hRR]; exact ⟨rfl, rfl⟩
  have hX : zm_X p R s m args meth c RX2 "drawWalls" cX2_drawWalls 6 zk_E V 0 0 := hX
  unfold zf_X2_drawWalls at h
  refine zw_sub (lv' := [(0, .ref a0)]) (List.forall_mem_cons.mpr ⟨rfl, zs_nil⟩) ?_
  refine zw_aload_n hX dX2_drawWalls_0 rfl ?_
  obtain ⟨b1, g, h⟩ := zb_some h
  refine zw_getr hX zl_X2_13 dX2_drawWalls_1 g ?_
  refine zw_iconst (v := (0 : Int32)) hX dX2_drawWalls_4 (by decide) ?_
  obtain ⟨b2, g, h⟩ := zb_some h
  refine zw_xr hX dX2_drawWalls_5 g ?_
  refine zw_iconst (v := (-1 : Int32)) hX dX2_drawWalls_6 (by decide) ?_
  obtain ⟨r4, g, h⟩ := zb_some h
  refine zc_Sv (as := [.ref b2, .int (-1 : Int32)]) hX (zt_J7_fill_53178 (d := d - 1) (by omega) g) zl_X2_88 dX2_drawWalls_7 ⟨rfl, rfl, Nat.le_of_ble_eq_true rfl⟩ ⟨by omega, by omega⟩ ?_
  refine zw_aload_n hX dX2_drawWalls_10 rfl ?_
  obtain ⟨b5, g, h⟩ := zb_some h
  refine zw_getr hX zl_X2_13 dX2_drawWalls_11 g ?_
  refine zw_iconst (v := (1 : Int32)) hX dX2_drawWalls_14 (by decide) ?_
  obtain ⟨b6, g, h⟩ := zb_some h
  refine zw_xr hX dX2_drawWalls_15 g ?_
  refine zw_iconst (v := (-1 : Int32)) hX dX2_drawWalls_16 (by decide) ?_
  obtain ⟨r8, g, h⟩ := zb_some h
  refine zc_Sv (as := [.ref b6, .int (-1 : Int32)]) hX (zt_J7_fill_53178 (d := d - 1) (by omega) g) zl_X2_88 dX2_drawWalls_17 ⟨rfl, rfl, Nat.le_of_ble_eq_true rfl⟩ ⟨by omega, by omega⟩ ?_
  refine zw_iconst (v := (0 : Int32)) hX dX2_drawWalls_20 (by decide) ?_
  refine zw_istore_n hX dX2_drawWalls_21 (by decide) ?_
  obtain ⟨r, g, h⟩ := zb_some h
  refine zw_sub (lv' := [(0, .ref a0), (1, .int (0 : Int32))]) (List.forall_mem_cons.mpr ⟨rfl, (List.forall_mem_cons.mpr ⟨rfl, zs_nil⟩)⟩) ?_
  refine zt_X2_drawWalls_L22 hX hr hR hd (res := r) (out := out) a0 ?_ ?_ N _ _ g
  · intro o ho
    subst ho
    exact Option.some.inj h
  · intro  S29 hx
    subst hx
    try dsimp only at h
    obtain rfl := Option.some.inj h
    exact zw_vret hX hr dX2_drawWalls_132 ⟨rfl, rfl⟩
set_option maxHeartbeats 4000000 in
set_option maxRecDepth 100000 in
theorem zt_X2_wallFrom {l : Launch} {V : zm_V} {N : Nat} {S : zm_S} {out : (Int32 × zm_S)} {d : Nat} {a0 : Nat} {i1 : Int32} {i2 : Int32} {i3 : Int32} (hd : 1 ≤ d) (h : zf_X2_wallFrom N a0 i1 i2 i3 S = some out) : zm_Met l zk_E V yX2_wallFrom (.code yX2_wallFrom cX2_wallFrom 4 (some .int)) d [.ref a0, .int i1, .int i2, .int i3] S 0 0 (zo_i out) zo_x := by
  refine zm_of (by decide +kernel) (Nat.le_of_ble_eq_true rfl) ?_
  intro p e R s m args below meth c hRR hX hr hxt
  have hR : R.frames = d ∧ R.locals = 64 * d := by rw [hRR]; exact ⟨rfl, rfl⟩
  have hX : zm_X p R s m args meth c RX2 "wallFrom" cX2_wallFrom 4 zk_E V 0 0 := hX
  unfold zf_X2_wallFrom at h
  refine zw_sub (lv' := [(0, .ref a0), (1, .int i1), (2, .int i2), (3, .int i3)]) (List.forall_mem_cons.mpr ⟨rfl, (List.forall_mem_cons.mpr ⟨rfl, (List.forall_mem_cons.mpr ⟨rfl, (List.forall_mem_cons.mpr ⟨rfl, zs_nil⟩)⟩)⟩)⟩) ?_
  refine zw_iload_n hX dX2_wallFrom_0 rfl ?_
  by_cases c1_0 : (i3).toInt = 0
  · rw [if_pos c1_0] at h
    refine zw_tableIn (off := 27) (tgt := 28) hX dX2_wallFrom_1 (by rw [c1_0]; decide) (by rw [c1_0]; decide) (by rw [c1_0]; decide) (by decide) ?_
    refine zw_iload_n hX dX2_wallFrom_28 rfl ?_
    refine zw_bipush (v := (24 : Int32)) hX dX2_wallFrom_29 (by decide) ?_
    refine zw_icmp_ge (tgt := 50) hX dX2_wallFrom_31 (by decide) (fun c31 => ?_) (fun c31 => ?_)
    · rw [if_pos c31] at h
      refine zw_iconst (v := (-1 : Int32)) hX dX2_wallFrom_50 (by decide) ?_
      obtain rfl := Option.some.inj h
      exact zw_iret hX hr dX2_wallFrom_51 rfl ⟨rfl, rfl⟩
    · rw [if_neg c31] at h
      refine zw_aload_n hX dX2_wallFrom_34 rfl ?_
      obtain ⟨b4, g, h⟩ := zb_some h
      refine zw_getr hX zl_X2_13 dX2_wallFrom_35 g ?_
      refine zw_iconst (v := (0 : Int32)) hX dX2_wallFrom_38 (by decide) ?_
      obtain ⟨b5, g, h⟩ := zb_some h
      refine zw_xr hX dX2_wallFrom_39 g ?_
      refine zw_iload_n hX dX2_wallFrom_40 rfl ?_
      refine zw_bipush (v := (25 : Int32)) hX dX2_wallFrom_41 (by decide) ?_
      refine zw_imul hX dX2_wallFrom_43 ?_
      refine zw_iload_n hX dX2_wallFrom_44 rfl ?_
      refine zw_iadd hX dX2_wallFrom_45 ?_
      obtain ⟨v6, g, h⟩ := zb_some h
      refine zw_xi hX dX2_wallFrom_46 g ?_
      refine zw_goto (tgt := 51) hX dX2_wallFrom_47 (by decide) ?_
      obtain rfl := Option.some.inj h
      exact zw_iret hX hr dX2_wallFrom_51 rfl ⟨rfl, rfl⟩
  rw [if_neg c1_0] at h
  by_cases c1_1 : (i3).toInt = 1
  · rw [if_pos c1_1] at h
    refine zw_tableIn (off := 51) (tgt := 52) hX dX2_wallFrom_1 (by rw [c1_1]; decide) (by rw [c1_1]; decide) (by rw [c1_1]; decide) (by decide) ?_
    refine zw_iload_n hX dX2_wallFrom_52 rfl ?_
    refine zw_bipush (v := (24 : Int32)) hX dX2_wallFrom_53 (by decide) ?_
    refine zw_icmp_ge (tgt := 74) hX dX2_wallFrom_55 (by decide) (fun c55 => ?_) (fun c55 => ?_)
    · rw [if_pos c55] at h
      refine zw_iconst (v := (-1 : Int32)) hX dX2_wallFrom_74 (by decide) ?_
      obtain rfl := Option.some.inj h
      exact zw_iret hX hr dX2_wallFrom_75 rfl ⟨rfl, rfl⟩
    · rw [if_neg c55] at h
      refine zw_aload_n hX dX2_wallFrom_58 rfl ?_
      obtain ⟨b7, g, h⟩ := zb_some h
      refine zw_getr hX zl_X2_13 dX2_wallFrom_59 g ?_
      refine zw_iconst (v := (1 : Int32)) hX dX2_wallFrom_62 (by decide) ?_
      obtain ⟨b8, g, h⟩ := zb_some h
      refine zw_xr hX dX2_wallFrom_63 g ?_
      refine zw_iload_n hX dX2_wallFrom_64 rfl ?_
      refine zw_bipush (v := (25 : Int32)) hX dX2_wallFrom_65 (by decide) ?_
      refine zw_imul hX dX2_wallFrom_67 ?_
      refine zw_iload_n hX dX2_wallFrom_68 rfl ?_
      refine zw_iadd hX dX2_wallFrom_69 ?_
      obtain ⟨v9, g, h⟩ := zb_some h
      refine zw_xi hX dX2_wallFrom_70 g ?_
      refine zw_goto (tgt := 75) hX dX2_wallFrom_71 (by decide) ?_
      obtain rfl := Option.some.inj h
      exact zw_iret hX hr dX2_wallFrom_75 rfl ⟨rfl, rfl⟩
  rw [if_neg c1_1] at h
  by_cases c1_2 : (i3).toInt = 2
  · rw [if_pos c1_2] at h
    refine zw_tableIn (off := 75) (tgt := 76) hX dX2_wallFrom_1 (by rw [c1_2]; decide) (by rw [c1_2]; decide) (by rw [c1_2]; decide) (by decide) ?_
    refine zw_iload_n hX dX2_wallFrom_76 rfl ?_
    refine zw_if_le (tgt := 98) hX dX2_wallFrom_77 (by decide) (fun c77 => ?_) (fun c77 => ?_)
    · rw [if_pos c77] at h
      refine zw_iconst (v := (-1 : Int32)) hX dX2_wallFrom_98 (by decide) ?_
      obtain rfl := Option.some.inj h
      exact zw_iret hX hr dX2_wallFrom_99 rfl ⟨rfl, rfl⟩
    · rw [if_neg c77] at h
      refine zw_aload_n hX dX2_wallFrom_80 rfl ?_
      obtain ⟨b10, g, h⟩ := zb_some h
      refine zw_getr hX zl_X2_13 dX2_wallFrom_81 g ?_
      refine zw_iconst (v := (0 : Int32)) hX dX2_wallFrom_84 (by decide) ?_
      obtain ⟨b11, g, h⟩ := zb_some h
      refine zw_xr hX dX2_wallFrom_85 g ?_
      refine zw_iload_n hX dX2_wallFrom_86 rfl ?_
      refine zw_iconst (v := (1 : Int32)) hX dX2_wallFrom_87 (by decide) ?_
      refine zw_isub hX dX2_wallFrom_88 ?_
      refine zw_bipush (v := (25 : Int32)) hX dX2_wallFrom_89 (by decide) ?_
      refine zw_imul hX dX2_wallFrom_91 ?_
      refine zw_iload_n hX dX2_wallFrom_92 rfl ?_
      refine zw_iadd hX dX2_wallFrom_93 ?_
      obtain ⟨v12, g, h⟩ := zb_some h
      refine zw_xi hX dX2_wallFrom_94 g ?_
      refine zw_goto (tgt := 99) hX dX2_wallFrom_95 (by decide) ?_
      obtain rfl := Option.some.inj h
      exact zw_iret hX hr dX2_wallFrom_99 rfl ⟨rfl, rfl⟩
  rw [if_neg c1_2] at h
  refine zw_tableOut (tgt := 100) hX dX2_wallFrom_1 (by omega) (by decide) ?_
  refine zw_iload_n hX dX2_wallFrom_100 rfl ?_
  refine zw_if_le (tgt := 122) hX dX2_wallFrom_101 (by decide) (fun c101 => ?_) (fun c101 => ?_)
  · rw [if_pos c101] at h
    refine zw_iconst (v := (-1 : Int32)) hX dX2_wallFrom_122 (by decide) ?_
    obtain rfl := Option.some.inj h
    exact zw_iret hX hr dX2_wallFrom_123 rfl ⟨rfl, rfl⟩
  · rw [if_neg c101] at h
    refine zw_aload_n hX dX2_wallFrom_104 rfl ?_
    obtain ⟨b1, g, h⟩ := zb_some h
    refine zw_getr hX zl_X2_13 dX2_wallFrom_105 g ?_
    refine zw_iconst (v := (1 : Int32)) hX dX2_wallFrom_108 (by decide) ?_
    obtain ⟨b2, g, h⟩ := zb_some h
    refine zw_xr hX dX2_wallFrom_109 g ?_
    refine zw_iload_n hX dX2_wallFrom_110 rfl ?_
    refine zw_bipush (v := (25 : Int32)) hX dX2_wallFrom_111 (by decide) ?_
    refine zw_imul hX dX2_wallFrom_113 ?_
    refine zw_iload_n hX dX2_wallFrom_114 rfl ?_
    refine zw_iadd hX dX2_wallFrom_115 ?_
    refine zw_iconst (v := (1 : Int32)) hX dX2_wallFrom_116 (by decide) ?_
    refine zw_isub hX dX2_wallFrom_117 ?_
    obtain ⟨v3, g, h⟩ := zb_some h
    refine zw_xi hX dX2_wallFrom_118 g ?_
    refine zw_goto (tgt := 123) hX dX2_wallFrom_119 (by decide) ?_
    obtain rfl := Option.some.inj h
    exact zw_iret hX hr dX2_wallFrom_123 rfl ⟨rfl, rfl⟩
set_option maxHeartbeats 4000000 in
set_option maxRecDepth 100000 in
theorem zt_X2_markPoints_J96 {p : Program} {l : Launch} {e : Env} {R : Room} {s : State} {m : MethodId} {args : Array Value} {below : List Frame} {meth : Method} {c : Code} {V : zm_V} {mc ms d rc rs : Nat} (hX : zm_X p R s m args meth c RX2 "markPoints" cX2_markPoints 5 zk_E V mc ms) (hr : meth.sig.returnType = none) (hR : R.frames = d ∧ R.locals = 64 * d) (hd : 2 ≤ d) {N : Nat} {k : Nat → Int32 → Int32 → zm_S → Option ((Unit × zm_S) ⊕ ((Unit) × zm_S))} {a0 : Nat} {i1 : Int32} {i2 : Int32} {t0 : Nat} {t1 : Int32} {res : (Unit × zm_S) ⊕ ((Unit) × zm_S)} {out : (Unit × zm_S)}   (hf : ∀ o, res = .inl o → o = out) (hk : ∀ (S' : zm_S), res = .inr ((), S') → zw p l e R s m args below meth c (vx_MQ below (zm_Qc zk_E V (zo_v out)) (zm_XC zk_E V zo_x) args s mc ms (fun q => V.2.2.2.1 ≤ q)) 5 zk_E V mc ms 104 [(0, .ref a0), (1, .int i1)] [] S' rc rs) (hrec : ∀ (i2' : Int32) (S : zm_S), k a0 i1 i2' S = some res → zw p l e R s m args below meth c (vx_MQ below (zm_Qc zk_E V (zo_v out)) (zm_XC zk_E V zo_x) args s mc ms (fun q => V.2.2.2.1 ≤ q)) 5 zk_E V mc ms 10 [(0, .ref a0), (1, .int i1), (2, .int i2')] [] S rc rs) {S : zm_S} (h : zf_X2_markPoints_J96 N k a0 i1 i2 t0 t1 S = some res) : zw p l e R s m args below meth c (vx_MQ below (zm_Qc zk_E V (zo_v out)) (zm_XC zk_E V zo_x) args s mc ms (fun q => V.2.2.2.1 ≤ q)) 5 zk_E V mc ms 96 [(0, .ref a0), (1, .int i1), (2, .int i2)] [.int t1, .ref t0] S rc rs := by
  unfold zf_X2_markPoints_J96 at h
  refine zw_iconst (v := (0 : Int32)) hX dX2_markPoints_96 (by decide) ?_
  obtain ⟨S6, g, h⟩ := zb_some h
  refine zw_sz hX dX2_markPoints_97 g ?_
  refine zw_iinc (v := (i2 + (1 : Int32))) hX dX2_markPoints_98 rfl rfl (by decide) ?_
  refine zw_goto (tgt := 10) hX dX2_markPoints_101 (by decide) ?_
  refine zw_sub (lv' := [(0, .ref a0), (1, .int i1), (2, .int (i2 + (1 : Int32)))]) (List.forall_mem_cons.mpr ⟨rfl, (List.forall_mem_cons.mpr ⟨rfl, (List.forall_mem_cons.mpr ⟨rfl, zs_nil⟩)⟩)⟩) ?_
  exact hrec _ _ h
set_option maxHeartbeats 4000000 in
set_option maxRecDepth 100000 in
theorem zt_X2_markPoints_J71 {p : Program} {l : Launch} {e : Env} {R : Room} {s : State} {m : MethodId} {args : Array Value} {below : List Frame} {meth : Method} {c : Code} {V : zm_V} {mc ms d rc rs : Nat} (hX : zm_X p R s m args meth c RX2 "markPoints" cX2_markPoints 5 zk_E V mc ms) (hr : meth.sig.returnType = none) (hR : R.frames = d ∧ R.locals = 64 * d) (hd : 2 ≤ d) {N : Nat} {k : Nat → Int32 → Int32 → zm_S → Option ((Unit × zm_S) ⊕ ((Unit) × zm_S))} {a0 : Nat} {i1 : Int32} {i2 : Int32} {i3 : Int32} {t0 : Int32} {res : (Unit × zm_S) ⊕ ((Unit) × zm_S)} {out : (Unit × zm_S)}   (hf : ∀ o, res = .inl o → o = out) (hk : ∀ (S' : zm_S), res = .inr ((), S') → zw p l e R s m args below meth c (vx_MQ below (zm_Qc zk_E V (zo_v out)) (zm_XC zk_E V zo_x) args s mc ms (fun q => V.2.2.2.1 ≤ q)) 5 zk_E V mc ms 104 [(0, .ref a0), (1, .int i1)] [] S' rc rs) (hrec : ∀ (i2' : Int32) (S : zm_S), k a0 i1 i2' S = some res → zw p l e R s m args below meth c (vx_MQ below (zm_Qc zk_E V (zo_v out)) (zm_XC zk_E V zo_x) args s mc ms (fun q => V.2.2.2.1 ≤ q)) 5 zk_E V mc ms 10 [(0, .ref a0), (1, .int i1), (2, .int i2')] [] S rc rs) {S : zm_S} (h : zf_X2_markPoints_J71 N k a0 i1 i2 i3 t0 S = some res) : zw p l e R s m args below meth c (vx_MQ below (zm_Qc zk_E V (zo_v out)) (zm_XC zk_E V zo_x) args s mc ms (fun q => V.2.2.2.1 ≤ q)) 5 zk_E V mc ms 71 [(0, .ref a0), (1, .int i1), (2, .int i2), (3, .int i3)] [.int t0] S rc rs := by
  unfold zf_X2_markPoints_J71 at h
  refine zw_istore hX dX2_markPoints_71 (by decide) ?_
  refine zw_aload_n hX dX2_markPoints_73 rfl ?_
  obtain ⟨b5, g, h⟩ := zb_some h
  refine zw_getr hX zl_X2_16 dX2_markPoints_74 g ?_
  refine zw_iload_n hX dX2_markPoints_77 rfl ?_
  refine zw_bipush (v := (25 : Int32)) hX dX2_markPoints_78 (by decide) ?_
  refine zw_imul hX dX2_markPoints_80 ?_
  refine zw_iload_n hX dX2_markPoints_81 rfl ?_
  refine zw_iadd hX dX2_markPoints_82 ?_
  refine zw_iload_n hX dX2_markPoints_83 rfl ?_
  refine zw_if_eq (tgt := 96) hX dX2_markPoints_84 (by decide) (fun c84 => ?_) (fun c84 => ?_)
  · rw [if_pos c84] at h
    refine zw_sub (lv' := [(0, .ref a0), (1, .int i1), (2, .int i2)]) (List.forall_mem_cons.mpr ⟨rfl, (List.forall_mem_cons.mpr ⟨rfl, (List.forall_mem_cons.mpr ⟨rfl, zs_nil⟩)⟩)⟩) ?_
    exact zt_X2_markPoints_J96 hX hr hR hd hf hk hrec h
  · rw [if_neg c84] at h
    refine zw_iload hX dX2_markPoints_87 rfl ?_
    refine zw_if_eq (tgt := 96) hX dX2_markPoints_89 (by decide) (fun c89 => ?_) (fun c89 => ?_)
    · rw [if_pos c89] at h
      refine zw_sub (lv' := [(0, .ref a0), (1, .int i1), (2, .int i2)]) (List.forall_mem_cons.mpr ⟨rfl, (List.forall_mem_cons.mpr ⟨rfl, (List.forall_mem_cons.mpr ⟨rfl, zs_nil⟩)⟩)⟩) ?_
      exact zt_X2_markPoints_J96 hX hr hR hd hf hk hrec h
    · rw [if_neg c89] at h
      refine zw_iconst (v := (1 : Int32)) hX dX2_markPoints_92 (by decide) ?_
      refine zw_goto (tgt := 97) hX dX2_markPoints_93 (by decide) ?_
      obtain ⟨S7, g, h⟩ := zb_some h
      refine zw_sz hX dX2_markPoints_97 g ?_
      refine zw_iinc (v := (i2 + (1 : Int32))) hX dX2_markPoints_98 rfl rfl (by decide) ?_
      refine zw_goto (tgt := 10) hX dX2_markPoints_101 (by decide) ?_
      refine zw_sub (lv' := [(0, .ref a0), (1, .int i1), (2, .int (i2 + (1 : Int32)))]) (List.forall_mem_cons.mpr ⟨rfl, (List.forall_mem_cons.mpr ⟨rfl, (List.forall_mem_cons.mpr ⟨rfl, zs_nil⟩)⟩)⟩) ?_
      exact hrec _ _ h
set_option maxHeartbeats 4000000 in
set_option maxRecDepth 100000 in
theorem zt_X2_markPoints_J66 {p : Program} {l : Launch} {e : Env} {R : Room} {s : State} {m : MethodId} {args : Array Value} {below : List Frame} {meth : Method} {c : Code} {V : zm_V} {mc ms d rc rs : Nat} (hX : zm_X p R s m args meth c RX2 "markPoints" cX2_markPoints 5 zk_E V mc ms) (hr : meth.sig.returnType = none) (hR : R.frames = d ∧ R.locals = 64 * d) (hd : 2 ≤ d) {N : Nat} {k : Nat → Int32 → Int32 → zm_S → Option ((Unit × zm_S) ⊕ ((Unit) × zm_S))} {a0 : Nat} {i1 : Int32} {i2 : Int32} {i3 : Int32} {res : (Unit × zm_S) ⊕ ((Unit) × zm_S)} {out : (Unit × zm_S)}   (hf : ∀ o, res = .inl o → o = out) (hk : ∀ (S' : zm_S), res = .inr ((), S') → zw p l e R s m args below meth c (vx_MQ below (zm_Qc zk_E V (zo_v out)) (zm_XC zk_E V zo_x) args s mc ms (fun q => V.2.2.2.1 ≤ q)) 5 zk_E V mc ms 104 [(0, .ref a0), (1, .int i1)] [] S' rc rs) (hrec : ∀ (i2' : Int32) (S : zm_S), k a0 i1 i2' S = some res → zw p l e R s m args below meth c (vx_MQ below (zm_Qc zk_E V (zo_v out)) (zm_XC zk_E V zo_x) args s mc ms (fun q => V.2.2.2.1 ≤ q)) 5 zk_E V mc ms 10 [(0, .ref a0), (1, .int i1), (2, .int i2')] [] S rc rs) {S : zm_S} (h : zf_X2_markPoints_J66 N k a0 i1 i2 i3 S = some res) : zw p l e R s m args below meth c (vx_MQ below (zm_Qc zk_E V (zo_v out)) (zm_XC zk_E V zo_x) args s mc ms (fun q => V.2.2.2.1 ≤ q)) 5 zk_E V mc ms 66 [(0, .ref a0), (1, .int i1), (2, .int i2), (3, .int i3)] [] S rc rs := by
  unfold zf_X2_markPoints_J66 at h
  refine zw_iconst (v := (1 : Int32)) hX dX2_markPoints_66 (by decide) ?_
  refine zw_goto (tgt := 71) hX dX2_markPoints_67 (by decide) ?_
  refine zw_sub (lv' := [(0, .ref a0), (1, .int i1), (2, .int i2), (3, .int i3)]) (List.forall_mem_cons.mpr ⟨rfl, (List.forall_mem_cons.mpr ⟨rfl, (List.forall_mem_cons.mpr ⟨rfl, (List.forall_mem_cons.mpr ⟨rfl, zs_nil⟩)⟩)⟩)⟩) ?_
  exact zt_X2_markPoints_J71 hX hr hR hd hf hk hrec h
set_option maxHeartbeats 4000000 in
set_option maxRecDepth 100000 in
theorem zt_X2_markPoints_J43 {p : Program} {l : Launch} {e : Env} {R : Room} {s : State} {m : MethodId} {args : Array Value} {below : List Frame} {meth : Method} {c : Code} {V : zm_V} {mc ms d rc rs : Nat} (hX : zm_X p R s m args meth c RX2 "markPoints" cX2_markPoints 5 zk_E V mc ms) (hr : meth.sig.returnType = none) (hR : R.frames = d ∧ R.locals = 64 * d) (hd : 2 ≤ d) {N : Nat} {k : Nat → Int32 → Int32 → zm_S → Option ((Unit × zm_S) ⊕ ((Unit) × zm_S))} {a0 : Nat} {i1 : Int32} {i2 : Int32} {t0 : Int32} {res : (Unit × zm_S) ⊕ ((Unit) × zm_S)} {out : (Unit × zm_S)}   (hf : ∀ o, res = .inl o → o = out) (hk : ∀ (S' : zm_S), res = .inr ((), S') → zw p l e R s m args below meth c (vx_MQ below (zm_Qc zk_E V (zo_v out)) (zm_XC zk_E V zo_x) args s mc ms (fun q => V.2.2.2.1 ≤ q)) 5 zk_E V mc ms 104 [(0, .ref a0), (1, .int i1)] [] S' rc rs) (hrec : ∀ (i2' : Int32) (S : zm_S), k a0 i1 i2' S = some res → zw p l e R s m args below meth c (vx_MQ below (zm_Qc zk_E V (zo_v out)) (zm_XC zk_E V zo_x) args s mc ms (fun q => V.2.2.2.1 ≤ q)) 5 zk_E V mc ms 10 [(0, .ref a0), (1, .int i1), (2, .int i2')] [] S rc rs) {S : zm_S} (h : zf_X2_markPoints_J43 N k a0 i1 i2 t0 S = some res) : zw p l e R s m args below meth c (vx_MQ below (zm_Qc zk_E V (zo_v out)) (zm_XC zk_E V zo_x) args s mc ms (fun q => V.2.2.2.1 ≤ q)) 5 zk_E V mc ms 43 [(0, .ref a0), (1, .int i1), (2, .int i2)] [.int t0] S rc rs := by
  unfold zf_X2_markPoints_J43 at h
  refine zw_istore_n hX dX2_markPoints_43 (by decide) ?_
  refine zw_aload_n hX dX2_markPoints_44 rfl ?_
  refine zw_iload_n hX dX2_markPoints_45 rfl ?_
  refine zw_iload_n hX dX2_markPoints_46 rfl ?_
  refine zw_iconst (v := (1 : Int32)) hX dX2_markPoints_47 (by decide) ?_
  obtain ⟨_, gi, h⟩ := zb_some h
  obtain ⟨r4, g, h⟩ := zb_some h
  refine zc_Vi (as := [.int i1, .int i2, .int (1 : Int32)]) hX gi (zt_X2_wallFrom (d := d - 1) (by omega) g) zl_X2_110 rfl dX2_markPoints_48 ⟨rfl, rfl, Nat.le_of_ble_eq_true rfl⟩ ⟨by omega, by omega⟩ ?_
  refine zw_iconst (v := (-1 : Int32)) hX dX2_markPoints_51 (by decide) ?_
  refine zw_icmp_ne (tgt := 66) hX dX2_markPoints_52 (by decide) (fun c52 => ?_) (fun c52 => ?_)
  · rw [if_neg c52] at h
    refine zw_sub (lv' := [(0, .ref a0), (1, .int i1), (2, .int i2), (3, .int t0)]) (List.forall_mem_cons.mpr ⟨rfl, (List.forall_mem_cons.mpr ⟨rfl, (List.forall_mem_cons.mpr ⟨rfl, (List.forall_mem_cons.mpr ⟨rfl, zs_nil⟩)⟩)⟩)⟩) ?_
    exact zt_X2_markPoints_J66 hX hr hR hd hf hk hrec h
  · rw [if_pos c52] at h
    refine zw_aload_n hX dX2_markPoints_55 rfl ?_
    refine zw_iload_n hX dX2_markPoints_56 rfl ?_
    refine zw_iload_n hX dX2_markPoints_57 rfl ?_
    refine zw_iconst (v := (3 : Int32)) hX dX2_markPoints_58 (by decide) ?_
    obtain ⟨_, gi, h⟩ := zb_some h
    obtain ⟨r9, g, h⟩ := zb_some h
    refine zc_Vi (as := [.int i1, .int i2, .int (3 : Int32)]) hX gi (zt_X2_wallFrom (d := d - 1) (by omega) g) zl_X2_110 rfl dX2_markPoints_59 ⟨rfl, rfl, Nat.le_of_ble_eq_true rfl⟩ ⟨by omega, by omega⟩ ?_
    refine zw_iconst (v := (-1 : Int32)) hX dX2_markPoints_62 (by decide) ?_
    refine zw_icmp_eq (tgt := 70) hX dX2_markPoints_63 (by decide) (fun c63 => ?_) (fun c63 => ?_)
    · rw [if_pos c63] at h
      refine zw_iconst (v := (0 : Int32)) hX dX2_markPoints_70 (by decide) ?_
      refine zw_sub (lv' := [(0, .ref a0), (1, .int i1), (2, .int i2), (3, .int t0)]) (List.forall_mem_cons.mpr ⟨rfl, (List.forall_mem_cons.mpr ⟨rfl, (List.forall_mem_cons.mpr ⟨rfl, (List.forall_mem_cons.mpr ⟨rfl, zs_nil⟩)⟩)⟩)⟩) ?_
      exact zt_X2_markPoints_J71 hX hr hR hd hf hk hrec h
    · rw [if_neg c63] at h
      refine zw_sub (lv' := [(0, .ref a0), (1, .int i1), (2, .int i2), (3, .int t0)]) (List.forall_mem_cons.mpr ⟨rfl, (List.forall_mem_cons.mpr ⟨rfl, (List.forall_mem_cons.mpr ⟨rfl, (List.forall_mem_cons.mpr ⟨rfl, zs_nil⟩)⟩)⟩)⟩) ?_
      exact zt_X2_markPoints_J66 hX hr hR hd hf hk hrec h
set_option maxHeartbeats 4000000 in
set_option maxRecDepth 100000 in
theorem zt_X2_markPoints_J38 {p : Program} {l : Launch} {e : Env} {R : Room} {s : State} {m : MethodId} {args : Array Value} {below : List Frame} {meth : Method} {c : Code} {V : zm_V} {mc ms d rc rs : Nat} (hX : zm_X p R s m args meth c RX2 "markPoints" cX2_markPoints 5 zk_E V mc ms) (hr : meth.sig.returnType = none) (hR : R.frames = d ∧ R.locals = 64 * d) (hd : 2 ≤ d) {N : Nat} {k : Nat → Int32 → Int32 → zm_S → Option ((Unit × zm_S) ⊕ ((Unit) × zm_S))} {a0 : Nat} {i1 : Int32} {i2 : Int32} {res : (Unit × zm_S) ⊕ ((Unit) × zm_S)} {out : (Unit × zm_S)}   (hf : ∀ o, res = .inl o → o = out) (hk : ∀ (S' : zm_S), res = .inr ((), S') → zw p l e R s m args below meth c (vx_MQ below (zm_Qc zk_E V (zo_v out)) (zm_XC zk_E V zo_x) args s mc ms (fun q => V.2.2.2.1 ≤ q)) 5 zk_E V mc ms 104 [(0, .ref a0), (1, .int i1)] [] S' rc rs) (hrec : ∀ (i2' : Int32) (S : zm_S), k a0 i1 i2' S = some res → zw p l e R s m args below meth c (vx_MQ below (zm_Qc zk_E V (zo_v out)) (zm_XC zk_E V zo_x) args s mc ms (fun q => V.2.2.2.1 ≤ q)) 5 zk_E V mc ms 10 [(0, .ref a0), (1, .int i1), (2, .int i2')] [] S rc rs) {S : zm_S} (h : zf_X2_markPoints_J38 N k a0 i1 i2 S = some res) : zw p l e R s m args below meth c (vx_MQ below (zm_Qc zk_E V (zo_v out)) (zm_XC zk_E V zo_x) args s mc ms (fun q => V.2.2.2.1 ≤ q)) 5 zk_E V mc ms 38 [(0, .ref a0), (1, .int i1), (2, .int i2)] [] S rc rs := by
  unfold zf_X2_markPoints_J38 at h
  refine zw_iconst (v := (1 : Int32)) hX dX2_markPoints_38 (by decide) ?_
  refine zw_goto (tgt := 43) hX dX2_markPoints_39 (by decide) ?_
  refine zw_sub (lv' := [(0, .ref a0), (1, .int i1), (2, .int i2)]) (List.forall_mem_cons.mpr ⟨rfl, (List.forall_mem_cons.mpr ⟨rfl, (List.forall_mem_cons.mpr ⟨rfl, zs_nil⟩)⟩)⟩) ?_
  exact zt_X2_markPoints_J43 hX hr hR hd hf hk hrec h
set_option maxHeartbeats 4000000 in
set_option maxRecDepth 100000 in
theorem zt_X2_markPoints_L10 {p : Program} {l : Launch} {e : Env} {R : Room} {s : State} {m : MethodId} {args : Array Value} {below : List Frame} {meth : Method} {c : Code} {V : zm_V} {mc ms d rc rs : Nat} (hX : zm_X p R s m args meth c RX2 "markPoints" cX2_markPoints 5 zk_E V mc ms) (hr : meth.sig.returnType = none) (hR : R.frames = d ∧ R.locals = 64 * d) (hd : 2 ≤ d) {N : Nat} {res : (Unit × zm_S) ⊕ ((Unit) × zm_S)} {out : (Unit × zm_S)} (a0 : Nat) (i1 : Int32) (hf : ∀ o, res = .inl o → o = out) (hk : ∀ (S' : zm_S), res = .inr ((), S') → zw p l e R s m args below meth c (vx_MQ below (zm_Qc zk_E V (zo_v out)) (zm_XC zk_E V zo_x) args s mc ms (fun q => V.2.2.2.1 ≤ q)) 5 zk_E V mc ms 104 [(0, .ref a0), (1, .int i1)] [] S' rc rs) : ∀ (n : Nat) (i2 : Int32) (S : zm_S), zf_X2_markPoints_L10 N n a0 i1 i2 S = some res → zw p l e R s m args below meth c (vx_MQ below (zm_Qc zk_E V (zo_v out)) (zm_XC zk_E V zo_x) args s mc ms (fun q => V.2.2.2.1 ≤ q)) 5 zk_E V mc ms 10 [(0, .ref a0), (1, .int i1), (2, .int i2)] [] S rc rs := by
  intro n
  induction n with
  | zero => intro i2 S h; cases h
  | succ n ih =>
    intro i2 S h
    rw [zf_X2_markPoints_L10] at h
    refine zw_iload_n hX dX2_markPoints_10 rfl ?_
    refine zw_bipush (v := (24 : Int32)) hX dX2_markPoints_11 (by decide) ?_
    refine zw_icmp_gt (tgt := 104) hX dX2_markPoints_13 (by decide) (fun c13 => ?_) (fun c13 => ?_)
    · rw [if_pos c13] at h
      refine zw_sub (lv' := [(0, .ref a0), (1, .int i1)]) (List.forall_mem_cons.mpr ⟨rfl, (List.forall_mem_cons.mpr ⟨rfl, zs_nil⟩)⟩) ?_
      exact hk  _ (Option.some.inj h).symm
    · rw [if_neg c13] at h
      refine zw_aload_n hX dX2_markPoints_16 rfl ?_
      refine zw_iload_n hX dX2_markPoints_17 rfl ?_
      refine zw_iload_n hX dX2_markPoints_18 rfl ?_
      refine zw_iconst (v := (0 : Int32)) hX dX2_markPoints_19 (by decide) ?_
      obtain ⟨_, gi, h⟩ := zb_some h
      obtain ⟨r2, g, h⟩ := zb_some h
      refine zc_Vi (as := [.int i1, .int i2, .int (0 : Int32)]) hX gi (zt_X2_wallFrom (d := d - 1) (by omega) g) zl_X2_110 rfl dX2_markPoints_20 ⟨rfl, rfl, Nat.le_of_ble_eq_true rfl⟩ ⟨by omega, by omega⟩ ?_
      refine zw_iconst (v := (-1 : Int32)) hX dX2_markPoints_23 (by decide) ?_
      refine zw_icmp_ne (tgt := 38) hX dX2_markPoints_24 (by decide) (fun c24 => ?_) (fun c24 => ?_)
      · rw [if_neg c24] at h
        refine zw_sub (lv' := [(0, .ref a0), (1, .int i1), (2, .int i2)]) (List.forall_mem_cons.mpr ⟨rfl, (List.forall_mem_cons.mpr ⟨rfl, (List.forall_mem_cons.mpr ⟨rfl, zs_nil⟩)⟩)⟩) ?_
        exact zt_X2_markPoints_J38 hX hr hR hd hf hk ih h
      · rw [if_pos c24] at h
        refine zw_aload_n hX dX2_markPoints_27 rfl ?_
        refine zw_iload_n hX dX2_markPoints_28 rfl ?_
        refine zw_iload_n hX dX2_markPoints_29 rfl ?_
        refine zw_iconst (v := (2 : Int32)) hX dX2_markPoints_30 (by decide) ?_
        obtain ⟨_, gi, h⟩ := zb_some h
        obtain ⟨r11, g, h⟩ := zb_some h
        refine zc_Vi (as := [.int i1, .int i2, .int (2 : Int32)]) hX gi (zt_X2_wallFrom (d := d - 1) (by omega) g) zl_X2_110 rfl dX2_markPoints_31 ⟨rfl, rfl, Nat.le_of_ble_eq_true rfl⟩ ⟨by omega, by omega⟩ ?_
        refine zw_iconst (v := (-1 : Int32)) hX dX2_markPoints_34 (by decide) ?_
        refine zw_icmp_eq (tgt := 42) hX dX2_markPoints_35 (by decide) (fun c35 => ?_) (fun c35 => ?_)
        · rw [if_pos c35] at h
          refine zw_iconst (v := (0 : Int32)) hX dX2_markPoints_42 (by decide) ?_
          refine zw_sub (lv' := [(0, .ref a0), (1, .int i1), (2, .int i2)]) (List.forall_mem_cons.mpr ⟨rfl, (List.forall_mem_cons.mpr ⟨rfl, (List.forall_mem_cons.mpr ⟨rfl, zs_nil⟩)⟩)⟩) ?_
          exact zt_X2_markPoints_J43 hX hr hR hd hf hk ih h
        · rw [if_neg c35] at h
          refine zw_sub (lv' := [(0, .ref a0), (1, .int i1), (2, .int i2)]) (List.forall_mem_cons.mpr ⟨rfl, (List.forall_mem_cons.mpr ⟨rfl, (List.forall_mem_cons.mpr ⟨rfl, zs_nil⟩)⟩)⟩) ?_
          exact zt_X2_markPoints_J38 hX hr hR hd hf hk ih h
set_option maxHeartbeats 4000000 in
set_option maxRecDepth 100000 in
theorem zt_X2_markPoints_L2 {p : Program} {l : Launch} {e : Env} {R : Room} {s : State} {m : MethodId} {args : Array Value} {below : List Frame} {meth : Method} {c : Code} {V : zm_V} {mc ms d rc rs : Nat} (hX : zm_X p R s m args meth c RX2 "markPoints" cX2_markPoints 5 zk_E V mc ms) (hr : meth.sig.returnType = none) (hR : R.frames = d ∧ R.locals = 64 * d) (hd : 2 ≤ d) {N : Nat} {res : (Unit × zm_S) ⊕ ((Unit) × zm_S)} {out : (Unit × zm_S)} (a0 : Nat) (hf : ∀ o, res = .inl o → o = out) (hk : ∀ (S' : zm_S), res = .inr ((), S') → zw p l e R s m args below meth c (vx_MQ below (zm_Qc zk_E V (zo_v out)) (zm_XC zk_E V zo_x) args s mc ms (fun q => V.2.2.2.1 ≤ q)) 5 zk_E V mc ms 110 [(0, .ref a0)] [] S' rc rs) : ∀ (n : Nat) (i1 : Int32) (S : zm_S), zf_X2_markPoints_L2 N n a0 i1 S = some res → zw p l e R s m args below meth c (vx_MQ below (zm_Qc zk_E V (zo_v out)) (zm_XC zk_E V zo_x) args s mc ms (fun q => V.2.2.2.1 ≤ q)) 5 zk_E V mc ms 2 [(0, .ref a0), (1, .int i1)] [] S rc rs := by
  intro n
  induction n with
  | zero => intro i1 S h; cases h
  | succ n ih =>
    intro i1 S h
    rw [zf_X2_markPoints_L2] at h
    refine zw_iload_n hX dX2_markPoints_2 rfl ?_
    refine zw_bipush (v := (24 : Int32)) hX dX2_markPoints_3 (by decide) ?_
    refine zw_icmp_gt (tgt := 110) hX dX2_markPoints_5 (by decide) (fun c5 => ?_) (fun c5 => ?_)
    · rw [if_pos c5] at h
      refine zw_sub (lv' := [(0, .ref a0)]) (List.forall_mem_cons.mpr ⟨rfl, zs_nil⟩) ?_
      exact hk  _ (Option.some.inj h).symm
    · rw [if_neg c5] at h
      refine zw_iconst (v := (0 : Int32)) hX dX2_markPoints_8 (by decide) ?_
      refine zw_istore_n hX dX2_markPoints_9 (by decide) ?_
      obtain ⟨r, g, h⟩ := zb_some h
      refine zw_sub (lv' := [(0, .ref a0), (1, .int i1), (2, .int (0 : Int32))]) (List.forall_mem_cons.mpr ⟨rfl, (List.forall_mem_cons.mpr ⟨rfl, (List.forall_mem_cons.mpr ⟨rfl, zs_nil⟩)⟩)⟩) ?_
      refine zt_X2_markPoints_L10 hX hr hR hd (res := r) (out := out) a0 i1 ?_ ?_ N _ _ g
      · intro o ho
        subst ho
        exact hf _ (Option.some.inj h).symm
      · intro  S12 hx
        subst hx
        try dsimp only at h
        refine zw_iinc (v := (i1 + (1 : Int32))) hX dX2_markPoints_104 rfl rfl (by decide) ?_
        refine zw_goto (tgt := 2) hX dX2_markPoints_107 (by decide) ?_
        refine zw_sub (lv' := [(0, .ref a0), (1, .int (i1 + (1 : Int32)))]) (List.forall_mem_cons.mpr ⟨rfl, (List.forall_mem_cons.mpr ⟨rfl, zs_nil⟩)⟩) ?_
        exact ih _ _ h
set_option maxHeartbeats 4000000 in
set_option maxRecDepth 100000 in
theorem zt_X2_markPoints_L112 {p : Program} {l : Launch} {e : Env} {R : Room} {s : State} {m : MethodId} {args : Array Value} {below : List Frame} {meth : Method} {c : Code} {V : zm_V} {mc ms d rc rs : Nat} (hX : zm_X p R s m args meth c RX2 "markPoints" cX2_markPoints 5 zk_E V mc ms) (hr : meth.sig.returnType = none) (hR : R.frames = d ∧ R.locals = 64 * d) (hd : 2 ≤ d) {N : Nat} {res : (Unit × zm_S) ⊕ ((Unit) × zm_S)} {out : (Unit × zm_S)} (a0 : Nat) (hf : ∀ o, res = .inl o → o = out) (hk : ∀ (S' : zm_S), res = .inr ((), S') → zw p l e R s m args below meth c (vx_MQ below (zm_Qc zk_E V (zo_v out)) (zm_XC zk_E V zo_x) args s mc ms (fun q => V.2.2.2.1 ≤ q)) 5 zk_E V mc ms 171 [] [] S' rc rs) : ∀ (n : Nat) (i1 : Int32) (S : zm_S), zf_X2_markPoints_L112 N n a0 i1 S = some res → zw p l e R s m args below meth c (vx_MQ below (zm_Qc zk_E V (zo_v out)) (zm_XC zk_E V zo_x) args s mc ms (fun q => V.2.2.2.1 ≤ q)) 5 zk_E V mc ms 112 [(0, .ref a0), (1, .int i1)] [] S rc rs := by
  intro n
  induction n with
  | zero => intro i1 S h; cases h
  | succ n ih =>
    intro i1 S h
    rw [zf_X2_markPoints_L112] at h
    refine zw_iload_n hX dX2_markPoints_112 rfl ?_
    refine zw_aload_n hX dX2_markPoints_113 rfl ?_
    obtain ⟨b14, g, h⟩ := zb_some h
    refine zw_getr hX zl_X2_54 dX2_markPoints_114 g ?_
    obtain ⟨v15, g, h⟩ := zb_some h
    refine zw_getNi hX zl_X2_94 dX2_markPoints_117 g ?_
    refine zw_icmp_ge (tgt := 171) hX dX2_markPoints_120 (by decide) (fun c120 => ?_) (fun c120 => ?_)
    · rw [if_pos c120] at h
      refine zw_sub (lv' := []) zs_nil ?_
      exact hk  _ (Option.some.inj h).symm
    · rw [if_neg c120] at h
      refine zw_aload_n hX dX2_markPoints_123 rfl ?_
      obtain ⟨b16, g, h⟩ := zb_some h
      refine zw_getr hX zl_X2_54 dX2_markPoints_124 g ?_
      obtain ⟨b17, g, h⟩ := zb_some h
      refine zw_getNr hX zl_X2_103 dX2_markPoints_127 g ?_
      refine zw_iload_n hX dX2_markPoints_130 rfl ?_
      obtain ⟨b18, g, h⟩ := zb_some h
      refine zw_xr hX dX2_markPoints_131 g ?_
      refine zw_astore_n hX dX2_markPoints_132 (by decide) ?_
      refine zw_aload_n hX dX2_markPoints_133 rfl ?_
      obtain ⟨b19, g, h⟩ := zb_some h
      refine zw_getr hX zl_X2_16 dX2_markPoints_134 g ?_
      refine zw_aload_n hX dX2_markPoints_137 rfl ?_
      refine zw_iconst (v := (0 : Int32)) hX dX2_markPoints_138 (by decide) ?_
      obtain ⟨v20, g, h⟩ := zb_some h
      refine zw_xi hX dX2_markPoints_139 g ?_
      refine zw_bipush (v := (25 : Int32)) hX dX2_markPoints_140 (by decide) ?_
      refine zw_imul hX dX2_markPoints_142 ?_
      refine zw_aload_n hX dX2_markPoints_143 rfl ?_
      refine zw_iconst (v := (1 : Int32)) hX dX2_markPoints_144 (by decide) ?_
      obtain ⟨v21, g, h⟩ := zb_some h
      refine zw_xi hX dX2_markPoints_145 g ?_
      refine zw_iadd hX dX2_markPoints_146 ?_
      refine zw_iconst (v := (1 : Int32)) hX dX2_markPoints_147 (by decide) ?_
      obtain ⟨S22, g, h⟩ := zb_some h
      refine zw_sz hX dX2_markPoints_148 g ?_
      refine zw_aload_n hX dX2_markPoints_149 rfl ?_
      obtain ⟨b23, g, h⟩ := zb_some h
      refine zw_getr hX zl_X2_16 dX2_markPoints_150 g ?_
      refine zw_aload_n hX dX2_markPoints_153 rfl ?_
      refine zw_iconst (v := (2 : Int32)) hX dX2_markPoints_154 (by decide) ?_
      obtain ⟨v24, g, h⟩ := zb_some h
      refine zw_xi hX dX2_markPoints_155 g ?_
      refine zw_bipush (v := (25 : Int32)) hX dX2_markPoints_156 (by decide) ?_
      refine zw_imul hX dX2_markPoints_158 ?_
      refine zw_aload_n hX dX2_markPoints_159 rfl ?_
      refine zw_iconst (v := (3 : Int32)) hX dX2_markPoints_160 (by decide) ?_
      obtain ⟨v25, g, h⟩ := zb_some h
      refine zw_xi hX dX2_markPoints_161 g ?_
      refine zw_iadd hX dX2_markPoints_162 ?_
      refine zw_iconst (v := (1 : Int32)) hX dX2_markPoints_163 (by decide) ?_
      obtain ⟨S26, g, h⟩ := zb_some h
      refine zw_sz hX dX2_markPoints_164 g ?_
      refine zw_iinc (v := (i1 + (1 : Int32))) hX dX2_markPoints_165 rfl rfl (by decide) ?_
      refine zw_goto (tgt := 112) hX dX2_markPoints_168 (by decide) ?_
      refine zw_sub (lv' := [(0, .ref a0), (1, .int (i1 + (1 : Int32)))]) (List.forall_mem_cons.mpr ⟨rfl, (List.forall_mem_cons.mpr ⟨rfl, zs_nil⟩)⟩) ?_
      exact ih _ _ h
set_option maxHeartbeats 4000000 in
set_option maxRecDepth 100000 in
theorem zt_X2_markPoints {l : Launch} {V : zm_V} {N : Nat} {S : zm_S} {out : (Unit × zm_S)} {d : Nat} {a0 : Nat} (hd : 2 ≤ d) (h : zf_X2_markPoints N a0 S = some out) : zm_Met l zk_E V yX2_markPoints (.code yX2_markPoints cX2_markPoints 5 none) d [.ref a0] S 0 0 (zo_v out) zo_x := by
  refine zm_of (by decide +kernel) (Nat.le_of_ble_eq_true rfl) ?_
  intro p e R s m args below meth c hRR hX hr hxt
  have hR : R.frames = d ∧ R.locals = 64 * d := by rw [hRR]; exact ⟨rfl, rfl⟩
  have hX : zm_X p R s m args meth c RX2 "markPoints" cX2_markPoints 5 zk_E V 0 0 := hX
  unfold zf_X2_markPoints at h
  refine zw_sub (lv' := [(0, .ref a0)]) (List.forall_mem_cons.mpr ⟨rfl, zs_nil⟩) ?_
  refine zw_iconst (v := (0 : Int32)) hX dX2_markPoints_0 (by decide) ?_
  refine zw_istore_n hX dX2_markPoints_1 (by decide) ?_
  obtain ⟨r, g, h⟩ := zb_some h
  refine zw_sub (lv' := [(0, .ref a0), (1, .int (0 : Int32))]) (List.forall_mem_cons.mpr ⟨rfl, (List.forall_mem_cons.mpr ⟨rfl, zs_nil⟩)⟩) ?_
  refine zt_X2_markPoints_L2 hX hr hR hd (res := r) (out := out) a0 ?_ ?_ N _ _ g
  · intro o ho
    subst ho
    exact Option.some.inj h
  · intro  S13 hx
    subst hx
    try dsimp only at h
    refine zw_iconst (v := (0 : Int32)) hX dX2_markPoints_110 (by decide) ?_
    refine zw_istore_n hX dX2_markPoints_111 (by decide) ?_
    obtain ⟨r, g, h⟩ := zb_some h
    refine zw_sub (lv' := [(0, .ref a0), (1, .int (0 : Int32))]) (List.forall_mem_cons.mpr ⟨rfl, (List.forall_mem_cons.mpr ⟨rfl, zs_nil⟩)⟩) ?_
    refine zt_X2_markPoints_L112 hX hr hR hd (res := r) (out := out) a0 ?_ ?_ N _ _ g
    · intro o ho
      subst ho
      exact Option.some.inj h
    · intro  S27 hx
      subst hx
      try dsimp only at h
      obtain rfl := Option.some.inj h
      exact zw_vret hX hr dX2_markPoints_171 ⟨rfl, rfl⟩
set_option maxHeartbeats 4000000 in
set_option maxRecDepth 100000 in
theorem zt_X2_placeBeside {l : Launch} {V : zm_V} {N : Nat} {S : zm_S} {out : (Int32 × zm_S)} {d : Nat} {a0 : Nat} {i1 : Int32} {i2 : Int32} (hd : 1 ≤ d) (h : zf_X2_placeBeside N a0 i1 i2 S = some out) : zm_Met l zk_E V yX2_placeBeside (.code yX2_placeBeside cX2_placeBeside 4 (some .int)) d [.ref a0, .int i1, .int i2] S 0 0 (zo_i out) zo_x := by
  refine zm_of (by decide +kernel) (Nat.le_of_ble_eq_true rfl) ?_
  intro p e R s m args below meth c hRR hX hr hxt
  have hR : R.frames = d ∧ R.locals = 64 * d := by rw [hRR]; exact ⟨rfl, rfl⟩
  have hX : zm_X p R s m args meth c RX2 "placeBeside" cX2_placeBeside 4 zk_E V 0 0 := hX
  unfold zf_X2_placeBeside at h
  refine zw_sub (lv' := [(0, .ref a0), (1, .int i1), (2, .int i2)]) (List.forall_mem_cons.mpr ⟨rfl, (List.forall_mem_cons.mpr ⟨rfl, (List.forall_mem_cons.mpr ⟨rfl, zs_nil⟩)⟩)⟩) ?_
  refine zw_iload_n hX dX2_placeBeside_0 rfl ?_
  refine zw_bipush (v := (24 : Int32)) hX dX2_placeBeside_1 (by decide) ?_
  refine zw_idiv hX dX2_placeBeside_3 (by decide) ?_
  refine zw_bipush (v := (25 : Int32)) hX dX2_placeBeside_4 (by decide) ?_
  refine zw_imul hX dX2_placeBeside_6 ?_
  refine zw_iload_n hX dX2_placeBeside_7 rfl ?_
  refine zw_bipush (v := (24 : Int32)) hX dX2_placeBeside_8 (by decide) ?_
  refine zw_irem hX dX2_placeBeside_10 (by decide) ?_
  refine zw_iadd hX dX2_placeBeside_11 ?_
  refine zw_istore_n hX dX2_placeBeside_12 (by decide) ?_
  refine zw_iload_n hX dX2_placeBeside_13 rfl ?_
  refine zw_if_ne (tgt := 22) hX dX2_placeBeside_14 (by decide) (fun c14 => ?_) (fun c14 => ?_)
  · rw [if_neg c14] at h
    refine zw_iload_n hX dX2_placeBeside_22 rfl ?_
    refine zw_iconst (v := (2 : Int32)) hX dX2_placeBeside_23 (by decide) ?_
    refine zw_icmp_ne (tgt := 33) hX dX2_placeBeside_24 (by decide) (fun c24 => ?_) (fun c24 => ?_)
    · rw [if_neg c24] at h
      refine zw_iload_n hX dX2_placeBeside_33 rfl ?_
      obtain rfl := Option.some.inj h
      exact zw_iret hX hr dX2_placeBeside_34 rfl ⟨rfl, rfl⟩
    · rw [if_pos c24] at h
      refine zw_iload_n hX dX2_placeBeside_27 rfl ?_
      refine zw_iconst (v := (1 : Int32)) hX dX2_placeBeside_28 (by decide) ?_
      refine zw_iadd hX dX2_placeBeside_29 ?_
      refine zw_goto (tgt := 34) hX dX2_placeBeside_30 (by decide) ?_
      obtain rfl := Option.some.inj h
      exact zw_iret hX hr dX2_placeBeside_34 rfl ⟨rfl, rfl⟩
  · rw [if_pos c14] at h
    refine zw_iload_n hX dX2_placeBeside_17 rfl ?_
    refine zw_bipush (v := (25 : Int32)) hX dX2_placeBeside_18 (by decide) ?_
    refine zw_iadd hX dX2_placeBeside_20 ?_
    obtain rfl := Option.some.inj h
    exact zw_iret hX hr dX2_placeBeside_21 rfl ⟨rfl, rfl⟩
set_option maxHeartbeats 4000000 in
set_option maxRecDepth 100000 in
theorem zt_X2_wallBeside {l : Launch} {V : zm_V} {N : Nat} {S : zm_S} {out : (Int32 × zm_S)} {d : Nat} {a0 : Nat} {i1 : Int32} {i2 : Int32} (hd : 2 ≤ d) (h : zf_X2_wallBeside N a0 i1 i2 S = some out) : zm_Met l zk_E V yX2_wallBeside (.code yX2_wallBeside cX2_wallBeside 4 (some .int)) d [.ref a0, .int i1, .int i2] S 0 0 (zo_i out) zo_x := by
  refine zm_of (by decide +kernel) (Nat.le_of_ble_eq_true rfl) ?_
  intro p e R s m args below meth c hRR hX hr hxt
  have hR : R.frames = d ∧ R.locals = 64 * d := by rw [hRR]; exact ⟨rfl, rfl⟩
  have hX : zm_X p R s m args meth c RX2 "wallBeside" cX2_wallBeside 4 zk_E V 0 0 := hX
  unfold zf_X2_wallBeside at h
  refine zw_sub (lv' := [(0, .ref a0), (1, .int i1), (2, .int i2)]) (List.forall_mem_cons.mpr ⟨rfl, (List.forall_mem_cons.mpr ⟨rfl, (List.forall_mem_cons.mpr ⟨rfl, zs_nil⟩)⟩)⟩) ?_
  refine zw_aload_n hX dX2_wallBeside_0 rfl ?_
  refine zw_iload_n hX dX2_wallBeside_1 rfl ?_
  refine zw_iload_n hX dX2_wallBeside_2 rfl ?_
  obtain ⟨_, gi, h⟩ := zb_some h
  obtain ⟨r2, g, h⟩ := zb_some h
  refine zc_Vi (as := [.int i1, .int i2]) hX gi (zt_X2_placeBeside (d := d - 1) (by omega) g) zl_X2_130 rfl dX2_wallBeside_3 ⟨rfl, rfl, Nat.le_of_ble_eq_true rfl⟩ ⟨by omega, by omega⟩ ?_
  refine zw_istore_n hX dX2_wallBeside_6 (by decide) ?_
  refine zw_iload_n hX dX2_wallBeside_7 rfl ?_
  refine zw_iconst (v := (2 : Int32)) hX dX2_wallBeside_8 (by decide) ?_
  refine zw_icmp_ge (tgt := 23) hX dX2_wallBeside_9 (by decide) (fun c9 => ?_) (fun c9 => ?_)
  · rw [if_pos c9] at h
    refine zw_aload_n hX dX2_wallBeside_23 rfl ?_
    obtain ⟨b3, g, h⟩ := zb_some h
    refine zw_getr hX zl_X2_13 dX2_wallBeside_24 g ?_
    refine zw_iconst (v := (0 : Int32)) hX dX2_wallBeside_27 (by decide) ?_
    obtain ⟨b4, g, h⟩ := zb_some h
    refine zw_xr hX dX2_wallBeside_28 g ?_
    refine zw_iload_n hX dX2_wallBeside_29 rfl ?_
    obtain ⟨v5, g, h⟩ := zb_some h
    refine zw_xi hX dX2_wallBeside_30 g ?_
    obtain rfl := Option.some.inj h
    exact zw_iret hX hr dX2_wallBeside_31 rfl ⟨rfl, rfl⟩
  · rw [if_neg c9] at h
    refine zw_aload_n hX dX2_wallBeside_12 rfl ?_
    obtain ⟨b6, g, h⟩ := zb_some h
    refine zw_getr hX zl_X2_13 dX2_wallBeside_13 g ?_
    refine zw_iconst (v := (1 : Int32)) hX dX2_wallBeside_16 (by decide) ?_
    obtain ⟨b7, g, h⟩ := zb_some h
    refine zw_xr hX dX2_wallBeside_17 g ?_
    refine zw_iload_n hX dX2_wallBeside_18 rfl ?_
    obtain ⟨v8, g, h⟩ := zb_some h
    refine zw_xi hX dX2_wallBeside_19 g ?_
    refine zw_goto (tgt := 31) hX dX2_wallBeside_20 (by decide) ?_
    obtain rfl := Option.some.inj h
    exact zw_iret hX hr dX2_wallBeside_31 rfl ⟨rfl, rfl⟩
set_option maxHeartbeats 4000000 in
set_option maxRecDepth 100000 in
theorem zt_X2_cellBeside {l : Launch} {V : zm_V} {N : Nat} {S : zm_S} {out : (Int32 × zm_S)} {d : Nat} {a0 : Nat} {i1 : Int32} {i2 : Int32} (hd : 1 ≤ d) (h : zf_X2_cellBeside N a0 i1 i2 S = some out) : zm_Met l zk_E V yX2_cellBeside (.code yX2_cellBeside cX2_cellBeside 5 (some .int)) d [.ref a0, .int i1, .int i2] S 0 0 (zo_i out) zo_x := by
  refine zm_of (by decide +kernel) (Nat.le_of_ble_eq_true rfl) ?_
  intro p e R s m args below meth c hRR hX hr hxt
  have hR : R.frames = d ∧ R.locals = 64 * d := by rw [hRR]; exact ⟨rfl, rfl⟩
  have hX : zm_X p R s m args meth c RX2 "cellBeside" cX2_cellBeside 5 zk_E V 0 0 := hX
  unfold zf_X2_cellBeside at h
  refine zw_sub (lv' := [(0, .ref a0), (1, .int i1), (2, .int i2)]) (List.forall_mem_cons.mpr ⟨rfl, (List.forall_mem_cons.mpr ⟨rfl, (List.forall_mem_cons.mpr ⟨rfl, zs_nil⟩)⟩)⟩) ?_
  refine zw_iload_n hX dX2_cellBeside_0 rfl ?_
  refine zw_bipush (v := (24 : Int32)) hX dX2_cellBeside_1 (by decide) ?_
  refine zw_idiv hX dX2_cellBeside_3 (by decide) ?_
  refine zw_istore_n hX dX2_cellBeside_4 (by decide) ?_
  refine zw_iload_n hX dX2_cellBeside_5 rfl ?_
  refine zw_bipush (v := (24 : Int32)) hX dX2_cellBeside_6 (by decide) ?_
  refine zw_irem hX dX2_cellBeside_8 (by decide) ?_
  refine zw_istore hX dX2_cellBeside_9 (by decide) ?_
  refine zw_iload_n hX dX2_cellBeside_11 rfl ?_
  by_cases c12_0 : (i2).toInt = 0
  · rw [if_pos c12_0] at h
    refine zw_tableIn (off := 28) (tgt := 40) hX dX2_cellBeside_12 (by rw [c12_0]; decide) (by rw [c12_0]; decide) (by rw [c12_0]; decide) (by decide) ?_
    refine zw_iload_n hX dX2_cellBeside_40 rfl ?_
    refine zw_bipush (v := (23 : Int32)) hX dX2_cellBeside_41 (by decide) ?_
    refine zw_icmp_ge (tgt := 53) hX dX2_cellBeside_43 (by decide) (fun c43 => ?_) (fun c43 => ?_)
    · rw [if_pos c43] at h
      refine zw_iconst (v := (-1 : Int32)) hX dX2_cellBeside_53 (by decide) ?_
      obtain rfl := Option.some.inj h
      exact zw_iret hX hr dX2_cellBeside_54 rfl ⟨rfl, rfl⟩
    · rw [if_neg c43] at h
      refine zw_iload_n hX dX2_cellBeside_46 rfl ?_
      refine zw_bipush (v := (24 : Int32)) hX dX2_cellBeside_47 (by decide) ?_
      refine zw_iadd hX dX2_cellBeside_49 ?_
      refine zw_goto (tgt := 54) hX dX2_cellBeside_50 (by decide) ?_
      obtain rfl := Option.some.inj h
      exact zw_iret hX hr dX2_cellBeside_54 rfl ⟨rfl, rfl⟩
  rw [if_neg c12_0] at h
  by_cases c12_1 : (i2).toInt = 1
  · rw [if_pos c12_1] at h
    refine zw_tableIn (off := 43) (tgt := 55) hX dX2_cellBeside_12 (by rw [c12_1]; decide) (by rw [c12_1]; decide) (by rw [c12_1]; decide) (by decide) ?_
    refine zw_iload_n hX dX2_cellBeside_55 rfl ?_
    refine zw_if_le (tgt := 66) hX dX2_cellBeside_56 (by decide) (fun c56 => ?_) (fun c56 => ?_)
    · rw [if_pos c56] at h
      refine zw_iconst (v := (-1 : Int32)) hX dX2_cellBeside_66 (by decide) ?_
      obtain rfl := Option.some.inj h
      exact zw_iret hX hr dX2_cellBeside_67 rfl ⟨rfl, rfl⟩
    · rw [if_neg c56] at h
      refine zw_iload_n hX dX2_cellBeside_59 rfl ?_
      refine zw_bipush (v := (24 : Int32)) hX dX2_cellBeside_60 (by decide) ?_
      refine zw_isub hX dX2_cellBeside_62 ?_
      refine zw_goto (tgt := 67) hX dX2_cellBeside_63 (by decide) ?_
      obtain rfl := Option.some.inj h
      exact zw_iret hX hr dX2_cellBeside_67 rfl ⟨rfl, rfl⟩
  rw [if_neg c12_1] at h
  by_cases c12_2 : (i2).toInt = 2
  · rw [if_pos c12_2] at h
    refine zw_tableIn (off := 56) (tgt := 68) hX dX2_cellBeside_12 (by rw [c12_2]; decide) (by rw [c12_2]; decide) (by rw [c12_2]; decide) (by decide) ?_
    refine zw_iload hX dX2_cellBeside_68 rfl ?_
    refine zw_bipush (v := (23 : Int32)) hX dX2_cellBeside_70 (by decide) ?_
    refine zw_icmp_ge (tgt := 81) hX dX2_cellBeside_72 (by decide) (fun c72 => ?_) (fun c72 => ?_)
    · rw [if_pos c72] at h
      refine zw_iconst (v := (-1 : Int32)) hX dX2_cellBeside_81 (by decide) ?_
      obtain rfl := Option.some.inj h
      exact zw_iret hX hr dX2_cellBeside_82 rfl ⟨rfl, rfl⟩
    · rw [if_neg c72] at h
      refine zw_iload_n hX dX2_cellBeside_75 rfl ?_
      refine zw_iconst (v := (1 : Int32)) hX dX2_cellBeside_76 (by decide) ?_
      refine zw_iadd hX dX2_cellBeside_77 ?_
      refine zw_goto (tgt := 82) hX dX2_cellBeside_78 (by decide) ?_
      obtain rfl := Option.some.inj h
      exact zw_iret hX hr dX2_cellBeside_82 rfl ⟨rfl, rfl⟩
  rw [if_neg c12_2] at h
  refine zw_tableOut (tgt := 83) hX dX2_cellBeside_12 (by omega) (by decide) ?_
  refine zw_iload hX dX2_cellBeside_83 rfl ?_
  refine zw_if_le (tgt := 94) hX dX2_cellBeside_85 (by decide) (fun c85 => ?_) (fun c85 => ?_)
  · rw [if_pos c85] at h
    refine zw_iconst (v := (-1 : Int32)) hX dX2_cellBeside_94 (by decide) ?_
    obtain rfl := Option.some.inj h
    exact zw_iret hX hr dX2_cellBeside_95 rfl ⟨rfl, rfl⟩
  · rw [if_neg c85] at h
    refine zw_iload_n hX dX2_cellBeside_88 rfl ?_
    refine zw_iconst (v := (1 : Int32)) hX dX2_cellBeside_89 (by decide) ?_
    refine zw_isub hX dX2_cellBeside_90 ?_
    refine zw_goto (tgt := 95) hX dX2_cellBeside_91 (by decide) ?_
    obtain rfl := Option.some.inj h
    exact zw_iret hX hr dX2_cellBeside_95 rfl ⟨rfl, rfl⟩
set_option maxHeartbeats 4000000 in
set_option maxRecDepth 100000 in
theorem zt_X2_fill_J77 {p : Program} {l : Launch} {e : Env} {R : Room} {s : State} {m : MethodId} {args : Array Value} {below : List Frame} {meth : Method} {c : Code} {V : zm_V} {mc ms d rc rs : Nat} (hX : zm_X p R s m args meth c RX2 "fill" cX2_fill 8 zk_E V mc ms) (hr : meth.sig.returnType = (some .int)) (hR : R.frames = d ∧ R.locals = 64 * d) (hd : 3 ≤ d) {N : Nat} {k : Nat → Int32 → Int32 → Int32 → Int32 → zm_S → Option ((Int32 × zm_S) ⊕ ((Int32) × zm_S))} {a0 : Nat} {i2 : Int32} {i3 : Int32} {i4 : Int32} {i5 : Int32} {i6 : Int32} {t0 : Int32} {res : (Int32 × zm_S) ⊕ ((Int32) × zm_S)} {out : (Int32 × zm_S)}   (hf : ∀ o, res = .inl o → o = out) (hk : ∀ (x3 : Int32) (S' : zm_S), res = .inr (x3, S') → zw p l e R s m args below meth c (vx_MQ below (zm_Qc zk_E V (zo_i out)) (zm_XC zk_E V zo_x) args s mc ms (fun q => V.2.2.2.1 ≤ q)) 8 zk_E V mc ms 128 [(0, .ref a0), (2, .int i2), (3, .int x3), (4, .int i4)] [] S' rc rs) (hrec : ∀ (i3' : Int32) (i5' : Int32) (S : zm_S), k a0 i2 i3' i4 i5' S = some res → zw p l e R s m args below meth c (vx_MQ below (zm_Qc zk_E V (zo_i out)) (zm_XC zk_E V zo_x) args s mc ms (fun q => V.2.2.2.1 ≤ q)) 8 zk_E V mc ms 28 [(0, .ref a0), (2, .int i2), (3, .int i3'), (4, .int i4), (5, .int i5')] [] S rc rs) {S : zm_S} (h : zf_X2_fill_J77 N k a0 i2 i3 i4 i5 i6 t0 S = some res) : zw p l e R s m args below meth c (vx_MQ below (zm_Qc zk_E V (zo_i out)) (zm_XC zk_E V zo_x) args s mc ms (fun q => V.2.2.2.1 ≤ q)) 8 zk_E V mc ms 77 [(0, .ref a0), (2, .int i2), (3, .int i3), (4, .int i4), (5, .int i5), (6, .int i6)] [.int t0] S rc rs := by
  unfold zf_X2_fill_J77 at h
  refine zw_istore hX dX2_fill_77 (by decide) ?_
  refine zw_iload hX dX2_fill_79 rfl ?_
  refine zw_if_eq (tgt := 122) hX dX2_fill_81 (by decide) (fun c81 => ?_) (fun c81 => ?_)
  · rw [if_pos c81] at h
    refine zw_iinc (v := (i5 + (1 : Int32))) hX dX2_fill_122 rfl rfl (by decide) ?_
    refine zw_goto (tgt := 28) hX dX2_fill_125 (by decide) ?_
    refine zw_sub (lv' := [(0, .ref a0), (2, .int i2), (3, .int i3), (4, .int i4), (5, .int (i5 + (1 : Int32)))]) (List.forall_mem_cons.mpr ⟨rfl, (List.forall_mem_cons.mpr ⟨rfl, (List.forall_mem_cons.mpr ⟨rfl, (List.forall_mem_cons.mpr ⟨rfl, (List.forall_mem_cons.mpr ⟨rfl, zs_nil⟩)⟩)⟩)⟩)⟩) ?_
    exact hrec _ _ _ h
  · rw [if_neg c81] at h
    refine zw_aload_n hX dX2_fill_84 rfl ?_
    obtain ⟨b9, g, h⟩ := zb_some h
    refine zw_getr hX zl_X2_20 dX2_fill_85 g ?_
    refine zw_iload hX dX2_fill_88 rfl ?_
    obtain ⟨v10, g, h⟩ := zb_some h
    refine zw_xi hX dX2_fill_90 g ?_
    refine zw_bipush (v := (-3 : Int32)) hX dX2_fill_91 (by decide) ?_
    refine zw_icmp_ne (tgt := 122) hX dX2_fill_93 (by decide) (fun c93 => ?_) (fun c93 => ?_)
    · rw [if_neg c93] at h
      refine zw_iinc (v := (i5 + (1 : Int32))) hX dX2_fill_122 rfl rfl (by decide) ?_
      refine zw_goto (tgt := 28) hX dX2_fill_125 (by decide) ?_
      refine zw_sub (lv' := [(0, .ref a0), (2, .int i2), (3, .int i3), (4, .int i4), (5, .int (i5 + (1 : Int32)))]) (List.forall_mem_cons.mpr ⟨rfl, (List.forall_mem_cons.mpr ⟨rfl, (List.forall_mem_cons.mpr ⟨rfl, (List.forall_mem_cons.mpr ⟨rfl, (List.forall_mem_cons.mpr ⟨rfl, zs_nil⟩)⟩)⟩)⟩)⟩) ?_
      exact hrec _ _ _ h
    · rw [if_pos c93] at h
      refine zw_iload_n hX dX2_fill_96 rfl ?_
      refine zw_sipush (v := (576 : Int32)) hX dX2_fill_97 (by decide) ?_
      refine zw_icmp_ge (tgt := 122) hX dX2_fill_100 (by decide) (fun c100 => ?_) (fun c100 => ?_)
      · rw [if_pos c100] at h
        refine zw_iinc (v := (i5 + (1 : Int32))) hX dX2_fill_122 rfl rfl (by decide) ?_
        refine zw_goto (tgt := 28) hX dX2_fill_125 (by decide) ?_
        refine zw_sub (lv' := [(0, .ref a0), (2, .int i2), (3, .int i3), (4, .int i4), (5, .int (i5 + (1 : Int32)))]) (List.forall_mem_cons.mpr ⟨rfl, (List.forall_mem_cons.mpr ⟨rfl, (List.forall_mem_cons.mpr ⟨rfl, (List.forall_mem_cons.mpr ⟨rfl, (List.forall_mem_cons.mpr ⟨rfl, zs_nil⟩)⟩)⟩)⟩)⟩) ?_
        exact hrec _ _ _ h
      · rw [if_neg c100] at h
        refine zw_aload_n hX dX2_fill_103 rfl ?_
        obtain ⟨b11, g, h⟩ := zb_some h
        refine zw_getr hX zl_X2_20 dX2_fill_104 g ?_
        refine zw_iload hX dX2_fill_107 rfl ?_
        refine zw_iload_n hX dX2_fill_109 rfl ?_
        obtain ⟨S12, g, h⟩ := zb_some h
        refine zw_si hX dX2_fill_110 g ?_
        refine zw_aload_n hX dX2_fill_111 rfl ?_
        obtain ⟨b13, g, h⟩ := zb_some h
        refine zw_getr hX zl_X2_48 dX2_fill_112 g ?_
        refine zw_iload_n hX dX2_fill_115 rfl ?_
        refine zw_iload hX dX2_fill_116 rfl ?_
        obtain ⟨S14, g, h⟩ := zb_some h
        refine zw_si hX dX2_fill_118 g ?_
        refine zw_iinc (v := (i3 + (1 : Int32))) hX dX2_fill_119 rfl rfl (by decide) ?_
        refine zw_iinc (v := (i5 + (1 : Int32))) hX dX2_fill_122 rfl rfl (by decide) ?_
        refine zw_goto (tgt := 28) hX dX2_fill_125 (by decide) ?_
        refine zw_sub (lv' := [(0, .ref a0), (2, .int i2), (3, .int (i3 + (1 : Int32))), (4, .int i4), (5, .int (i5 + (1 : Int32)))]) (List.forall_mem_cons.mpr ⟨rfl, (List.forall_mem_cons.mpr ⟨rfl, (List.forall_mem_cons.mpr ⟨rfl, (List.forall_mem_cons.mpr ⟨rfl, (List.forall_mem_cons.mpr ⟨rfl, zs_nil⟩)⟩)⟩)⟩)⟩) ?_
        exact hrec _ _ _ h
set_option maxHeartbeats 4000000 in
set_option maxRecDepth 100000 in
theorem zt_X2_fill_J76 {p : Program} {l : Launch} {e : Env} {R : Room} {s : State} {m : MethodId} {args : Array Value} {below : List Frame} {meth : Method} {c : Code} {V : zm_V} {mc ms d rc rs : Nat} (hX : zm_X p R s m args meth c RX2 "fill" cX2_fill 8 zk_E V mc ms) (hr : meth.sig.returnType = (some .int)) (hR : R.frames = d ∧ R.locals = 64 * d) (hd : 3 ≤ d) {N : Nat} {k : Nat → Int32 → Int32 → Int32 → Int32 → zm_S → Option ((Int32 × zm_S) ⊕ ((Int32) × zm_S))} {a0 : Nat} {i2 : Int32} {i3 : Int32} {i4 : Int32} {i5 : Int32} {i6 : Int32} {res : (Int32 × zm_S) ⊕ ((Int32) × zm_S)} {out : (Int32 × zm_S)}   (hf : ∀ o, res = .inl o → o = out) (hk : ∀ (x3 : Int32) (S' : zm_S), res = .inr (x3, S') → zw p l e R s m args below meth c (vx_MQ below (zm_Qc zk_E V (zo_i out)) (zm_XC zk_E V zo_x) args s mc ms (fun q => V.2.2.2.1 ≤ q)) 8 zk_E V mc ms 128 [(0, .ref a0), (2, .int i2), (3, .int x3), (4, .int i4)] [] S' rc rs) (hrec : ∀ (i3' : Int32) (i5' : Int32) (S : zm_S), k a0 i2 i3' i4 i5' S = some res → zw p l e R s m args below meth c (vx_MQ below (zm_Qc zk_E V (zo_i out)) (zm_XC zk_E V zo_x) args s mc ms (fun q => V.2.2.2.1 ≤ q)) 8 zk_E V mc ms 28 [(0, .ref a0), (2, .int i2), (3, .int i3'), (4, .int i4), (5, .int i5')] [] S rc rs) {S : zm_S} (h : zf_X2_fill_J76 N k a0 i2 i3 i4 i5 i6 S = some res) : zw p l e R s m args below meth c (vx_MQ below (zm_Qc zk_E V (zo_i out)) (zm_XC zk_E V zo_x) args s mc ms (fun q => V.2.2.2.1 ≤ q)) 8 zk_E V mc ms 76 [(0, .ref a0), (2, .int i2), (3, .int i3), (4, .int i4), (5, .int i5), (6, .int i6)] [] S rc rs := by
  unfold zf_X2_fill_J76 at h
  refine zw_iconst (v := (0 : Int32)) hX dX2_fill_76 (by decide) ?_
  refine zw_sub (lv' := [(0, .ref a0), (2, .int i2), (3, .int i3), (4, .int i4), (5, .int i5), (6, .int i6)]) (List.forall_mem_cons.mpr ⟨rfl, (List.forall_mem_cons.mpr ⟨rfl, (List.forall_mem_cons.mpr ⟨rfl, (List.forall_mem_cons.mpr ⟨rfl, (List.forall_mem_cons.mpr ⟨rfl, (List.forall_mem_cons.mpr ⟨rfl, zs_nil⟩)⟩)⟩)⟩)⟩)⟩) ?_
  exact zt_X2_fill_J77 hX hr hR hd hf hk hrec h
set_option maxHeartbeats 4000000 in
set_option maxRecDepth 100000 in
theorem zt_X2_fill_L28 {p : Program} {l : Launch} {e : Env} {R : Room} {s : State} {m : MethodId} {args : Array Value} {below : List Frame} {meth : Method} {c : Code} {V : zm_V} {mc ms d rc rs : Nat} (hX : zm_X p R s m args meth c RX2 "fill" cX2_fill 8 zk_E V mc ms) (hr : meth.sig.returnType = (some .int)) (hR : R.frames = d ∧ R.locals = 64 * d) (hd : 3 ≤ d) {N : Nat} {res : (Int32 × zm_S) ⊕ ((Int32) × zm_S)} {out : (Int32 × zm_S)} (a0 : Nat) (i2 : Int32) (i4 : Int32) (hf : ∀ o, res = .inl o → o = out) (hk : ∀ (x3 : Int32) (S' : zm_S), res = .inr (x3, S') → zw p l e R s m args below meth c (vx_MQ below (zm_Qc zk_E V (zo_i out)) (zm_XC zk_E V zo_x) args s mc ms (fun q => V.2.2.2.1 ≤ q)) 8 zk_E V mc ms 128 [(0, .ref a0), (2, .int i2), (3, .int x3), (4, .int i4)] [] S' rc rs) : ∀ (n : Nat) (i3 : Int32) (i5 : Int32) (S : zm_S), zf_X2_fill_L28 N n a0 i2 i3 i4 i5 S = some res → zw p l e R s m args below meth c (vx_MQ below (zm_Qc zk_E V (zo_i out)) (zm_XC zk_E V zo_x) args s mc ms (fun q => V.2.2.2.1 ≤ q)) 8 zk_E V mc ms 28 [(0, .ref a0), (2, .int i2), (3, .int i3), (4, .int i4), (5, .int i5)] [] S rc rs := by
  intro n
  induction n with
  | zero => intro i3 i5 S h; cases h
  | succ n ih =>
    intro i3 i5 S h
    rw [zf_X2_fill_L28] at h
    refine zw_iload hX dX2_fill_28 rfl ?_
    refine zw_iconst (v := (4 : Int32)) hX dX2_fill_30 (by decide) ?_
    refine zw_icmp_ge (tgt := 128) hX dX2_fill_31 (by decide) (fun c31 => ?_) (fun c31 => ?_)
    · rw [if_pos c31] at h
      refine zw_sub (lv' := [(0, .ref a0), (2, .int i2), (3, .int i3), (4, .int i4)]) (List.forall_mem_cons.mpr ⟨rfl, (List.forall_mem_cons.mpr ⟨rfl, (List.forall_mem_cons.mpr ⟨rfl, (List.forall_mem_cons.mpr ⟨rfl, zs_nil⟩)⟩)⟩)⟩) ?_
      exact hk _ _ (Option.some.inj h).symm
    · rw [if_neg c31] at h
      refine zw_aload_n hX dX2_fill_34 rfl ?_
      refine zw_aload_n hX dX2_fill_35 rfl ?_
      obtain ⟨b5, g, h⟩ := zb_some h
      refine zw_getr hX zl_X2_48 dX2_fill_36 g ?_
      refine zw_iload hX dX2_fill_39 rfl ?_
      obtain ⟨v6, g, h⟩ := zb_some h
      refine zw_xi hX dX2_fill_41 g ?_
      refine zw_iload hX dX2_fill_42 rfl ?_
      obtain ⟨_, gi, h⟩ := zb_some h
      obtain ⟨r8, g, h⟩ := zb_some h
      refine zc_Vi (as := [.int v6, .int i5]) hX gi (zt_X2_cellBeside (d := d - 1) (by omega) g) zl_X2_127 rfl dX2_fill_44 ⟨rfl, rfl, Nat.le_of_ble_eq_true rfl⟩ ⟨by omega, by omega⟩ ?_
      refine zw_istore hX dX2_fill_47 (by decide) ?_
      refine zw_iload hX dX2_fill_49 rfl ?_
      refine zw_iconst (v := (-1 : Int32)) hX dX2_fill_51 (by decide) ?_
      refine zw_icmp_eq (tgt := 76) hX dX2_fill_52 (by decide) (fun c52 => ?_) (fun c52 => ?_)
      · rw [if_pos c52] at h
        refine zw_sub (lv' := [(0, .ref a0), (2, .int i2), (3, .int i3), (4, .int i4), (5, .int i5), (6, .int r8.1)]) (List.forall_mem_cons.mpr ⟨rfl, (List.forall_mem_cons.mpr ⟨rfl, (List.forall_mem_cons.mpr ⟨rfl, (List.forall_mem_cons.mpr ⟨rfl, (List.forall_mem_cons.mpr ⟨rfl, (List.forall_mem_cons.mpr ⟨rfl, zs_nil⟩)⟩)⟩)⟩)⟩)⟩) ?_
        exact zt_X2_fill_J76 hX hr hR hd hf hk ih h
      · rw [if_neg c52] at h
        refine zw_aload_n hX dX2_fill_55 rfl ?_
        refine zw_aload_n hX dX2_fill_56 rfl ?_
        obtain ⟨b15, g, h⟩ := zb_some h
        refine zw_getr hX zl_X2_48 dX2_fill_57 g ?_
        refine zw_iload hX dX2_fill_60 rfl ?_
        obtain ⟨v16, g, h⟩ := zb_some h
        refine zw_xi hX dX2_fill_62 g ?_
        refine zw_iload hX dX2_fill_63 rfl ?_
        obtain ⟨_, gi, h⟩ := zb_some h
        obtain ⟨r18, g, h⟩ := zb_some h
        refine zc_Vi (as := [.int v16, .int i5]) hX gi (zt_X2_wallBeside (d := d - 1) (by omega) g) zl_X2_124 rfl dX2_fill_65 ⟨rfl, rfl, Nat.le_of_ble_eq_true rfl⟩ ⟨by omega, by omega⟩ ?_
        refine zw_iconst (v := (-1 : Int32)) hX dX2_fill_68 (by decide) ?_
        refine zw_icmp_ne (tgt := 76) hX dX2_fill_69 (by decide) (fun c69 => ?_) (fun c69 => ?_)
        · rw [if_neg c69] at h
          refine zw_sub (lv' := [(0, .ref a0), (2, .int i2), (3, .int i3), (4, .int i4), (5, .int i5), (6, .int r8.1)]) (List.forall_mem_cons.mpr ⟨rfl, (List.forall_mem_cons.mpr ⟨rfl, (List.forall_mem_cons.mpr ⟨rfl, (List.forall_mem_cons.mpr ⟨rfl, (List.forall_mem_cons.mpr ⟨rfl, (List.forall_mem_cons.mpr ⟨rfl, zs_nil⟩)⟩)⟩)⟩)⟩)⟩) ?_
          exact zt_X2_fill_J76 hX hr hR hd hf hk ih h
        · rw [if_pos c69] at h
          refine zw_iconst (v := (1 : Int32)) hX dX2_fill_72 (by decide) ?_
          refine zw_goto (tgt := 77) hX dX2_fill_73 (by decide) ?_
          refine zw_sub (lv' := [(0, .ref a0), (2, .int i2), (3, .int i3), (4, .int i4), (5, .int i5), (6, .int r8.1)]) (List.forall_mem_cons.mpr ⟨rfl, (List.forall_mem_cons.mpr ⟨rfl, (List.forall_mem_cons.mpr ⟨rfl, (List.forall_mem_cons.mpr ⟨rfl, (List.forall_mem_cons.mpr ⟨rfl, (List.forall_mem_cons.mpr ⟨rfl, zs_nil⟩)⟩)⟩)⟩)⟩)⟩) ?_
          exact zt_X2_fill_J77 hX hr hR hd hf hk ih h
set_option maxHeartbeats 4000000 in
set_option maxRecDepth 100000 in
theorem zt_X2_fill_L19 {p : Program} {l : Launch} {e : Env} {R : Room} {s : State} {m : MethodId} {args : Array Value} {below : List Frame} {meth : Method} {c : Code} {V : zm_V} {mc ms d rc rs : Nat} (hX : zm_X p R s m args meth c RX2 "fill" cX2_fill 8 zk_E V mc ms) (hr : meth.sig.returnType = (some .int)) (hR : R.frames = d ∧ R.locals = 64 * d) (hd : 3 ≤ d) {N : Nat} {res : (Int32 × zm_S) ⊕ ((Int32) × zm_S)} {out : (Int32 × zm_S)} (a0 : Nat) (i2 : Int32) (hf : ∀ o, res = .inl o → o = out) (hk : ∀ (x3 : Int32) (S' : zm_S), res = .inr (x3, S') → zw p l e R s m args below meth c (vx_MQ below (zm_Qc zk_E V (zo_i out)) (zm_XC zk_E V zo_x) args s mc ms (fun q => V.2.2.2.1 ≤ q)) 8 zk_E V mc ms 134 [(3, .int x3)] [] S' rc rs) : ∀ (n : Nat) (i3 : Int32) (i4 : Int32) (S : zm_S), zf_X2_fill_L19 N n a0 i2 i3 i4 S = some res → zw p l e R s m args below meth c (vx_MQ below (zm_Qc zk_E V (zo_i out)) (zm_XC zk_E V zo_x) args s mc ms (fun q => V.2.2.2.1 ≤ q)) 8 zk_E V mc ms 19 [(0, .ref a0), (2, .int i2), (3, .int i3), (4, .int i4)] [] S rc rs := by
  intro n
  induction n with
  | zero => intro i3 i4 S h; cases h
  | succ n ih =>
    intro i3 i4 S h
    rw [zf_X2_fill_L19] at h
    refine zw_iload hX dX2_fill_19 rfl ?_
    refine zw_iload_n hX dX2_fill_21 rfl ?_
    refine zw_icmp_ge (tgt := 134) hX dX2_fill_22 (by decide) (fun c22 => ?_) (fun c22 => ?_)
    · rw [if_pos c22] at h
      refine zw_sub (lv' := [(3, .int i3)]) (List.forall_mem_cons.mpr ⟨rfl, zs_nil⟩) ?_
      exact hk _ _ (Option.some.inj h).symm
    · rw [if_neg c22] at h
      refine zw_iconst (v := (0 : Int32)) hX dX2_fill_25 (by decide) ?_
      refine zw_istore hX dX2_fill_26 (by decide) ?_
      obtain ⟨r, g, h⟩ := zb_some h
      refine zw_sub (lv' := [(0, .ref a0), (2, .int i2), (3, .int i3), (4, .int i4), (5, .int (0 : Int32))]) (List.forall_mem_cons.mpr ⟨rfl, (List.forall_mem_cons.mpr ⟨rfl, (List.forall_mem_cons.mpr ⟨rfl, (List.forall_mem_cons.mpr ⟨rfl, (List.forall_mem_cons.mpr ⟨rfl, zs_nil⟩)⟩)⟩)⟩)⟩) ?_
      refine zt_X2_fill_L28 hX hr hR hd (res := r) (out := out) a0 i2 i4 ?_ ?_ N _ _ _ g
      · intro o ho
        subst ho
        exact hf _ (Option.some.inj h).symm
      · intro v20 S19 hx
        subst hx
        try dsimp only at h
        refine zw_iinc (v := (i4 + (1 : Int32))) hX dX2_fill_128 rfl rfl (by decide) ?_
        refine zw_goto (tgt := 19) hX dX2_fill_131 (by decide) ?_
        refine zw_sub (lv' := [(0, .ref a0), (2, .int i2), (3, .int v20), (4, .int (i4 + (1 : Int32)))]) (List.forall_mem_cons.mpr ⟨rfl, (List.forall_mem_cons.mpr ⟨rfl, (List.forall_mem_cons.mpr ⟨rfl, (List.forall_mem_cons.mpr ⟨rfl, zs_nil⟩)⟩)⟩)⟩) ?_
        exact ih _ _ _ h
set_option maxHeartbeats 4000000 in
set_option maxRecDepth 100000 in
theorem zt_X2_fill {l : Launch} {V : zm_V} {N : Nat} {S : zm_S} {out : (Int32 × zm_S)} {d : Nat} {a0 : Nat} {i1 : Int32} {i2 : Int32} (hd : 3 ≤ d) (h : zf_X2_fill N a0 i1 i2 S = some out) : zm_Met l zk_E V yX2_fill (.code yX2_fill cX2_fill 8 (some .int)) d [.ref a0, .int i1, .int i2] S 0 0 (zo_i out) zo_x := by
  refine zm_of (by decide +kernel) (Nat.le_of_ble_eq_true rfl) ?_
  intro p e R s m args below meth c hRR hX hr hxt
  have hR : R.frames = d ∧ R.locals = 64 * d := by rw [hRR]; exact ⟨rfl, rfl⟩
  have hX : zm_X p R s m args meth c RX2 "fill" cX2_fill 8 zk_E V 0 0 := hX
  unfold zf_X2_fill at h
  refine zw_sub (lv' := [(0, .ref a0), (1, .int i1), (2, .int i2)]) (List.forall_mem_cons.mpr ⟨rfl, (List.forall_mem_cons.mpr ⟨rfl, (List.forall_mem_cons.mpr ⟨rfl, zs_nil⟩)⟩)⟩) ?_
  refine zw_iconst (v := (1 : Int32)) hX dX2_fill_0 (by decide) ?_
  refine zw_istore_n hX dX2_fill_1 (by decide) ?_
  refine zw_aload_n hX dX2_fill_2 rfl ?_
  obtain ⟨b1, g, h⟩ := zb_some h
  refine zw_getr hX zl_X2_20 dX2_fill_3 g ?_
  refine zw_iload_n hX dX2_fill_6 rfl ?_
  refine zw_iload_n hX dX2_fill_7 rfl ?_
  obtain ⟨S2, g, h⟩ := zb_some h
  refine zw_si hX dX2_fill_8 g ?_
  refine zw_aload_n hX dX2_fill_9 rfl ?_
  obtain ⟨b3, g, h⟩ := zb_some h
  refine zw_getr hX zl_X2_48 dX2_fill_10 g ?_
  refine zw_iconst (v := (0 : Int32)) hX dX2_fill_13 (by decide) ?_
  refine zw_iload_n hX dX2_fill_14 rfl ?_
  obtain ⟨S4, g, h⟩ := zb_some h
  refine zw_si hX dX2_fill_15 g ?_
  refine zw_iconst (v := (0 : Int32)) hX dX2_fill_16 (by decide) ?_
  refine zw_istore hX dX2_fill_17 (by decide) ?_
  obtain ⟨r, g, h⟩ := zb_some h
  refine zw_sub (lv' := [(0, .ref a0), (2, .int i2), (3, .int (1 : Int32)), (4, .int (0 : Int32))]) (List.forall_mem_cons.mpr ⟨rfl, (List.forall_mem_cons.mpr ⟨rfl, (List.forall_mem_cons.mpr ⟨rfl, (List.forall_mem_cons.mpr ⟨rfl, zs_nil⟩)⟩)⟩)⟩) ?_
  refine zt_X2_fill_L19 hX hr hR hd (res := r) (out := out) a0 i2 ?_ ?_ N _ _ _ g
  · intro o ho
    subst ho
    exact Option.some.inj h
  · intro v22 S21 hx
    subst hx
    try dsimp only at h
    refine zw_iload_n hX dX2_fill_134 rfl ?_
    obtain rfl := Option.some.inj h
    exact zw_iret hX hr dX2_fill_135 rfl ⟨rfl, rfl⟩
set_option maxHeartbeats 4000000 in
set_option maxRecDepth 100000 in
theorem zt_X2_fillFromEdge {l : Launch} {V : zm_V} {N : Nat} {S : zm_S} {out : (Unit × zm_S)} {d : Nat} {a0 : Nat} {i1 : Int32} {i2 : Int32} (hd : 4 ≤ d) (h : zf_X2_fillFromEdge N a0 i1 i2 S = some out) : zm_Met l zk_E V yX2_fillFromEdge (.code yX2_fillFromEdge cX2_fillFromEdge 3 none) d [.ref a0, .int i1, .int i2] S 0 0 (zo_v out) zo_x := by
  refine zm_of (by decide +kernel) (Nat.le_of_ble_eq_true rfl) ?_
  intro p e R s m args below meth c hRR hX hr hxt
  have hR : R.frames = d ∧ R.locals = 64 * d := by rw [hRR]; exact ⟨rfl, rfl⟩
  have hX : zm_X p R s m args meth c RX2 "fillFromEdge" cX2_fillFromEdge 3 zk_E V 0 0 := hX
  unfold zf_X2_fillFromEdge at h
  refine zw_sub (lv' := [(0, .ref a0), (1, .int i1), (2, .int i2)]) (List.forall_mem_cons.mpr ⟨rfl, (List.forall_mem_cons.mpr ⟨rfl, (List.forall_mem_cons.mpr ⟨rfl, zs_nil⟩)⟩)⟩) ?_
  refine zw_aload_n hX dX2_fillFromEdge_0 rfl ?_
  obtain ⟨b1, g, h⟩ := zb_some h
  refine zw_getr hX zl_X2_20 dX2_fillFromEdge_1 g ?_
  refine zw_iload_n hX dX2_fillFromEdge_4 rfl ?_
  obtain ⟨v2, g, h⟩ := zb_some h
  refine zw_xi hX dX2_fillFromEdge_5 g ?_
  refine zw_bipush (v := (-3 : Int32)) hX dX2_fillFromEdge_6 (by decide) ?_
  refine zw_icmp_ne (tgt := 28) hX dX2_fillFromEdge_8 (by decide) (fun c8 => ?_) (fun c8 => ?_)
  · rw [if_neg c8] at h
    obtain rfl := Option.some.inj h
    exact zw_vret hX hr dX2_fillFromEdge_28 ⟨rfl, rfl⟩
  · rw [if_pos c8] at h
    refine zw_aload_n hX dX2_fillFromEdge_11 rfl ?_
    refine zw_iload_n hX dX2_fillFromEdge_12 rfl ?_
    refine zw_iload_n hX dX2_fillFromEdge_13 rfl ?_
    obtain ⟨_, gi, h⟩ := zb_some h
    obtain ⟨r4, g, h⟩ := zb_some h
    refine zc_Vi (as := [.int i1, .int i2]) hX gi (zt_X2_wallBeside (d := d - 1) (by omega) g) zl_X2_124 rfl dX2_fillFromEdge_14 ⟨rfl, rfl, Nat.le_of_ble_eq_true rfl⟩ ⟨by omega, by omega⟩ ?_
    refine zw_iconst (v := (-1 : Int32)) hX dX2_fillFromEdge_17 (by decide) ?_
    refine zw_icmp_ne (tgt := 28) hX dX2_fillFromEdge_18 (by decide) (fun c18 => ?_) (fun c18 => ?_)
    · rw [if_neg c18] at h
      obtain rfl := Option.some.inj h
      exact zw_vret hX hr dX2_fillFromEdge_28 ⟨rfl, rfl⟩
    · rw [if_pos c18] at h
      refine zw_aload_n hX dX2_fillFromEdge_21 rfl ?_
      refine zw_iload_n hX dX2_fillFromEdge_22 rfl ?_
      refine zw_iconst (v := (-1 : Int32)) hX dX2_fillFromEdge_23 (by decide) ?_
      obtain ⟨_, gi, h⟩ := zb_some h
      obtain ⟨r6, g, h⟩ := zb_some h
      refine zc_Vi (as := [.int i1, .int (-1 : Int32)]) hX gi (zt_X2_fill (d := d - 1) (by omega) g) zl_X2_122 rfl dX2_fillFromEdge_24 ⟨rfl, rfl, Nat.le_of_ble_eq_true rfl⟩ ⟨by omega, by omega⟩ ?_
      refine zw_pop hX dX2_fillFromEdge_27 rfl ?_
      obtain rfl := Option.some.inj h
      exact zw_vret hX hr dX2_fillFromEdge_28 ⟨rfl, rfl⟩
set_option maxHeartbeats 4000000 in
set_option maxRecDepth 100000 in
theorem zt_X2_fillSpaces_L11 {p : Program} {l : Launch} {e : Env} {R : Room} {s : State} {m : MethodId} {args : Array Value} {below : List Frame} {meth : Method} {c : Code} {V : zm_V} {mc ms d rc rs : Nat} (hX : zm_X p R s m args meth c RX2 "fillSpaces" cX2_fillSpaces 2 zk_E V mc ms) (hr : meth.sig.returnType = none) (hR : R.frames = d ∧ R.locals = 64 * d) (hd : 5 ≤ d) {N : Nat} {res : (Unit × zm_S) ⊕ ((Unit) × zm_S)} {out : (Unit × zm_S)} (a0 : Nat) (hf : ∀ o, res = .inl o → o = out) (hk : ∀ (S' : zm_S), res = .inr ((), S') → zw p l e R s m args below meth c (vx_MQ below (zm_Qc zk_E V (zo_v out)) (zm_XC zk_E V zo_x) args s mc ms (fun q => V.2.2.2.1 ≤ q)) 2 zk_E V mc ms 65 [(0, .ref a0)] [] S' rc rs) : ∀ (n : Nat) (i1 : Int32) (S : zm_S), zf_X2_fillSpaces_L11 N n a0 i1 S = some res → zw p l e R s m args below meth c (vx_MQ below (zm_Qc zk_E V (zo_v out)) (zm_XC zk_E V zo_x) args s mc ms (fun q => V.2.2.2.1 ≤ q)) 2 zk_E V mc ms 11 [(0, .ref a0), (1, .int i1)] [] S rc rs := by
  intro n
  induction n with
  | zero => intro i1 S h; cases h
  | succ n ih =>
    intro i1 S h
    rw [zf_X2_fillSpaces_L11] at h
    refine zw_iload_n hX dX2_fillSpaces_11 rfl ?_
    refine zw_bipush (v := (24 : Int32)) hX dX2_fillSpaces_12 (by decide) ?_
    refine zw_icmp_ge (tgt := 65) hX dX2_fillSpaces_14 (by decide) (fun c14 => ?_) (fun c14 => ?_)
    · rw [if_pos c14] at h
      refine zw_sub (lv' := [(0, .ref a0)]) (List.forall_mem_cons.mpr ⟨rfl, zs_nil⟩) ?_
      exact hk  _ (Option.some.inj h).symm
    · rw [if_neg c14] at h
      refine zw_aload_n hX dX2_fillSpaces_17 rfl ?_
      refine zw_bipush (v := (23 : Int32)) hX dX2_fillSpaces_18 (by decide) ?_
      refine zw_iload_n hX dX2_fillSpaces_20 rfl ?_
      obtain ⟨r5, g, h⟩ := zb_some h
      refine zc_Si (as := [.int (23 : Int32), .int i1]) hX (zt_X2_cellNumber (d := d - 1) (by omega) g) zl_X2_114 dX2_fillSpaces_21 ⟨rfl, rfl, Nat.le_of_ble_eq_true rfl⟩ ⟨by omega, by omega⟩ ?_
      refine zw_iconst (v := (0 : Int32)) hX dX2_fillSpaces_24 (by decide) ?_
      obtain ⟨_, gi, h⟩ := zb_some h
      obtain ⟨r7, g, h⟩ := zb_some h
      refine zc_Vv (as := [.int r5.1, .int (0 : Int32)]) hX gi (zt_X2_fillFromEdge (d := d - 1) (by omega) g) zl_X2_118 rfl dX2_fillSpaces_25 ⟨rfl, rfl, Nat.le_of_ble_eq_true rfl⟩ ⟨by omega, by omega⟩ ?_
      refine zw_aload_n hX dX2_fillSpaces_28 rfl ?_
      refine zw_iconst (v := (0 : Int32)) hX dX2_fillSpaces_29 (by decide) ?_
      refine zw_iload_n hX dX2_fillSpaces_30 rfl ?_
      obtain ⟨r9, g, h⟩ := zb_some h
      refine zc_Si (as := [.int (0 : Int32), .int i1]) hX (zt_X2_cellNumber (d := d - 1) (by omega) g) zl_X2_114 dX2_fillSpaces_31 ⟨rfl, rfl, Nat.le_of_ble_eq_true rfl⟩ ⟨by omega, by omega⟩ ?_
      refine zw_iconst (v := (1 : Int32)) hX dX2_fillSpaces_34 (by decide) ?_
      obtain ⟨_, gi, h⟩ := zb_some h
      obtain ⟨r11, g, h⟩ := zb_some h
      refine zc_Vv (as := [.int r9.1, .int (1 : Int32)]) hX gi (zt_X2_fillFromEdge (d := d - 1) (by omega) g) zl_X2_118 rfl dX2_fillSpaces_35 ⟨rfl, rfl, Nat.le_of_ble_eq_true rfl⟩ ⟨by omega, by omega⟩ ?_
      refine zw_aload_n hX dX2_fillSpaces_38 rfl ?_
      refine zw_iload_n hX dX2_fillSpaces_39 rfl ?_
      refine zw_bipush (v := (23 : Int32)) hX dX2_fillSpaces_40 (by decide) ?_
      obtain ⟨r13, g, h⟩ := zb_some h
      refine zc_Si (as := [.int i1, .int (23 : Int32)]) hX (zt_X2_cellNumber (d := d - 1) (by omega) g) zl_X2_114 dX2_fillSpaces_42 ⟨rfl, rfl, Nat.le_of_ble_eq_true rfl⟩ ⟨by omega, by omega⟩ ?_
      refine zw_iconst (v := (2 : Int32)) hX dX2_fillSpaces_45 (by decide) ?_
      obtain ⟨_, gi, h⟩ := zb_some h
      obtain ⟨r15, g, h⟩ := zb_some h
      refine zc_Vv (as := [.int r13.1, .int (2 : Int32)]) hX gi (zt_X2_fillFromEdge (d := d - 1) (by omega) g) zl_X2_118 rfl dX2_fillSpaces_46 ⟨rfl, rfl, Nat.le_of_ble_eq_true rfl⟩ ⟨by omega, by omega⟩ ?_
      refine zw_aload_n hX dX2_fillSpaces_49 rfl ?_
      refine zw_iload_n hX dX2_fillSpaces_50 rfl ?_
      refine zw_iconst (v := (0 : Int32)) hX dX2_fillSpaces_51 (by decide) ?_
      obtain ⟨r17, g, h⟩ := zb_some h
      refine zc_Si (as := [.int i1, .int (0 : Int32)]) hX (zt_X2_cellNumber (d := d - 1) (by omega) g) zl_X2_114 dX2_fillSpaces_52 ⟨rfl, rfl, Nat.le_of_ble_eq_true rfl⟩ ⟨by omega, by omega⟩ ?_
      refine zw_iconst (v := (3 : Int32)) hX dX2_fillSpaces_55 (by decide) ?_
      obtain ⟨_, gi, h⟩ := zb_some h
      obtain ⟨r19, g, h⟩ := zb_some h
      refine zc_Vv (as := [.int r17.1, .int (3 : Int32)]) hX gi (zt_X2_fillFromEdge (d := d - 1) (by omega) g) zl_X2_118 rfl dX2_fillSpaces_56 ⟨rfl, rfl, Nat.le_of_ble_eq_true rfl⟩ ⟨by omega, by omega⟩ ?_
      refine zw_iinc (v := (i1 + (1 : Int32))) hX dX2_fillSpaces_59 rfl rfl (by decide) ?_
      refine zw_goto (tgt := 11) hX dX2_fillSpaces_62 (by decide) ?_
      refine zw_sub (lv' := [(0, .ref a0), (1, .int (i1 + (1 : Int32)))]) (List.forall_mem_cons.mpr ⟨rfl, (List.forall_mem_cons.mpr ⟨rfl, zs_nil⟩)⟩) ?_
      exact ih _ _ h
set_option maxHeartbeats 4000000 in
set_option maxRecDepth 100000 in
theorem zt_X2_fillSpaces_L72 {p : Program} {l : Launch} {e : Env} {R : Room} {s : State} {m : MethodId} {args : Array Value} {below : List Frame} {meth : Method} {c : Code} {V : zm_V} {mc ms d rc rs : Nat} (hX : zm_X p R s m args meth c RX2 "fillSpaces" cX2_fillSpaces 2 zk_E V mc ms) (hr : meth.sig.returnType = none) (hR : R.frames = d ∧ R.locals = 64 * d) (hd : 5 ≤ d) {N : Nat} {res : (Unit × zm_S) ⊕ ((Unit) × zm_S)} {out : (Unit × zm_S)} (a0 : Nat) (hf : ∀ o, res = .inl o → o = out) (hk : ∀ (S' : zm_S), res = .inr ((), S') → zw p l e R s m args below meth c (vx_MQ below (zm_Qc zk_E V (zo_v out)) (zm_XC zk_E V zo_x) args s mc ms (fun q => V.2.2.2.1 ≤ q)) 2 zk_E V mc ms 133 [] [] S' rc rs) : ∀ (n : Nat) (i1 : Int32) (S : zm_S), zf_X2_fillSpaces_L72 N n a0 i1 S = some res → zw p l e R s m args below meth c (vx_MQ below (zm_Qc zk_E V (zo_v out)) (zm_XC zk_E V zo_x) args s mc ms (fun q => V.2.2.2.1 ≤ q)) 2 zk_E V mc ms 72 [(0, .ref a0), (1, .int i1)] [] S rc rs := by
  intro n
  induction n with
  | zero => intro i1 S h; cases h
  | succ n ih =>
    intro i1 S h
    rw [zf_X2_fillSpaces_L72] at h
    refine zw_iload_n hX dX2_fillSpaces_72 rfl ?_
    refine zw_sipush (v := (576 : Int32)) hX dX2_fillSpaces_73 (by decide) ?_
    refine zw_icmp_ge (tgt := 133) hX dX2_fillSpaces_76 (by decide) (fun c76 => ?_) (fun c76 => ?_)
    · rw [if_pos c76] at h
      refine zw_sub (lv' := []) zs_nil ?_
      exact hk  _ (Option.some.inj h).symm
    · rw [if_neg c76] at h
      refine zw_aload_n hX dX2_fillSpaces_79 rfl ?_
      obtain ⟨b22, g, h⟩ := zb_some h
      refine zw_getr hX zl_X2_20 dX2_fillSpaces_80 g ?_
      refine zw_iload_n hX dX2_fillSpaces_83 rfl ?_
      obtain ⟨v23, g, h⟩ := zb_some h
      refine zw_xi hX dX2_fillSpaces_84 g ?_
      refine zw_bipush (v := (-3 : Int32)) hX dX2_fillSpaces_85 (by decide) ?_
      refine zw_icmp_ne (tgt := 127) hX dX2_fillSpaces_87 (by decide) (fun c87 => ?_) (fun c87 => ?_)
      · rw [if_neg c87] at h
        refine zw_iinc (v := (i1 + (1 : Int32))) hX dX2_fillSpaces_127 rfl rfl (by decide) ?_
        refine zw_goto (tgt := 72) hX dX2_fillSpaces_130 (by decide) ?_
        refine zw_sub (lv' := [(0, .ref a0), (1, .int (i1 + (1 : Int32)))]) (List.forall_mem_cons.mpr ⟨rfl, (List.forall_mem_cons.mpr ⟨rfl, zs_nil⟩)⟩) ?_
        exact ih _ _ h
      · rw [if_pos c87] at h
        refine zw_aload_n hX dX2_fillSpaces_90 rfl ?_
        obtain ⟨v24, g, h⟩ := zb_some h
        refine zw_geti hX zl_X2_58 dX2_fillSpaces_91 g ?_
        refine zw_bipush (v := (100 : Int32)) hX dX2_fillSpaces_94 (by decide) ?_
        refine zw_icmp_ge (tgt := 127) hX dX2_fillSpaces_96 (by decide) (fun c96 => ?_) (fun c96 => ?_)
        · rw [if_pos c96] at h
          refine zw_iinc (v := (i1 + (1 : Int32))) hX dX2_fillSpaces_127 rfl rfl (by decide) ?_
          refine zw_goto (tgt := 72) hX dX2_fillSpaces_130 (by decide) ?_
          refine zw_sub (lv' := [(0, .ref a0), (1, .int (i1 + (1 : Int32)))]) (List.forall_mem_cons.mpr ⟨rfl, (List.forall_mem_cons.mpr ⟨rfl, zs_nil⟩)⟩) ?_
          exact ih _ _ h
        · rw [if_neg c96] at h
          refine zw_aload_n hX dX2_fillSpaces_99 rfl ?_
          obtain ⟨b25, g, h⟩ := zb_some h
          refine zw_getr hX zl_X2_33 dX2_fillSpaces_100 g ?_
          refine zw_aload_n hX dX2_fillSpaces_103 rfl ?_
          obtain ⟨v26, g, h⟩ := zb_some h
          refine zw_geti hX zl_X2_58 dX2_fillSpaces_104 g ?_
          refine zw_aload_n hX dX2_fillSpaces_107 rfl ?_
          refine zw_iload_n hX dX2_fillSpaces_108 rfl ?_
          refine zw_aload_n hX dX2_fillSpaces_109 rfl ?_
          obtain ⟨v27, g, h⟩ := zb_some h
          refine zw_geti hX zl_X2_58 dX2_fillSpaces_110 g ?_
          obtain ⟨_, gi, h⟩ := zb_some h
          obtain ⟨r29, g, h⟩ := zb_some h
          refine zc_Vi (as := [.int i1, .int v27]) hX gi (zt_X2_fill (d := d - 1) (by omega) g) zl_X2_122 rfl dX2_fillSpaces_113 ⟨rfl, rfl, Nat.le_of_ble_eq_true rfl⟩ ⟨by omega, by omega⟩ ?_
          obtain ⟨S30, g, h⟩ := zb_some h
          refine zw_si hX dX2_fillSpaces_116 g ?_
          refine zw_aload_n hX dX2_fillSpaces_117 rfl ?_
          refine zw_dup hX dX2_fillSpaces_118 rfl ?_
          obtain ⟨v31, g, h⟩ := zb_some h
          refine zw_geti hX zl_X2_58 dX2_fillSpaces_119 g ?_
          refine zw_iconst (v := (1 : Int32)) hX dX2_fillSpaces_122 (by decide) ?_
          refine zw_iadd hX dX2_fillSpaces_123 ?_
          obtain ⟨S32, g, h⟩ := zb_some h
          refine zw_putv hX zl_X2_58 zt_2_3 dX2_fillSpaces_124 rfl rfl g ?_
          refine zw_iinc (v := (i1 + (1 : Int32))) hX dX2_fillSpaces_127 rfl rfl (by decide) ?_
          refine zw_goto (tgt := 72) hX dX2_fillSpaces_130 (by decide) ?_
          refine zw_sub (lv' := [(0, .ref a0), (1, .int (i1 + (1 : Int32)))]) (List.forall_mem_cons.mpr ⟨rfl, (List.forall_mem_cons.mpr ⟨rfl, zs_nil⟩)⟩) ?_
          exact ih _ _ h
set_option maxHeartbeats 4000000 in
set_option maxRecDepth 100000 in
theorem zt_X2_fillSpaces {l : Launch} {V : zm_V} {N : Nat} {S : zm_S} {out : (Unit × zm_S)} {d : Nat} {a0 : Nat} (hd : 5 ≤ d) (h : zf_X2_fillSpaces N a0 S = some out) : zm_Met l zk_E V yX2_fillSpaces (.code yX2_fillSpaces cX2_fillSpaces 2 none) d [.ref a0] S 0 0 (zo_v out) zo_x := by
  refine zm_of (by decide +kernel) (Nat.le_of_ble_eq_true rfl) ?_
  intro p e R s m args below meth c hRR hX hr hxt
  have hR : R.frames = d ∧ R.locals = 64 * d := by rw [hRR]; exact ⟨rfl, rfl⟩
  have hX : zm_X p R s m args meth c RX2 "fillSpaces" cX2_fillSpaces 2 zk_E V 0 0 := hX
  unfold zf_X2_fillSpaces at h
  refine zw_sub (lv' := [(0, .ref a0)]) (List.forall_mem_cons.mpr ⟨rfl, zs_nil⟩) ?_
  refine zw_aload_n hX dX2_fillSpaces_0 rfl ?_
  obtain ⟨b1, g, h⟩ := zb_some h
  refine zw_getr hX zl_X2_20 dX2_fillSpaces_1 g ?_
  refine zw_bipush (v := (-3 : Int32)) hX dX2_fillSpaces_4 (by decide) ?_
  obtain ⟨r3, g, h⟩ := zb_some h
  refine zc_Sv (as := [.ref b1, .int (-3 : Int32)]) hX (zt_J7_fill_53178 (d := d - 1) (by omega) g) zl_X2_88 dX2_fillSpaces_6 ⟨rfl, rfl, Nat.le_of_ble_eq_true rfl⟩ ⟨by omega, by omega⟩ ?_
  refine zw_iconst (v := (0 : Int32)) hX dX2_fillSpaces_9 (by decide) ?_
  refine zw_istore_n hX dX2_fillSpaces_10 (by decide) ?_
  obtain ⟨r, g, h⟩ := zb_some h
  refine zw_sub (lv' := [(0, .ref a0), (1, .int (0 : Int32))]) (List.forall_mem_cons.mpr ⟨rfl, (List.forall_mem_cons.mpr ⟨rfl, zs_nil⟩)⟩) ?_
  refine zt_X2_fillSpaces_L11 hX hr hR hd (res := r) (out := out) a0 ?_ ?_ N _ _ g
  · intro o ho
    subst ho
    exact Option.some.inj h
  · intro  S20 hx
    subst hx
    try dsimp only at h
    refine zw_aload_n hX dX2_fillSpaces_65 rfl ?_
    refine zw_iconst (v := (0 : Int32)) hX dX2_fillSpaces_66 (by decide) ?_
    obtain ⟨S21, g, h⟩ := zb_some h
    refine zw_putv hX zl_X2_58 zt_2_3 dX2_fillSpaces_67 rfl rfl g ?_
    refine zw_iconst (v := (0 : Int32)) hX dX2_fillSpaces_70 (by decide) ?_
    refine zw_istore_n hX dX2_fillSpaces_71 (by decide) ?_
    obtain ⟨r, g, h⟩ := zb_some h
    refine zw_sub (lv' := [(0, .ref a0), (1, .int (0 : Int32))]) (List.forall_mem_cons.mpr ⟨rfl, (List.forall_mem_cons.mpr ⟨rfl, zs_nil⟩)⟩) ?_
    refine zt_X2_fillSpaces_L72 hX hr hR hd (res := r) (out := out) a0 ?_ ?_ N _ _ g
    · intro o ho
      subst ho
      exact Option.some.inj h
    · intro  S33 hx
      subst hx
      try dsimp only at h
      obtain rfl := Option.some.inj h
      exact zw_vret hX hr dX2_fillSpaces_133 ⟨rfl, rfl⟩
set_option maxHeartbeats 4000000 in
set_option maxRecDepth 100000 in
theorem zt_X2_leftOf_J18 {p : Program} {l : Launch} {e : Env} {R : Room} {s : State} {m : MethodId} {args : Array Value} {below : List Frame} {meth : Method} {c : Code} {V : zm_V} {mc ms d rc rs : Nat} (hX : zm_X p R s m args meth c RX2 "leftOf" cX2_leftOf 4 zk_E V mc ms) (hr : meth.sig.returnType = (some .int)) (hR : R.frames = d ∧ R.locals = 64 * d) (hd : 2 ≤ d) {N : Nat} {i2 : Int32} {i3 : Int32} {t0 : Nat} {t1 : Int32} {out : (Int32 × zm_S)} {S : zm_S} (h : zf_X2_leftOf_J18 N i2 i3 t0 t1 S = some out) : zw p l e R s m args below meth c (vx_MQ below (zm_Qc zk_E V (zo_i out)) (zm_XC zk_E V zo_x) args s mc ms (fun q => V.2.2.2.1 ≤ q)) 4 zk_E V mc ms 18 [(2, .int i2), (3, .int i3)] [.int t1, .ref t0] S rc rs := by
  unfold zf_X2_leftOf_J18 at h
  refine zw_iload_n hX dX2_leftOf_18 rfl ?_
  refine zw_iconst (v := (2 : Int32)) hX dX2_leftOf_19 (by decide) ?_
  refine zw_icmp_lt (tgt := 29) hX dX2_leftOf_20 (by decide) (fun c20 => ?_) (fun c20 => ?_)
  · rw [if_pos c20] at h
    refine zw_iload_n hX dX2_leftOf_29 rfl ?_
    obtain ⟨_, gi, h⟩ := zb_some h
    obtain ⟨r2, g, h⟩ := zb_some h
    refine zc_Vi (as := [.int t1, .int i2]) hX gi (zt_X2_spaceAt (d := d - 1) (by omega) g) zl_X2_136 rfl dX2_leftOf_30 ⟨rfl, rfl, Nat.le_of_ble_eq_true rfl⟩ ⟨by omega, by omega⟩ ?_
    obtain rfl := Option.some.inj h
    exact zw_iret hX hr dX2_leftOf_33 rfl ⟨rfl, rfl⟩
  · rw [if_neg c20] at h
    refine zw_iload_n hX dX2_leftOf_23 rfl ?_
    refine zw_iconst (v := (1 : Int32)) hX dX2_leftOf_24 (by decide) ?_
    refine zw_isub hX dX2_leftOf_25 ?_
    refine zw_goto (tgt := 30) hX dX2_leftOf_26 (by decide) ?_
    obtain ⟨_, gi, h⟩ := zb_some h
    obtain ⟨r4, g, h⟩ := zb_some h
    refine zc_Vi (as := [.int t1, .int (i2 - (1 : Int32))]) hX gi (zt_X2_spaceAt (d := d - 1) (by omega) g) zl_X2_136 rfl dX2_leftOf_30 ⟨rfl, rfl, Nat.le_of_ble_eq_true rfl⟩ ⟨by omega, by omega⟩ ?_
    obtain rfl := Option.some.inj h
    exact zw_iret hX hr dX2_leftOf_33 rfl ⟨rfl, rfl⟩
set_option maxHeartbeats 4000000 in
set_option maxRecDepth 100000 in
theorem zt_X2_leftOf_J11 {p : Program} {l : Launch} {e : Env} {R : Room} {s : State} {m : MethodId} {args : Array Value} {below : List Frame} {meth : Method} {c : Code} {V : zm_V} {mc ms d rc rs : Nat} (hX : zm_X p R s m args meth c RX2 "leftOf" cX2_leftOf 4 zk_E V mc ms) (hr : meth.sig.returnType = (some .int)) (hR : R.frames = d ∧ R.locals = 64 * d) (hd : 2 ≤ d) {N : Nat} {i1 : Int32} {i2 : Int32} {i3 : Int32} {t0 : Nat} {out : (Int32 × zm_S)} {S : zm_S} (h : zf_X2_leftOf_J11 N i1 i2 i3 t0 S = some out) : zw p l e R s m args below meth c (vx_MQ below (zm_Qc zk_E V (zo_i out)) (zm_XC zk_E V zo_x) args s mc ms (fun q => V.2.2.2.1 ≤ q)) 4 zk_E V mc ms 11 [(1, .int i1), (2, .int i2), (3, .int i3)] [.ref t0] S rc rs := by
  unfold zf_X2_leftOf_J11 at h
  refine zw_iload_n hX dX2_leftOf_11 rfl ?_
  refine zw_iconst (v := (1 : Int32)) hX dX2_leftOf_12 (by decide) ?_
  refine zw_isub hX dX2_leftOf_13 ?_
  refine zw_goto (tgt := 18) hX dX2_leftOf_14 (by decide) ?_
  refine zw_sub (lv' := [(2, .int i2), (3, .int i3)]) (List.forall_mem_cons.mpr ⟨rfl, (List.forall_mem_cons.mpr ⟨rfl, zs_nil⟩)⟩) ?_
  exact zt_X2_leftOf_J18 hX hr hR hd h
set_option maxHeartbeats 4000000 in
set_option maxRecDepth 100000 in
theorem zt_X2_leftOf {l : Launch} {V : zm_V} {N : Nat} {S : zm_S} {out : (Int32 × zm_S)} {d : Nat} {a0 : Nat} {i1 : Int32} {i2 : Int32} {i3 : Int32} (hd : 2 ≤ d) (h : zf_X2_leftOf N a0 i1 i2 i3 S = some out) : zm_Met l zk_E V yX2_leftOf (.code yX2_leftOf cX2_leftOf 4 (some .int)) d [.ref a0, .int i1, .int i2, .int i3] S 0 0 (zo_i out) zo_x := by
  refine zm_of (by decide +kernel) (Nat.le_of_ble_eq_true rfl) ?_
  intro p e R s m args below meth c hRR hX hr hxt
  have hR : R.frames = d ∧ R.locals = 64 * d := by rw [hRR]; exact ⟨rfl, rfl⟩
  have hX : zm_X p R s m args meth c RX2 "leftOf" cX2_leftOf 4 zk_E V 0 0 := hX
  unfold zf_X2_leftOf at h
  refine zw_sub (lv' := [(0, .ref a0), (1, .int i1), (2, .int i2), (3, .int i3)]) (List.forall_mem_cons.mpr ⟨rfl, (List.forall_mem_cons.mpr ⟨rfl, (List.forall_mem_cons.mpr ⟨rfl, (List.forall_mem_cons.mpr ⟨rfl, zs_nil⟩)⟩)⟩)⟩) ?_
  refine zw_aload_n hX dX2_leftOf_0 rfl ?_
  refine zw_iload_n hX dX2_leftOf_1 rfl ?_
  refine zw_iconst (v := (1 : Int32)) hX dX2_leftOf_2 (by decide) ?_
  refine zw_icmp_eq (tgt := 11) hX dX2_leftOf_3 (by decide) (fun c3 => ?_) (fun c3 => ?_)
  · rw [if_pos c3] at h
    refine zw_sub (lv' := [(1, .int i1), (2, .int i2), (3, .int i3)]) (List.forall_mem_cons.mpr ⟨rfl, (List.forall_mem_cons.mpr ⟨rfl, (List.forall_mem_cons.mpr ⟨rfl, zs_nil⟩)⟩)⟩) ?_
    exact zt_X2_leftOf_J11 hX hr hR hd h
  · rw [if_neg c3] at h
    refine zw_iload_n hX dX2_leftOf_6 rfl ?_
    refine zw_iconst (v := (2 : Int32)) hX dX2_leftOf_7 (by decide) ?_
    refine zw_icmp_ne (tgt := 17) hX dX2_leftOf_8 (by decide) (fun c8 => ?_) (fun c8 => ?_)
    · rw [if_neg c8] at h
      refine zw_iload_n hX dX2_leftOf_17 rfl ?_
      refine zw_sub (lv' := [(2, .int i2), (3, .int i3)]) (List.forall_mem_cons.mpr ⟨rfl, (List.forall_mem_cons.mpr ⟨rfl, zs_nil⟩)⟩) ?_
      exact zt_X2_leftOf_J18 hX hr hR hd h
    · rw [if_pos c8] at h
      refine zw_sub (lv' := [(1, .int i1), (2, .int i2), (3, .int i3)]) (List.forall_mem_cons.mpr ⟨rfl, (List.forall_mem_cons.mpr ⟨rfl, (List.forall_mem_cons.mpr ⟨rfl, zs_nil⟩)⟩)⟩) ?_
      exact zt_X2_leftOf_J11 hX hr hR hd h
set_option maxHeartbeats 4000000 in
set_option maxRecDepth 100000 in
theorem zt_X2_pieceLength_L6 {p : Program} {l : Launch} {e : Env} {R : Room} {s : State} {m : MethodId} {args : Array Value} {below : List Frame} {meth : Method} {c : Code} {V : zm_V} {mc ms d rc rs : Nat} (hX : zm_X p R s m args meth c RX2 "pieceLength" cX2_pieceLength 6 zk_E V mc ms) (hr : meth.sig.returnType = (some .int)) (hR : R.frames = d ∧ R.locals = 64 * d) (hd : 2 ≤ d) {N : Nat} {res : (Int32 × zm_S) ⊕ ((Int32) × zm_S)} {out : (Int32 × zm_S)} (a0 : Nat) (i3 : Int32) (hf : ∀ o, res = .inl o → o = out) (hk : ∀ (x4 : Int32) (S' : zm_S), res = .inr (x4, S') → zw p l e R s m args below meth c (vx_MQ below (zm_Qc zk_E V (zo_i out)) (zm_XC zk_E V zo_x) args s mc ms (fun q => V.2.2.2.1 ≤ q)) 6 zk_E V mc ms 66 [(4, .int x4)] [] S' rc rs) : ∀ (n : Nat) (i1 : Int32) (i2 : Int32) (i4 : Int32) (i5 : Int32) (S : zm_S), zf_X2_pieceLength_L6 N n a0 i1 i2 i3 i4 i5 S = some res → zw p l e R s m args below meth c (vx_MQ below (zm_Qc zk_E V (zo_i out)) (zm_XC zk_E V zo_x) args s mc ms (fun q => V.2.2.2.1 ≤ q)) 6 zk_E V mc ms 6 [(0, .ref a0), (1, .int i1), (2, .int i2), (3, .int i3), (4, .int i4), (5, .int i5)] [] S rc rs := by
  intro n
  induction n with
  | zero => intro i1 i2 i4 i5 S h; cases h
  | succ n ih =>
    intro i1 i2 i4 i5 S h
    rw [zf_X2_pieceLength_L6] at h
    refine zw_iload hX dX2_pieceLength_6 rfl ?_
    refine zw_bipush (v := (24 : Int32)) hX dX2_pieceLength_8 (by decide) ?_
    refine zw_icmp_ge (tgt := 66) hX dX2_pieceLength_10 (by decide) (fun c10 => ?_) (fun c10 => ?_)
    · rw [if_pos c10] at h
      refine zw_sub (lv' := [(4, .int i4)]) (List.forall_mem_cons.mpr ⟨rfl, zs_nil⟩) ?_
      exact hk _ _ (Option.some.inj h).symm
    · rw [if_neg c10] at h
      refine zw_aload_n hX dX2_pieceLength_13 rfl ?_
      refine zw_iload_n hX dX2_pieceLength_14 rfl ?_
      refine zw_iload_n hX dX2_pieceLength_15 rfl ?_
      refine zw_iload_n hX dX2_pieceLength_16 rfl ?_
      obtain ⟨_, gi, h⟩ := zb_some h
      obtain ⟨r2, g, h⟩ := zb_some h
      refine zc_Vi (as := [.int i1, .int i2, .int i3]) hX gi (zt_X2_wallFrom (d := d - 1) (by omega) g) zl_X2_110 rfl dX2_pieceLength_17 ⟨rfl, rfl, Nat.le_of_ble_eq_true rfl⟩ ⟨by omega, by omega⟩ ?_
      refine zw_iconst (v := (-1 : Int32)) hX dX2_pieceLength_20 (by decide) ?_
      refine zw_icmp_eq (tgt := 66) hX dX2_pieceLength_21 (by decide) (fun c21 => ?_) (fun c21 => ?_)
      · rw [if_pos c21] at h
        refine zw_sub (lv' := [(4, .int i4)]) (List.forall_mem_cons.mpr ⟨rfl, zs_nil⟩) ?_
        exact hk _ _ (Option.some.inj h).symm
      · rw [if_neg c21] at h
        refine zw_iload_n hX dX2_pieceLength_24 rfl ?_
        refine zw_gets (C := "TowerHouse$Finding") (n := "SIDE_X") (d := "[I") (k := 2) hX (List.mem_of_getElem? (i := 1) rfl) (by decide) zl_X2_158 dX2_pieceLength_25 ?_
        refine zw_iload_n hX dX2_pieceLength_28 rfl ?_
        obtain ⟨v3, g, h⟩ := zb_some h
        refine zw_xi hX dX2_pieceLength_29 g ?_
        refine zw_iadd hX dX2_pieceLength_30 ?_
        refine zw_istore_n hX dX2_pieceLength_31 (by decide) ?_
        refine zw_iload_n hX dX2_pieceLength_32 rfl ?_
        refine zw_gets (C := "TowerHouse$Finding") (n := "SIDE_Y") (d := "[I") (k := 3) hX (List.mem_of_getElem? (i := 2) rfl) (by decide) zl_X2_161 dX2_pieceLength_33 ?_
        refine zw_iload_n hX dX2_pieceLength_36 rfl ?_
        obtain ⟨v4, g, h⟩ := zb_some h
        refine zw_xi hX dX2_pieceLength_37 g ?_
        refine zw_iadd hX dX2_pieceLength_38 ?_
        refine zw_istore_n hX dX2_pieceLength_39 (by decide) ?_
        refine zw_aload_n hX dX2_pieceLength_40 rfl ?_
        obtain ⟨b5, g, h⟩ := zb_some h
        refine zw_getr hX zl_X2_16 dX2_pieceLength_41 g ?_
        refine zw_iload_n hX dX2_pieceLength_44 rfl ?_
        refine zw_bipush (v := (25 : Int32)) hX dX2_pieceLength_45 (by decide) ?_
        refine zw_imul hX dX2_pieceLength_47 ?_
        refine zw_iload_n hX dX2_pieceLength_48 rfl ?_
        refine zw_iadd hX dX2_pieceLength_49 ?_
        obtain ⟨v6, g, h⟩ := zb_some h
        refine zw_xz hX dX2_pieceLength_50 g ?_
        refine zw_if_eq (tgt := 57) hX dX2_pieceLength_51 (by decide) (fun c51 => ?_) (fun c51 => ?_)
        · rw [if_pos c51] at h
          refine zw_iinc (v := (i4 + (1 : Int32))) hX dX2_pieceLength_57 rfl rfl (by decide) ?_
          refine zw_iinc (v := (i5 + (1 : Int32))) hX dX2_pieceLength_60 rfl rfl (by decide) ?_
          refine zw_goto (tgt := 6) hX dX2_pieceLength_63 (by decide) ?_
          refine zw_sub (lv' := [(0, .ref a0), (1, .int (i1 + v3)), (2, .int (i2 + v4)), (3, .int i3), (4, .int (i4 + (1 : Int32))), (5, .int (i5 + (1 : Int32)))]) (List.forall_mem_cons.mpr ⟨rfl, (List.forall_mem_cons.mpr ⟨rfl, (List.forall_mem_cons.mpr ⟨rfl, (List.forall_mem_cons.mpr ⟨rfl, (List.forall_mem_cons.mpr ⟨rfl, (List.forall_mem_cons.mpr ⟨rfl, zs_nil⟩)⟩)⟩)⟩)⟩)⟩) ?_
          exact ih _ _ _ _ _ h
        · rw [if_neg c51] at h
          refine zw_iload hX dX2_pieceLength_54 rfl ?_
          have hz := hf _ (Option.some.inj h).symm
          subst hz
          exact zw_iret hX hr dX2_pieceLength_56 rfl ⟨rfl, rfl⟩
set_option maxHeartbeats 4000000 in
set_option maxRecDepth 100000 in
theorem zt_X2_pieceLength {l : Launch} {V : zm_V} {N : Nat} {S : zm_S} {out : (Int32 × zm_S)} {d : Nat} {a0 : Nat} {i1 : Int32} {i2 : Int32} {i3 : Int32} (hd : 2 ≤ d) (h : zf_X2_pieceLength N a0 i1 i2 i3 S = some out) : zm_Met l zk_E V yX2_pieceLength (.code yX2_pieceLength cX2_pieceLength 6 (some .int)) d [.ref a0, .int i1, .int i2, .int i3] S 0 0 (zo_i out) zo_x := by
  refine zm_of (by decide +kernel) (Nat.le_of_ble_eq_true rfl) ?_
  intro p e R s m args below meth c hRR hX hr hxt
  have hR : R.frames = d ∧ R.locals = 64 * d := by rw [hRR]; exact ⟨rfl, rfl⟩
  have hX : zm_X p R s m args meth c RX2 "pieceLength" cX2_pieceLength 6 zk_E V 0 0 := hX
  unfold zf_X2_pieceLength at h
  refine zw_sub (lv' := [(0, .ref a0), (1, .int i1), (2, .int i2), (3, .int i3)]) (List.forall_mem_cons.mpr ⟨rfl, (List.forall_mem_cons.mpr ⟨rfl, (List.forall_mem_cons.mpr ⟨rfl, (List.forall_mem_cons.mpr ⟨rfl, zs_nil⟩)⟩)⟩)⟩) ?_
  refine zw_iconst (v := (1 : Int32)) hX dX2_pieceLength_0 (by decide) ?_
  refine zw_istore hX dX2_pieceLength_1 (by decide) ?_
  refine zw_iconst (v := (1 : Int32)) hX dX2_pieceLength_3 (by decide) ?_
  refine zw_istore hX dX2_pieceLength_4 (by decide) ?_
  obtain ⟨r, g, h⟩ := zb_some h
  refine zw_sub (lv' := [(0, .ref a0), (1, .int i1), (2, .int i2), (3, .int i3), (4, .int (1 : Int32)), (5, .int (1 : Int32))]) (List.forall_mem_cons.mpr ⟨rfl, (List.forall_mem_cons.mpr ⟨rfl, (List.forall_mem_cons.mpr ⟨rfl, (List.forall_mem_cons.mpr ⟨rfl, (List.forall_mem_cons.mpr ⟨rfl, (List.forall_mem_cons.mpr ⟨rfl, zs_nil⟩)⟩)⟩)⟩)⟩)⟩) ?_
  refine zt_X2_pieceLength_L6 hX hr hR hd (res := r) (out := out) a0 i3 ?_ ?_ N _ _ _ _ _ g
  · intro o ho
    subst ho
    exact Option.some.inj h
  · intro v8 S7 hx
    subst hx
    try dsimp only at h
    refine zw_iload hX dX2_pieceLength_66 rfl ?_
    obtain rfl := Option.some.inj h
    exact zw_iret hX hr dX2_pieceLength_68 rfl ⟨rfl, rfl⟩
set_option maxHeartbeats 4000000 in
set_option maxRecDepth 100000 in
theorem zt_X2_rightOf_J22 {p : Program} {l : Launch} {e : Env} {R : Room} {s : State} {m : MethodId} {args : Array Value} {below : List Frame} {meth : Method} {c : Code} {V : zm_V} {mc ms d rc rs : Nat} (hX : zm_X p R s m args meth c RX2 "rightOf" cX2_rightOf 4 zk_E V mc ms) (hr : meth.sig.returnType = (some .int)) (hR : R.frames = d ∧ R.locals = 64 * d) (hd : 2 ≤ d) {N : Nat} {i2 : Int32} {t0 : Nat} {t1 : Int32} {out : (Int32 × zm_S)} {S : zm_S} (h : zf_X2_rightOf_J22 N i2 t0 t1 S = some out) : zw p l e R s m args below meth c (vx_MQ below (zm_Qc zk_E V (zo_i out)) (zm_XC zk_E V zo_x) args s mc ms (fun q => V.2.2.2.1 ≤ q)) 4 zk_E V mc ms 22 [(2, .int i2)] [.int t1, .ref t0] S rc rs := by
  unfold zf_X2_rightOf_J22 at h
  refine zw_iload_n hX dX2_rightOf_22 rfl ?_
  refine zw_iconst (v := (1 : Int32)) hX dX2_rightOf_23 (by decide) ?_
  refine zw_isub hX dX2_rightOf_24 ?_
  refine zw_goto (tgt := 29) hX dX2_rightOf_25 (by decide) ?_
  obtain ⟨_, gi, h⟩ := zb_some h
  obtain ⟨r2, g, h⟩ := zb_some h
  refine zc_Vi (as := [.int t1, .int (i2 - (1 : Int32))]) hX gi (zt_X2_spaceAt (d := d - 1) (by omega) g) zl_X2_136 rfl dX2_rightOf_29 ⟨rfl, rfl, Nat.le_of_ble_eq_true rfl⟩ ⟨by omega, by omega⟩ ?_
  obtain rfl := Option.some.inj h
  exact zw_iret hX hr dX2_rightOf_32 rfl ⟨rfl, rfl⟩
set_option maxHeartbeats 4000000 in
set_option maxRecDepth 100000 in
theorem zt_X2_rightOf_J13 {p : Program} {l : Launch} {e : Env} {R : Room} {s : State} {m : MethodId} {args : Array Value} {below : List Frame} {meth : Method} {c : Code} {V : zm_V} {mc ms d rc rs : Nat} (hX : zm_X p R s m args meth c RX2 "rightOf" cX2_rightOf 4 zk_E V mc ms) (hr : meth.sig.returnType = (some .int)) (hR : R.frames = d ∧ R.locals = 64 * d) (hd : 2 ≤ d) {N : Nat} {i2 : Int32} {i3 : Int32} {t0 : Nat} {t1 : Int32} {out : (Int32 × zm_S)} {S : zm_S} (h : zf_X2_rightOf_J13 N i2 i3 t0 t1 S = some out) : zw p l e R s m args below meth c (vx_MQ below (zm_Qc zk_E V (zo_i out)) (zm_XC zk_E V zo_x) args s mc ms (fun q => V.2.2.2.1 ≤ q)) 4 zk_E V mc ms 13 [(2, .int i2), (3, .int i3)] [.int t1, .ref t0] S rc rs := by
  unfold zf_X2_rightOf_J13 at h
  refine zw_iload_n hX dX2_rightOf_13 rfl ?_
  refine zw_if_eq (tgt := 22) hX dX2_rightOf_14 (by decide) (fun c14 => ?_) (fun c14 => ?_)
  · rw [if_pos c14] at h
    refine zw_sub (lv' := [(2, .int i2)]) (List.forall_mem_cons.mpr ⟨rfl, zs_nil⟩) ?_
    exact zt_X2_rightOf_J22 hX hr hR hd h
  · rw [if_neg c14] at h
    refine zw_iload_n hX dX2_rightOf_17 rfl ?_
    refine zw_iconst (v := (3 : Int32)) hX dX2_rightOf_18 (by decide) ?_
    refine zw_icmp_ne (tgt := 28) hX dX2_rightOf_19 (by decide) (fun c19 => ?_) (fun c19 => ?_)
    · rw [if_neg c19] at h
      refine zw_iload_n hX dX2_rightOf_28 rfl ?_
      obtain ⟨_, gi, h⟩ := zb_some h
      obtain ⟨r4, g, h⟩ := zb_some h
      refine zc_Vi (as := [.int t1, .int i2]) hX gi (zt_X2_spaceAt (d := d - 1) (by omega) g) zl_X2_136 rfl dX2_rightOf_29 ⟨rfl, rfl, Nat.le_of_ble_eq_true rfl⟩ ⟨by omega, by omega⟩ ?_
      obtain rfl := Option.some.inj h
      exact zw_iret hX hr dX2_rightOf_32 rfl ⟨rfl, rfl⟩
    · rw [if_pos c19] at h
      refine zw_sub (lv' := [(2, .int i2)]) (List.forall_mem_cons.mpr ⟨rfl, zs_nil⟩) ?_
      exact zt_X2_rightOf_J22 hX hr hR hd h
set_option maxHeartbeats 4000000 in
set_option maxRecDepth 100000 in
theorem zt_X2_rightOf {l : Launch} {V : zm_V} {N : Nat} {S : zm_S} {out : (Int32 × zm_S)} {d : Nat} {a0 : Nat} {i1 : Int32} {i2 : Int32} {i3 : Int32} (hd : 2 ≤ d) (h : zf_X2_rightOf N a0 i1 i2 i3 S = some out) : zm_Met l zk_E V yX2_rightOf (.code yX2_rightOf cX2_rightOf 4 (some .int)) d [.ref a0, .int i1, .int i2, .int i3] S 0 0 (zo_i out) zo_x := by
  refine zm_of (by decide +kernel) (Nat.le_of_ble_eq_true rfl) ?_
  intro p e R s m args below meth c hRR hX hr hxt
  have hR : R.frames = d ∧ R.locals = 64 * d := by rw [hRR]; exact ⟨rfl, rfl⟩
  have hX : zm_X p R s m args meth c RX2 "rightOf" cX2_rightOf 4 zk_E V 0 0 := hX
  unfold zf_X2_rightOf at h
  refine zw_sub (lv' := [(0, .ref a0), (1, .int i1), (2, .int i2), (3, .int i3)]) (List.forall_mem_cons.mpr ⟨rfl, (List.forall_mem_cons.mpr ⟨rfl, (List.forall_mem_cons.mpr ⟨rfl, (List.forall_mem_cons.mpr ⟨rfl, zs_nil⟩)⟩)⟩)⟩) ?_
  refine zw_aload_n hX dX2_rightOf_0 rfl ?_
  refine zw_iload_n hX dX2_rightOf_1 rfl ?_
  refine zw_iconst (v := (2 : Int32)) hX dX2_rightOf_2 (by decide) ?_
  refine zw_icmp_lt (tgt := 12) hX dX2_rightOf_3 (by decide) (fun c3 => ?_) (fun c3 => ?_)
  · rw [if_pos c3] at h
    refine zw_iload_n hX dX2_rightOf_12 rfl ?_
    refine zw_sub (lv' := [(2, .int i2), (3, .int i3)]) (List.forall_mem_cons.mpr ⟨rfl, (List.forall_mem_cons.mpr ⟨rfl, zs_nil⟩)⟩) ?_
    exact zt_X2_rightOf_J13 hX hr hR hd h
  · rw [if_neg c3] at h
    refine zw_iload_n hX dX2_rightOf_6 rfl ?_
    refine zw_iconst (v := (1 : Int32)) hX dX2_rightOf_7 (by decide) ?_
    refine zw_isub hX dX2_rightOf_8 ?_
    refine zw_goto (tgt := 13) hX dX2_rightOf_9 (by decide) ?_
    refine zw_sub (lv' := [(2, .int i2), (3, .int i3)]) (List.forall_mem_cons.mpr ⟨rfl, (List.forall_mem_cons.mpr ⟨rfl, zs_nil⟩)⟩) ?_
    exact zt_X2_rightOf_J13 hX hr hR hd h
set_option maxHeartbeats 4000000 in
set_option maxRecDepth 100000 in
theorem zt_X2_noteSide {l : Launch} {V : zm_V} {N : Nat} {S : zm_S} {out : (Unit × zm_S)} {d : Nat} {a0 : Nat} {i1 : Int32} {i2 : Int32} {i3 : Int32} {i4 : Int32} (hd : 3 ≤ d) (h : zf_X2_noteSide N a0 i1 i2 i3 i4 S = some out) : zm_Met l zk_E V yX2_noteSide (.code yX2_noteSide cX2_noteSide 6 none) d [.ref a0, .int i1, .int i2, .int i3, .int i4] S 0 0 (zo_v out) zo_x := by
  refine zm_of (by decide +kernel) (Nat.le_of_ble_eq_true rfl) ?_
  intro p e R s m args below meth c hRR hX hr hxt
  have hR : R.frames = d ∧ R.locals = 64 * d := by rw [hRR]; exact ⟨rfl, rfl⟩
  have hX : zm_X p R s m args meth c RX2 "noteSide" cX2_noteSide 6 zk_E V 0 0 := hX
  unfold zf_X2_noteSide at h
  refine zw_sub (lv' := [(0, .ref a0), (1, .int i1), (2, .int i2), (3, .int i3), (4, .int i4)]) (List.forall_mem_cons.mpr ⟨rfl, (List.forall_mem_cons.mpr ⟨rfl, (List.forall_mem_cons.mpr ⟨rfl, (List.forall_mem_cons.mpr ⟨rfl, (List.forall_mem_cons.mpr ⟨rfl, zs_nil⟩)⟩)⟩)⟩)⟩) ?_
  refine zw_aload_n hX dX2_noteSide_0 rfl ?_
  obtain ⟨v1, g, h⟩ := zb_some h
  refine zw_geti hX zl_X2_142 dX2_noteSide_1 g ?_
  refine zw_sipush (v := (440 : Int32)) hX dX2_noteSide_4 (by decide) ?_
  refine zw_icmp_ge (tgt := 91) hX dX2_noteSide_7 (by decide) (fun c7 => ?_) (fun c7 => ?_)
  · rw [if_pos c7] at h
    obtain rfl := Option.some.inj h
    exact zw_vret hX hr dX2_noteSide_91 ⟨rfl, rfl⟩
  · rw [if_neg c7] at h
    refine zw_aload_n hX dX2_noteSide_10 rfl ?_
    obtain ⟨b2, g, h⟩ := zb_some h
    refine zw_getr hX zl_X2_42 dX2_noteSide_11 g ?_
    refine zw_aload_n hX dX2_noteSide_14 rfl ?_
    obtain ⟨v3, g, h⟩ := zb_some h
    refine zw_geti hX zl_X2_142 dX2_noteSide_15 g ?_
    obtain ⟨b4, g, h⟩ := zb_some h
    refine zw_xr hX dX2_noteSide_18 g ?_
    refine zw_astore hX dX2_noteSide_19 (by decide) ?_
    refine zw_aload hX dX2_noteSide_21 rfl ?_
    refine zw_iconst (v := (0 : Int32)) hX dX2_noteSide_23 (by decide) ?_
    refine zw_aload_n hX dX2_noteSide_24 rfl ?_
    refine zw_iload_n hX dX2_noteSide_25 rfl ?_
    refine zw_iload_n hX dX2_noteSide_26 rfl ?_
    refine zw_iload_n hX dX2_noteSide_27 rfl ?_
    obtain ⟨_, gi, h⟩ := zb_some h
    obtain ⟨r6, g, h⟩ := zb_some h
    refine zc_Vi (as := [.int i1, .int i2, .int i3]) hX gi (zt_X2_wallFrom (d := d - 1) (by omega) g) zl_X2_110 rfl dX2_noteSide_28 ⟨rfl, rfl, Nat.le_of_ble_eq_true rfl⟩ ⟨by omega, by omega⟩ ?_
    obtain ⟨S7, g, h⟩ := zb_some h
    refine zw_si hX dX2_noteSide_31 g ?_
    refine zw_aload hX dX2_noteSide_32 rfl ?_
    refine zw_iconst (v := (1 : Int32)) hX dX2_noteSide_34 (by decide) ?_
    refine zw_iload_n hX dX2_noteSide_35 rfl ?_
    obtain ⟨S8, g, h⟩ := zb_some h
    refine zw_si hX dX2_noteSide_36 g ?_
    refine zw_aload hX dX2_noteSide_37 rfl ?_
    refine zw_iconst (v := (2 : Int32)) hX dX2_noteSide_39 (by decide) ?_
    refine zw_iload_n hX dX2_noteSide_40 rfl ?_
    obtain ⟨S9, g, h⟩ := zb_some h
    refine zw_si hX dX2_noteSide_41 g ?_
    refine zw_aload hX dX2_noteSide_42 rfl ?_
    refine zw_iconst (v := (3 : Int32)) hX dX2_noteSide_44 (by decide) ?_
    refine zw_iload_n hX dX2_noteSide_45 rfl ?_
    refine zw_iload hX dX2_noteSide_46 rfl ?_
    refine zw_gets (C := "TowerHouse$Finding") (n := "SIDE_X") (d := "[I") (k := 2) hX (List.mem_of_getElem? (i := 1) rfl) (by decide) zl_X2_158 dX2_noteSide_48 ?_
    refine zw_iload_n hX dX2_noteSide_51 rfl ?_
    obtain ⟨v10, g, h⟩ := zb_some h
    refine zw_xi hX dX2_noteSide_52 g ?_
    refine zw_imul hX dX2_noteSide_53 ?_
    refine zw_iadd hX dX2_noteSide_54 ?_
    obtain ⟨S11, g, h⟩ := zb_some h
    refine zw_si hX dX2_noteSide_55 g ?_
    refine zw_aload hX dX2_noteSide_56 rfl ?_
    refine zw_iconst (v := (4 : Int32)) hX dX2_noteSide_58 (by decide) ?_
    refine zw_iload_n hX dX2_noteSide_59 rfl ?_
    refine zw_iload hX dX2_noteSide_60 rfl ?_
    refine zw_gets (C := "TowerHouse$Finding") (n := "SIDE_Y") (d := "[I") (k := 3) hX (List.mem_of_getElem? (i := 2) rfl) (by decide) zl_X2_161 dX2_noteSide_62 ?_
    refine zw_iload_n hX dX2_noteSide_65 rfl ?_
    obtain ⟨v12, g, h⟩ := zb_some h
    refine zw_xi hX dX2_noteSide_66 g ?_
    refine zw_imul hX dX2_noteSide_67 ?_
    refine zw_iadd hX dX2_noteSide_68 ?_
    obtain ⟨S13, g, h⟩ := zb_some h
    refine zw_si hX dX2_noteSide_69 g ?_
    refine zw_aload hX dX2_noteSide_70 rfl ?_
    refine zw_iconst (v := (5 : Int32)) hX dX2_noteSide_72 (by decide) ?_
    refine zw_aload_n hX dX2_noteSide_73 rfl ?_
    refine zw_iload_n hX dX2_noteSide_74 rfl ?_
    refine zw_iload_n hX dX2_noteSide_75 rfl ?_
    refine zw_iload_n hX dX2_noteSide_76 rfl ?_
    obtain ⟨_, gi, h⟩ := zb_some h
    obtain ⟨r15, g, h⟩ := zb_some h
    refine zc_Vi (as := [.int i1, .int i2, .int i3]) hX gi (zt_X2_rightOf (d := d - 1) (by omega) g) zl_X2_167 rfl dX2_noteSide_77 ⟨rfl, rfl, Nat.le_of_ble_eq_true rfl⟩ ⟨by omega, by omega⟩ ?_
    obtain ⟨S16, g, h⟩ := zb_some h
    refine zw_si hX dX2_noteSide_80 g ?_
    refine zw_aload_n hX dX2_noteSide_81 rfl ?_
    refine zw_dup hX dX2_noteSide_82 rfl ?_
    obtain ⟨v17, g, h⟩ := zb_some h
    refine zw_geti hX zl_X2_142 dX2_noteSide_83 g ?_
    refine zw_iconst (v := (1 : Int32)) hX dX2_noteSide_86 (by decide) ?_
    refine zw_iadd hX dX2_noteSide_87 ?_
    obtain ⟨S18, g, h⟩ := zb_some h
    refine zw_putv hX zl_X2_142 zt_2_14 dX2_noteSide_88 rfl rfl g ?_
    obtain rfl := Option.some.inj h
    exact zw_vret hX hr dX2_noteSide_91 ⟨rfl, rfl⟩
set_option maxHeartbeats 4000000 in
set_option maxRecDepth 100000 in
theorem zt_X2_turnAt_L3 {p : Program} {l : Launch} {e : Env} {R : Room} {s : State} {m : MethodId} {args : Array Value} {below : List Frame} {meth : Method} {c : Code} {V : zm_V} {mc ms d rc rs : Nat} (hX : zm_X p R s m args meth c RX2 "turnAt" cX2_turnAt 6 zk_E V mc ms) (hr : meth.sig.returnType = (some .int)) (hR : R.frames = d ∧ R.locals = 64 * d) (hd : 2 ≤ d) {N : Nat} {res : (Int32 × zm_S) ⊕ ((Unit) × zm_S)} {out : (Int32 × zm_S)} (a0 : Nat) (i1 : Int32) (i2 : Int32) (i3 : Int32) (hf : ∀ o, res = .inl o → o = out) (hk : ∀ (S' : zm_S), res = .inr ((), S') → zw p l e R s m args below meth c (vx_MQ below (zm_Qc zk_E V (zo_i out)) (zm_XC zk_E V zo_x) args s mc ms (fun q => V.2.2.2.1 ≤ q)) 6 zk_E V mc ms 45 [(3, .int i3)] [] S' rc rs) : ∀ (n : Nat) (i4 : Int32) (S : zm_S), zf_X2_turnAt_L3 N n a0 i1 i2 i3 i4 S = some res → zw p l e R s m args below meth c (vx_MQ below (zm_Qc zk_E V (zo_i out)) (zm_XC zk_E V zo_x) args s mc ms (fun q => V.2.2.2.1 ≤ q)) 6 zk_E V mc ms 3 [(0, .ref a0), (1, .int i1), (2, .int i2), (3, .int i3), (4, .int i4)] [] S rc rs := by
  intro n
  induction n with
  | zero => intro i4 S h; cases h
  | succ n ih =>
    intro i4 S h
    rw [zf_X2_turnAt_L3] at h
    refine zw_iload hX dX2_turnAt_3 rfl ?_
    refine zw_gets (C := "TowerHouse$Finding") (n := "TURNS") (d := "[I") (k := 4) hX (List.mem_of_getElem? (i := 3) rfl) (by decide) zl_X2_170 dX2_turnAt_5 ?_
    obtain ⟨v1, g, h⟩ := zb_some h
    refine zw_len hX dX2_turnAt_8 g ?_
    refine zw_icmp_ge (tgt := 45) hX dX2_turnAt_9 (by decide) (fun c9 => ?_) (fun c9 => ?_)
    · rw [if_pos c9] at h
      refine zw_sub (lv' := [(3, .int i3)]) (List.forall_mem_cons.mpr ⟨rfl, zs_nil⟩) ?_
      exact hk  _ (Option.some.inj h).symm
    · rw [if_neg c9] at h
      refine zw_iload_n hX dX2_turnAt_12 rfl ?_
      refine zw_gets (C := "TowerHouse$Finding") (n := "TURNS") (d := "[I") (k := 4) hX (List.mem_of_getElem? (i := 3) rfl) (by decide) zl_X2_170 dX2_turnAt_13 ?_
      refine zw_iload hX dX2_turnAt_16 rfl ?_
      obtain ⟨v2, g, h⟩ := zb_some h
      refine zw_xi hX dX2_turnAt_18 g ?_
      refine zw_iadd hX dX2_turnAt_19 ?_
      refine zw_iconst (v := (4 : Int32)) hX dX2_turnAt_20 (by decide) ?_
      refine zw_irem hX dX2_turnAt_21 (by decide) ?_
      refine zw_istore hX dX2_turnAt_22 (by decide) ?_
      refine zw_aload_n hX dX2_turnAt_24 rfl ?_
      refine zw_iload_n hX dX2_turnAt_25 rfl ?_
      refine zw_iload_n hX dX2_turnAt_26 rfl ?_
      refine zw_iload hX dX2_turnAt_27 rfl ?_
      obtain ⟨_, gi, h⟩ := zb_some h
      obtain ⟨r4, g, h⟩ := zb_some h
      refine zc_Vi (as := [.int i1, .int i2, .int ((i3 + v2) - (i3 + v2) / (4 : Int32) * (4 : Int32))]) hX gi (zt_X2_wallFrom (d := d - 1) (by omega) g) zl_X2_110 rfl dX2_turnAt_29 ⟨rfl, rfl, Nat.le_of_ble_eq_true rfl⟩ ⟨by omega, by omega⟩ ?_
      refine zw_iconst (v := (-1 : Int32)) hX dX2_turnAt_32 (by decide) ?_
      refine zw_icmp_eq (tgt := 39) hX dX2_turnAt_33 (by decide) (fun c33 => ?_) (fun c33 => ?_)
      · rw [if_pos c33] at h
        refine zw_iinc (v := (i4 + (1 : Int32))) hX dX2_turnAt_39 rfl rfl (by decide) ?_
        refine zw_goto (tgt := 3) hX dX2_turnAt_42 (by decide) ?_
        refine zw_sub (lv' := [(0, .ref a0), (1, .int i1), (2, .int i2), (3, .int i3), (4, .int (i4 + (1 : Int32)))]) (List.forall_mem_cons.mpr ⟨rfl, (List.forall_mem_cons.mpr ⟨rfl, (List.forall_mem_cons.mpr ⟨rfl, (List.forall_mem_cons.mpr ⟨rfl, (List.forall_mem_cons.mpr ⟨rfl, zs_nil⟩)⟩)⟩)⟩)⟩) ?_
        exact ih _ _ h
      · rw [if_neg c33] at h
        refine zw_iload hX dX2_turnAt_36 rfl ?_
        have hz := hf _ (Option.some.inj h).symm
        subst hz
        exact zw_iret hX hr dX2_turnAt_38 rfl ⟨rfl, rfl⟩
set_option maxHeartbeats 4000000 in
set_option maxRecDepth 100000 in
theorem zt_X2_turnAt {l : Launch} {V : zm_V} {N : Nat} {S : zm_S} {out : (Int32 × zm_S)} {d : Nat} {a0 : Nat} {i1 : Int32} {i2 : Int32} {i3 : Int32} (hd : 2 ≤ d) (h : zf_X2_turnAt N a0 i1 i2 i3 S = some out) : zm_Met l zk_E V yX2_turnAt (.code yX2_turnAt cX2_turnAt 6 (some .int)) d [.ref a0, .int i1, .int i2, .int i3] S 0 0 (zo_i out) zo_x := by
  refine zm_of (by decide +kernel) (Nat.le_of_ble_eq_true rfl) ?_
  intro p e R s m args below meth c hRR hX hr hxt
  have hR : R.frames = d ∧ R.locals = 64 * d := by rw [hRR]; exact ⟨rfl, rfl⟩
  have hX : zm_X p R s m args meth c RX2 "turnAt" cX2_turnAt 6 zk_E V 0 0 := hX
  unfold zf_X2_turnAt at h
  refine zw_sub (lv' := [(0, .ref a0), (1, .int i1), (2, .int i2), (3, .int i3)]) (List.forall_mem_cons.mpr ⟨rfl, (List.forall_mem_cons.mpr ⟨rfl, (List.forall_mem_cons.mpr ⟨rfl, (List.forall_mem_cons.mpr ⟨rfl, zs_nil⟩)⟩)⟩)⟩) ?_
  refine zw_iconst (v := (0 : Int32)) hX dX2_turnAt_0 (by decide) ?_
  refine zw_istore hX dX2_turnAt_1 (by decide) ?_
  obtain ⟨r, g, h⟩ := zb_some h
  refine zw_sub (lv' := [(0, .ref a0), (1, .int i1), (2, .int i2), (3, .int i3), (4, .int (0 : Int32))]) (List.forall_mem_cons.mpr ⟨rfl, (List.forall_mem_cons.mpr ⟨rfl, (List.forall_mem_cons.mpr ⟨rfl, (List.forall_mem_cons.mpr ⟨rfl, (List.forall_mem_cons.mpr ⟨rfl, zs_nil⟩)⟩)⟩)⟩)⟩) ?_
  refine zt_X2_turnAt_L3 hX hr hR hd (res := r) (out := out) a0 i1 i2 i3 ?_ ?_ N _ _ g
  · intro o ho
    subst ho
    exact Option.some.inj h
  · intro  S5 hx
    subst hx
    try dsimp only at h
    refine zw_iload_n hX dX2_turnAt_45 rfl ?_
    obtain rfl := Option.some.inj h
    exact zw_iret hX hr dX2_turnAt_46 rfl ⟨rfl, rfl⟩

