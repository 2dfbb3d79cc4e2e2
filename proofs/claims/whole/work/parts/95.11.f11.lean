/-! ===== functions of methods, by program (wip/whole/tools/gen11.py) ===== -/
theorem dX12_bitTime_0 : decode cX12_bitTime 0 = .ok (.aload_n 0, 1) := by decide +kernel
theorem dX12_bitTime_1 : decode cX12_bitTime 1 = .ok (.dup, 1) := by decide +kernel
theorem dX12_bitTime_2 : decode cX12_bitTime 2 = .ok (.getfield 75, 3) := by decide +kernel
theorem dX12_bitTime_5 : decode cX12_bitTime 5 = .ok (.iconst 1, 1) := by decide +kernel
theorem dX12_bitTime_6 : decode cX12_bitTime 6 = .ok (.iadd, 1) := by decide +kernel
theorem dX12_bitTime_7 : decode cX12_bitTime 7 = .ok (.putfield 75, 3) := by decide +kernel
theorem dX12_bitTime_10 : decode cX12_bitTime 10 = .ok (.aload_n 0, 1) := by decide +kernel
theorem dX12_bitTime_11 : decode cX12_bitTime 11 = .ok (.invokevirtual 124, 3) := by decide +kernel
theorem dX12_bitTime_14 : decode cX12_bitTime 14 = .ok (.istore_n 1, 1) := by decide +kernel
theorem dX12_bitTime_15 : decode cX12_bitTime 15 = .ok (.iconst 0, 1) := by decide +kernel
theorem dX12_bitTime_16 : decode cX12_bitTime 16 = .ok (.istore_n 2, 1) := by decide +kernel
theorem dX12_bitTime_17 : decode cX12_bitTime 17 = .ok (.iload_n 2, 1) := by decide +kernel
theorem dX12_bitTime_18 : decode cX12_bitTime 18 = .ok (.bipush 8, 2) := by decide +kernel
theorem dX12_bitTime_20 : decode cX12_bitTime 20 = .ok (.if_icmp .ge 15, 3) := by decide +kernel
theorem dX12_bitTime_23 : decode cX12_bitTime 23 = .ok (.aload_n 0, 1) := by decide +kernel
theorem dX12_bitTime_24 : decode cX12_bitTime 24 = .ok (.iload_n 2, 1) := by decide +kernel
theorem dX12_bitTime_25 : decode cX12_bitTime 25 = .ok (.iload_n 1, 1) := by decide +kernel
theorem dX12_bitTime_26 : decode cX12_bitTime 26 = .ok (.invokevirtual 128, 3) := by decide +kernel
theorem dX12_bitTime_29 : decode cX12_bitTime 29 = .ok (.iinc 2 1, 3) := by decide +kernel
theorem dX12_bitTime_32 : decode cX12_bitTime 32 = .ok (.goto (-15), 3) := by decide +kernel
theorem dX12_bitTime_35 : decode cX12_bitTime 35 = .ok (.aload_n 0, 1) := by decide +kernel
theorem dX12_bitTime_36 : decode cX12_bitTime 36 = .ok (.invokevirtual 132, 3) := by decide +kernel
theorem dX12_bitTime_39 : decode cX12_bitTime 39 = .ok (.aload_n 0, 1) := by decide +kernel
theorem dX12_bitTime_40 : decode cX12_bitTime 40 = .ok (.getfield 15, 3) := by decide +kernel
theorem dX12_bitTime_43 : decode cX12_bitTime 43 = .ok (.aload_n 0, 1) := by decide +kernel
theorem dX12_bitTime_44 : decode cX12_bitTime 44 = .ok (.getfield 75, 3) := by decide +kernel
theorem dX12_bitTime_47 : decode cX12_bitTime 47 = .ok (.baload, 1) := by decide +kernel
theorem dX12_bitTime_48 : decode cX12_bitTime 48 = .ok (.ifCond .ne 7, 3) := by decide +kernel
theorem dX12_bitTime_55 : decode cX12_bitTime 55 = .ok (.iconst 0, 1) := by decide +kernel
theorem dX12_bitTime_56 : decode cX12_bitTime 56 = .ok (.istore_n 2, 1) := by decide +kernel
theorem dX12_bitTime_57 : decode cX12_bitTime 57 = .ok (.aload_n 0, 1) := by decide +kernel
theorem dX12_bitTime_58 : decode cX12_bitTime 58 = .ok (.dup, 1) := by decide +kernel
theorem dX12_bitTime_59 : decode cX12_bitTime 59 = .ok (.getfield 72, 3) := by decide +kernel
theorem dX12_bitTime_62 : decode cX12_bitTime 62 = .ok (.aload_n 0, 1) := by decide +kernel
theorem dX12_bitTime_63 : decode cX12_bitTime 63 = .ok (.getfield 15, 3) := by decide +kernel
theorem dX12_bitTime_66 : decode cX12_bitTime 66 = .ok (.aload_n 0, 1) := by decide +kernel
theorem dX12_bitTime_67 : decode cX12_bitTime 67 = .ok (.getfield 75, 3) := by decide +kernel
theorem dX12_bitTime_70 : decode cX12_bitTime 70 = .ok (.baload, 1) := by decide +kernel
theorem dX12_bitTime_71 : decode cX12_bitTime 71 = .ok (.ifCond .eq 7, 3) := by decide +kernel
theorem dX12_bitTime_78 : decode cX12_bitTime 78 = .ok (.iconst 0, 1) := by decide +kernel
theorem dX12_bitTime_79 : decode cX12_bitTime 79 = .ok (.isub, 1) := by decide +kernel
theorem dX12_bitTime_80 : decode cX12_bitTime 80 = .ok (.putfield 72, 3) := by decide +kernel
theorem dX12_bitTime_83 : decode cX12_bitTime 83 = .ok (.iconst 0, 1) := by decide +kernel
theorem dX12_bitTime_84 : decode cX12_bitTime 84 = .ok (.istore_n 3, 1) := by decide +kernel
theorem dX12_bitTime_85 : decode cX12_bitTime 85 = .ok (.iload_n 3, 1) := by decide +kernel
theorem dX12_bitTime_86 : decode cX12_bitTime 86 = .ok (.bipush 8, 2) := by decide +kernel
theorem dX12_bitTime_88 : decode cX12_bitTime 88 = .ok (.if_icmp .ge 27, 3) := by decide +kernel
theorem dX12_bitTime_91 : decode cX12_bitTime 91 = .ok (.iload_n 2, 1) := by decide +kernel
theorem dX12_bitTime_92 : decode cX12_bitTime 92 = .ok (.ifCond .eq 15, 3) := by decide +kernel
theorem dX12_bitTime_107 : decode cX12_bitTime 107 = .ok (.iconst 0, 1) := by decide +kernel
theorem dX12_bitTime_108 : decode cX12_bitTime 108 = .ok (.istore_n 2, 1) := by decide +kernel
theorem dX12_bitTime_109 : decode cX12_bitTime 109 = .ok (.iinc 3 1, 3) := by decide +kernel
theorem dX12_bitTime_112 : decode cX12_bitTime 112 = .ok (.goto (-27), 3) := by decide +kernel
theorem dX12_bitTime_95 : decode cX12_bitTime 95 = .ok (.aload_n 0, 1) := by decide +kernel
theorem dX12_bitTime_96 : decode cX12_bitTime 96 = .ok (.iload_n 3, 1) := by decide +kernel
theorem dX12_bitTime_97 : decode cX12_bitTime 97 = .ok (.invokevirtual 135, 3) := by decide +kernel
theorem dX12_bitTime_100 : decode cX12_bitTime 100 = .ok (.ifCond .eq 7, 3) := by decide +kernel
theorem dX12_bitTime_103 : decode cX12_bitTime 103 = .ok (.iconst 1, 1) := by decide +kernel
theorem dX12_bitTime_104 : decode cX12_bitTime 104 = .ok (.goto 4, 3) := by decide +kernel
theorem dX12_bitTime_115 : decode cX12_bitTime 115 = .ok (.aload_n 0, 1) := by decide +kernel
theorem dX12_bitTime_116 : decode cX12_bitTime 116 = .ok (.getfield 8, 3) := by decide +kernel
theorem dX12_bitTime_119 : decode cX12_bitTime 119 = .ok (.aload_n 0, 1) := by decide +kernel
theorem dX12_bitTime_120 : decode cX12_bitTime 120 = .ok (.getfield 75, 3) := by decide +kernel
theorem dX12_bitTime_123 : decode cX12_bitTime 123 = .ok (.iload_n 2, 1) := by decide +kernel
theorem dX12_bitTime_124 : decode cX12_bitTime 124 = .ok (.bastore, 1) := by decide +kernel
theorem dX12_bitTime_125 : decode cX12_bitTime 125 = .ok (.iconst 0, 1) := by decide +kernel
theorem dX12_bitTime_126 : decode cX12_bitTime 126 = .ok (.istore_n 3, 1) := by decide +kernel
theorem dX12_bitTime_127 : decode cX12_bitTime 127 = .ok (.iload_n 3, 1) := by decide +kernel
theorem dX12_bitTime_128 : decode cX12_bitTime 128 = .ok (.bipush 8, 2) := by decide +kernel
theorem dX12_bitTime_130 : decode cX12_bitTime 130 = .ok (.if_icmp .ge 14, 3) := by decide +kernel
theorem dX12_bitTime_133 : decode cX12_bitTime 133 = .ok (.aload_n 0, 1) := by decide +kernel
theorem dX12_bitTime_134 : decode cX12_bitTime 134 = .ok (.iload_n 3, 1) := by decide +kernel
theorem dX12_bitTime_135 : decode cX12_bitTime 135 = .ok (.invokevirtual 139, 3) := by decide +kernel
theorem dX12_bitTime_138 : decode cX12_bitTime 138 = .ok (.iinc 3 1, 3) := by decide +kernel
theorem dX12_bitTime_141 : decode cX12_bitTime 141 = .ok (.goto (-14), 3) := by decide +kernel
theorem dX12_bitTime_144 : decode cX12_bitTime 144 = .ok (.aload_n 0, 1) := by decide +kernel
theorem dX12_bitTime_145 : decode cX12_bitTime 145 = .ok (.invokevirtual 142, 3) := by decide +kernel
theorem dX12_bitTime_148 : decode cX12_bitTime 148 = .ok (.iconst 0, 1) := by decide +kernel
theorem dX12_bitTime_149 : decode cX12_bitTime 149 = .ok (.istore_n 3, 1) := by decide +kernel
theorem dX12_bitTime_150 : decode cX12_bitTime 150 = .ok (.iload_n 3, 1) := by decide +kernel
theorem dX12_bitTime_151 : decode cX12_bitTime 151 = .ok (.bipush 8, 2) := by decide +kernel
theorem dX12_bitTime_153 : decode cX12_bitTime 153 = .ok (.if_icmp .ge 14, 3) := by decide +kernel
theorem dX12_bitTime_156 : decode cX12_bitTime 156 = .ok (.aload_n 0, 1) := by decide +kernel
theorem dX12_bitTime_157 : decode cX12_bitTime 157 = .ok (.iload_n 3, 1) := by decide +kernel
theorem dX12_bitTime_158 : decode cX12_bitTime 158 = .ok (.invokevirtual 145, 3) := by decide +kernel
theorem dX12_bitTime_161 : decode cX12_bitTime 161 = .ok (.iinc 3 1, 3) := by decide +kernel
theorem dX12_bitTime_164 : decode cX12_bitTime 164 = .ok (.goto (-14), 3) := by decide +kernel
theorem dX12_bitTime_167 : decode cX12_bitTime 167 = .ok (.return_, 1) := by decide +kernel
theorem dX12_bitTime_74 : decode cX12_bitTime 74 = .ok (.iconst 1, 1) := by decide +kernel
theorem dX12_bitTime_75 : decode cX12_bitTime 75 = .ok (.goto 4, 3) := by decide +kernel
theorem dX12_bitTime_51 : decode cX12_bitTime 51 = .ok (.iconst 1, 1) := by decide +kernel
theorem dX12_bitTime_52 : decode cX12_bitTime 52 = .ok (.goto 4, 3) := by decide +kernel
theorem dX12_station_0 : decode cX12_station 0 = .ok (.iload_n 2, 1) := by decide +kernel
theorem dX12_station_1 : decode cX12_station 1 = .ok (.tableswitch 86 0 4 #[35, 42, 57, 72, 79], 35) := by decide +kernel
theorem dX12_station_87 : decode cX12_station 87 = .ok (.aload_n 0, 1) := by decide +kernel
theorem dX12_station_88 : decode cX12_station 88 = .ok (.getfield 52, 3) := by decide +kernel
theorem dX12_station_91 : decode cX12_station 91 = .ok (.iload_n 1, 1) := by decide +kernel
theorem dX12_station_92 : decode cX12_station 92 = .ok (.iaload, 1) := by decide +kernel
theorem dX12_station_93 : decode cX12_station 93 = .ok (.ireturn, 1) := by decide +kernel
theorem dX12_station_36 : decode cX12_station 36 = .ok (.aload_n 0, 1) := by decide +kernel
theorem dX12_station_37 : decode cX12_station 37 = .ok (.getfield 28, 3) := by decide +kernel
theorem dX12_station_40 : decode cX12_station 40 = .ok (.iload_n 1, 1) := by decide +kernel
theorem dX12_station_41 : decode cX12_station 41 = .ok (.iaload, 1) := by decide +kernel
theorem dX12_station_42 : decode cX12_station 42 = .ok (.ireturn, 1) := by decide +kernel
theorem dX12_station_43 : decode cX12_station 43 = .ok (.aload_n 0, 1) := by decide +kernel
theorem dX12_station_44 : decode cX12_station 44 = .ok (.getfield 34, 3) := by decide +kernel
theorem dX12_station_47 : decode cX12_station 47 = .ok (.iload_n 1, 1) := by decide +kernel
theorem dX12_station_48 : decode cX12_station 48 = .ok (.iaload, 1) := by decide +kernel
theorem dX12_station_49 : decode cX12_station 49 = .ok (.ifCond .lt 7, 3) := by decide +kernel
theorem dX12_station_56 : decode cX12_station 56 = .ok (.iconst 0, 1) := by decide +kernel
theorem dX12_station_57 : decode cX12_station 57 = .ok (.ireturn, 1) := by decide +kernel
theorem dX12_station_52 : decode cX12_station 52 = .ok (.iconst 1, 1) := by decide +kernel
theorem dX12_station_53 : decode cX12_station 53 = .ok (.goto 4, 3) := by decide +kernel
theorem dX12_station_58 : decode cX12_station 58 = .ok (.aload_n 0, 1) := by decide +kernel
theorem dX12_station_59 : decode cX12_station 59 = .ok (.getfield 37, 3) := by decide +kernel
theorem dX12_station_62 : decode cX12_station 62 = .ok (.iload_n 1, 1) := by decide +kernel
theorem dX12_station_63 : decode cX12_station 63 = .ok (.iaload, 1) := by decide +kernel
theorem dX12_station_64 : decode cX12_station 64 = .ok (.ifCond .lt 7, 3) := by decide +kernel
theorem dX12_station_71 : decode cX12_station 71 = .ok (.iconst 0, 1) := by decide +kernel
theorem dX12_station_72 : decode cX12_station 72 = .ok (.ireturn, 1) := by decide +kernel
theorem dX12_station_67 : decode cX12_station 67 = .ok (.iconst 1, 1) := by decide +kernel
theorem dX12_station_68 : decode cX12_station 68 = .ok (.goto 4, 3) := by decide +kernel
theorem dX12_station_73 : decode cX12_station 73 = .ok (.aload_n 0, 1) := by decide +kernel
theorem dX12_station_74 : decode cX12_station 74 = .ok (.getfield 46, 3) := by decide +kernel
theorem dX12_station_77 : decode cX12_station 77 = .ok (.iload_n 1, 1) := by decide +kernel
theorem dX12_station_78 : decode cX12_station 78 = .ok (.iaload, 1) := by decide +kernel
theorem dX12_station_79 : decode cX12_station 79 = .ok (.ireturn, 1) := by decide +kernel
theorem dX12_station_80 : decode cX12_station 80 = .ok (.aload_n 0, 1) := by decide +kernel
theorem dX12_station_81 : decode cX12_station 81 = .ok (.getfield 49, 3) := by decide +kernel
theorem dX12_station_84 : decode cX12_station 84 = .ok (.iload_n 1, 1) := by decide +kernel
theorem dX12_station_85 : decode cX12_station 85 = .ok (.iaload, 1) := by decide +kernel
theorem dX12_station_86 : decode cX12_station 86 = .ok (.ireturn, 1) := by decide +kernel
theorem dX13_init_0 : decode cX13_init 0 = .ok (.aload_n 0, 1) := by decide +kernel
theorem dX13_init_1 : decode cX13_init 1 = .ok (.invokespecial 1, 3) := by decide +kernel
theorem dX13_init_4 : decode cX13_init 4 = .ok (.aload_n 0, 1) := by decide +kernel
theorem dX13_init_5 : decode cX13_init 5 = .ok (.iconst 4, 1) := by decide +kernel
theorem dX13_init_6 : decode cX13_init 6 = .ok (.newarray .int, 2) := by decide +kernel
theorem dX13_init_8 : decode cX13_init 8 = .ok (.putfield 7, 3) := by decide +kernel
theorem dX13_init_11 : decode cX13_init 11 = .ok (.aload_n 0, 1) := by decide +kernel
theorem dX13_init_12 : decode cX13_init 12 = .ok (.iconst 4, 1) := by decide +kernel
theorem dX13_init_13 : decode cX13_init 13 = .ok (.newarray .int, 2) := by decide +kernel
theorem dX13_init_15 : decode cX13_init 15 = .ok (.putfield 13, 3) := by decide +kernel
theorem dX13_init_18 : decode cX13_init 18 = .ok (.aload_n 0, 1) := by decide +kernel
theorem dX13_init_19 : decode cX13_init 19 = .ok (.iconst 4, 1) := by decide +kernel
theorem dX13_init_20 : decode cX13_init 20 = .ok (.newarray .int, 2) := by decide +kernel
theorem dX13_init_22 : decode cX13_init 22 = .ok (.putfield 16, 3) := by decide +kernel
theorem dX13_init_25 : decode cX13_init 25 = .ok (.aload_n 0, 1) := by decide +kernel
theorem dX13_init_26 : decode cX13_init 26 = .ok (.iconst 4, 1) := by decide +kernel
theorem dX13_init_27 : decode cX13_init 27 = .ok (.newarray .int, 2) := by decide +kernel
theorem dX13_init_29 : decode cX13_init 29 = .ok (.putfield 19, 3) := by decide +kernel
theorem dX13_init_32 : decode cX13_init 32 = .ok (.aload_n 0, 1) := by decide +kernel
theorem dX13_init_33 : decode cX13_init 33 = .ok (.iconst 4, 1) := by decide +kernel
theorem dX13_init_34 : decode cX13_init 34 = .ok (.newarray .int, 2) := by decide +kernel
theorem dX13_init_36 : decode cX13_init 36 = .ok (.putfield 22, 3) := by decide +kernel
theorem dX13_init_39 : decode cX13_init 39 = .ok (.aload_n 0, 1) := by decide +kernel
theorem dX13_init_40 : decode cX13_init 40 = .ok (.sipush 400, 3) := by decide +kernel
theorem dX13_init_43 : decode cX13_init 43 = .ok (.newarray .int, 2) := by decide +kernel
theorem dX13_init_45 : decode cX13_init 45 = .ok (.putfield 25, 3) := by decide +kernel
theorem dX13_init_48 : decode cX13_init 48 = .ok (.aload_n 0, 1) := by decide +kernel
theorem dX13_init_49 : decode cX13_init 49 = .ok (.sipush 400, 3) := by decide +kernel
theorem dX13_init_52 : decode cX13_init 52 = .ok (.newarray .int, 2) := by decide +kernel
theorem dX13_init_54 : decode cX13_init 54 = .ok (.putfield 28, 3) := by decide +kernel
theorem dX13_init_57 : decode cX13_init 57 = .ok (.aload_n 0, 1) := by decide +kernel
theorem dX13_init_58 : decode cX13_init 58 = .ok (.sipush 400, 3) := by decide +kernel
theorem dX13_init_61 : decode cX13_init 61 = .ok (.newarray .int, 2) := by decide +kernel
theorem dX13_init_63 : decode cX13_init 63 = .ok (.putfield 31, 3) := by decide +kernel
theorem dX13_init_66 : decode cX13_init 66 = .ok (.aload_n 0, 1) := by decide +kernel
theorem dX13_init_67 : decode cX13_init 67 = .ok (.sipush 400, 3) := by decide +kernel
theorem dX13_init_70 : decode cX13_init 70 = .ok (.newarray .boolean, 2) := by decide +kernel
theorem dX13_init_72 : decode cX13_init 72 = .ok (.putfield 34, 3) := by decide +kernel
theorem dX13_init_75 : decode cX13_init 75 = .ok (.aload_n 0, 1) := by decide +kernel
theorem dX13_init_76 : decode cX13_init 76 = .ok (.sipush 400, 3) := by decide +kernel
theorem dX13_init_79 : decode cX13_init 79 = .ok (.newarray .int, 2) := by decide +kernel
theorem dX13_init_81 : decode cX13_init 81 = .ok (.putfield 38, 3) := by decide +kernel
theorem dX13_init_84 : decode cX13_init 84 = .ok (.aload_n 0, 1) := by decide +kernel
theorem dX13_init_85 : decode cX13_init 85 = .ok (.bipush 6, 2) := by decide +kernel
theorem dX13_init_87 : decode cX13_init 87 = .ok (.newarray .int, 2) := by decide +kernel
theorem dX13_init_89 : decode cX13_init 89 = .ok (.putfield 41, 3) := by decide +kernel
theorem dX13_init_92 : decode cX13_init 92 = .ok (.aload_n 0, 1) := by decide +kernel
theorem dX13_init_93 : decode cX13_init 93 = .ok (.bipush 6, 2) := by decide +kernel
theorem dX13_init_95 : decode cX13_init 95 = .ok (.newarray .int, 2) := by decide +kernel
theorem dX13_init_97 : decode cX13_init 97 = .ok (.putfield 44, 3) := by decide +kernel
theorem dX13_init_100 : decode cX13_init 100 = .ok (.aload_n 0, 1) := by decide +kernel
theorem dX13_init_101 : decode cX13_init 101 = .ok (.sipush 256, 3) := by decide +kernel
theorem dX13_init_104 : decode cX13_init 104 = .ok (.newarray .long, 2) := by decide +kernel
theorem dX13_init_106 : decode cX13_init 106 = .ok (.putfield 47, 3) := by decide +kernel
theorem dX13_init_109 : decode cX13_init 109 = .ok (.aload_n 0, 1) := by decide +kernel
theorem dX13_init_110 : decode cX13_init 110 = .ok (.sipush 1536, 3) := by decide +kernel
theorem dX13_init_113 : decode cX13_init 113 = .ok (.newarray .int, 2) := by decide +kernel
theorem dX13_init_115 : decode cX13_init 115 = .ok (.putfield 51, 3) := by decide +kernel
theorem dX13_init_118 : decode cX13_init 118 = .ok (.aload_n 0, 1) := by decide +kernel
theorem dX13_init_119 : decode cX13_init 119 = .ok (.sipush 400, 3) := by decide +kernel
theorem dX13_init_122 : decode cX13_init 122 = .ok (.newarray .int, 2) := by decide +kernel
theorem dX13_init_124 : decode cX13_init 124 = .ok (.putfield 54, 3) := by decide +kernel
theorem dX13_init_127 : decode cX13_init 127 = .ok (.aload_n 0, 1) := by decide +kernel
theorem dX13_init_128 : decode cX13_init 128 = .ok (.sipush 400, 3) := by decide +kernel
theorem dX13_init_131 : decode cX13_init 131 = .ok (.newarray .int, 2) := by decide +kernel
theorem dX13_init_133 : decode cX13_init 133 = .ok (.putfield 57, 3) := by decide +kernel
theorem dX13_init_136 : decode cX13_init 136 = .ok (.aload_n 0, 1) := by decide +kernel
theorem dX13_init_137 : decode cX13_init 137 = .ok (.sipush 400, 3) := by decide +kernel
theorem dX13_init_140 : decode cX13_init 140 = .ok (.newarray .int, 2) := by decide +kernel
theorem dX13_init_142 : decode cX13_init 142 = .ok (.putfield 60, 3) := by decide +kernel
theorem dX13_init_145 : decode cX13_init 145 = .ok (.aload_n 0, 1) := by decide +kernel
theorem dX13_init_146 : decode cX13_init 146 = .ok (.sipush 400, 3) := by decide +kernel
theorem dX13_init_149 : decode cX13_init 149 = .ok (.newarray .int, 2) := by decide +kernel
theorem dX13_init_151 : decode cX13_init 151 = .ok (.putfield 63, 3) := by decide +kernel
theorem dX13_init_154 : decode cX13_init 154 = .ok (.iconst 0, 1) := by decide +kernel
theorem dX13_init_155 : decode cX13_init 155 = .ok (.istore_n 1, 1) := by decide +kernel
theorem dX13_init_156 : decode cX13_init 156 = .ok (.iload_n 1, 1) := by decide +kernel
theorem dX13_init_157 : decode cX13_init 157 = .ok (.sipush 400, 3) := by decide +kernel
theorem dX13_init_160 : decode cX13_init 160 = .ok (.if_icmp .ge 16, 3) := by decide +kernel
theorem dX13_init_163 : decode cX13_init 163 = .ok (.aload_n 0, 1) := by decide +kernel
theorem dX13_init_164 : decode cX13_init 164 = .ok (.getfield 54, 3) := by decide +kernel
theorem dX13_init_167 : decode cX13_init 167 = .ok (.iload_n 1, 1) := by decide +kernel
theorem dX13_init_168 : decode cX13_init 168 = .ok (.iconst (-1), 1) := by decide +kernel
theorem dX13_init_169 : decode cX13_init 169 = .ok (.iastore, 1) := by decide +kernel
theorem dX13_init_170 : decode cX13_init 170 = .ok (.iinc 1 1, 3) := by decide +kernel
theorem dX13_init_173 : decode cX13_init 173 = .ok (.goto (-17), 3) := by decide +kernel
theorem dX13_init_176 : decode cX13_init 176 = .ok (.return_, 1) := by decide +kernel
theorem dX13_isFloor_0 : decode cX13_isFloor 0 = .ok (.iload_n 0, 1) := by decide +kernel
theorem dX13_isFloor_1 : decode cX13_isFloor 1 = .ok (.ifCond .lt 13, 3) := by decide +kernel
theorem dX13_isFloor_14 : decode cX13_isFloor 14 = .ok (.iconst 0, 1) := by decide +kernel
theorem dX13_isFloor_15 : decode cX13_isFloor 15 = .ok (.ireturn, 1) := by decide +kernel
theorem dX13_isFloor_4 : decode cX13_isFloor 4 = .ok (.iload_n 0, 1) := by decide +kernel
theorem dX13_isFloor_5 : decode cX13_isFloor 5 = .ok (.bipush 60, 2) := by decide +kernel
theorem dX13_isFloor_7 : decode cX13_isFloor 7 = .ok (.if_icmp .ge 7, 3) := by decide +kernel
theorem dX13_isFloor_10 : decode cX13_isFloor 10 = .ok (.iconst 1, 1) := by decide +kernel
theorem dX13_isFloor_11 : decode cX13_isFloor 11 = .ok (.goto 4, 3) := by decide +kernel
theorem dX13_opens_0 : decode cX13_opens 0 = .ok (.iload_n 1, 1) := by decide +kernel
theorem dX13_opens_1 : decode cX13_opens 1 = .ok (.ifCond .lt 24, 3) := by decide +kernel
theorem dX13_opens_25 : decode cX13_opens 25 = .ok (.iconst 0, 1) := by decide +kernel
theorem dX13_opens_26 : decode cX13_opens 26 = .ok (.ireturn, 1) := by decide +kernel
theorem dX13_opens_4 : decode cX13_opens 4 = .ok (.iload_n 1, 1) := by decide +kernel
theorem dX13_opens_5 : decode cX13_opens 5 = .ok (.aload_n 0, 1) := by decide +kernel
theorem dX13_opens_6 : decode cX13_opens 6 = .ok (.getfield 66, 3) := by decide +kernel
theorem dX13_opens_9 : decode cX13_opens 9 = .ok (.if_icmp .ge 16, 3) := by decide +kernel
theorem dX13_opens_12 : decode cX13_opens 12 = .ok (.aload_n 0, 1) := by decide +kernel
theorem dX13_opens_13 : decode cX13_opens 13 = .ok (.getfield 34, 3) := by decide +kernel
theorem dX13_opens_16 : decode cX13_opens 16 = .ok (.iload_n 1, 1) := by decide +kernel
theorem dX13_opens_17 : decode cX13_opens 17 = .ok (.baload, 1) := by decide +kernel
theorem dX13_opens_18 : decode cX13_opens 18 = .ok (.ifCond .eq 7, 3) := by decide +kernel
theorem dX13_opens_21 : decode cX13_opens 21 = .ok (.iconst 1, 1) := by decide +kernel
theorem dX13_opens_22 : decode cX13_opens 22 = .ok (.goto 4, 3) := by decide +kernel
theorem dX13_many_0 : decode cX13_many 0 = .ok (.iconst 0, 1) := by decide +kernel
theorem dX13_many_1 : decode cX13_many 1 = .ok (.istore_n 1, 1) := by decide +kernel
theorem dX13_many_2 : decode cX13_many 2 = .ok (.iconst 0, 1) := by decide +kernel
theorem dX13_many_3 : decode cX13_many 3 = .ok (.istore_n 2, 1) := by decide +kernel
theorem dX13_many_4 : decode cX13_many 4 = .ok (.iload_n 2, 1) := by decide +kernel
theorem dX13_many_5 : decode cX13_many 5 = .ok (.aload_n 0, 1) := by decide +kernel
theorem dX13_many_6 : decode cX13_many 6 = .ok (.getfield 66, 3) := by decide +kernel
theorem dX13_many_9 : decode cX13_many 9 = .ok (.if_icmp .ge 26, 3) := by decide +kernel
theorem dX13_many_12 : decode cX13_many 12 = .ok (.iload_n 1, 1) := by decide +kernel
theorem dX13_many_13 : decode cX13_many 13 = .ok (.aload_n 0, 1) := by decide +kernel
theorem dX13_many_14 : decode cX13_many 14 = .ok (.getfield 34, 3) := by decide +kernel
theorem dX13_many_17 : decode cX13_many 17 = .ok (.iload_n 2, 1) := by decide +kernel
theorem dX13_many_18 : decode cX13_many 18 = .ok (.baload, 1) := by decide +kernel
theorem dX13_many_19 : decode cX13_many 19 = .ok (.ifCond .eq 7, 3) := by decide +kernel
theorem dX13_many_26 : decode cX13_many 26 = .ok (.iconst 0, 1) := by decide +kernel
theorem dX13_many_27 : decode cX13_many 27 = .ok (.iadd, 1) := by decide +kernel
theorem dX13_many_28 : decode cX13_many 28 = .ok (.istore_n 1, 1) := by decide +kernel
theorem dX13_many_29 : decode cX13_many 29 = .ok (.iinc 2 1, 3) := by decide +kernel
theorem dX13_many_32 : decode cX13_many 32 = .ok (.goto (-28), 3) := by decide +kernel
theorem dX13_many_22 : decode cX13_many 22 = .ok (.iconst 1, 1) := by decide +kernel
theorem dX13_many_23 : decode cX13_many 23 = .ok (.goto 4, 3) := by decide +kernel
theorem dX13_many_35 : decode cX13_many 35 = .ok (.iload_n 1, 1) := by decide +kernel
theorem dX13_many_36 : decode cX13_many 36 = .ok (.ireturn, 1) := by decide +kernel
theorem dX13_car_0 : decode cX13_car 0 = .ok (.aload_n 0, 1) := by decide +kernel
theorem dX13_car_1 : decode cX13_car 1 = .ok (.getfield 7, 3) := by decide +kernel
theorem dX13_car_4 : decode cX13_car 4 = .ok (.aload_n 0, 1) := by decide +kernel
theorem dX13_car_5 : decode cX13_car 5 = .ok (.getfield 70, 3) := by decide +kernel
theorem dX13_car_8 : decode cX13_car 8 = .ok (.iload_n 2, 1) := by decide +kernel
theorem dX13_car_9 : decode cX13_car 9 = .ok (.iastore, 1) := by decide +kernel
theorem dX13_car_10 : decode cX13_car 10 = .ok (.aload_n 0, 1) := by decide +kernel
theorem dX13_car_11 : decode cX13_car 11 = .ok (.getfield 13, 3) := by decide +kernel
theorem dX13_car_14 : decode cX13_car 14 = .ok (.aload_n 0, 1) := by decide +kernel
theorem dX13_car_15 : decode cX13_car 15 = .ok (.getfield 70, 3) := by decide +kernel
theorem dX13_car_18 : decode cX13_car 18 = .ok (.iload_n 1, 1) := by decide +kernel
theorem dX13_car_19 : decode cX13_car 19 = .ok (.iastore, 1) := by decide +kernel
theorem dX13_car_20 : decode cX13_car 20 = .ok (.aload_n 0, 1) := by decide +kernel
theorem dX13_car_21 : decode cX13_car 21 = .ok (.getfield 16, 3) := by decide +kernel
theorem dX13_car_24 : decode cX13_car 24 = .ok (.aload_n 0, 1) := by decide +kernel
theorem dX13_car_25 : decode cX13_car 25 = .ok (.getfield 70, 3) := by decide +kernel
theorem dX13_car_28 : decode cX13_car 28 = .ok (.iconst 0, 1) := by decide +kernel
theorem dX13_car_29 : decode cX13_car 29 = .ok (.iastore, 1) := by decide +kernel
theorem dX13_car_30 : decode cX13_car 30 = .ok (.aload_n 0, 1) := by decide +kernel
theorem dX13_car_31 : decode cX13_car 31 = .ok (.getfield 19, 3) := by decide +kernel
theorem dX13_car_34 : decode cX13_car 34 = .ok (.aload_n 0, 1) := by decide +kernel
theorem dX13_car_35 : decode cX13_car 35 = .ok (.getfield 70, 3) := by decide +kernel
theorem dX13_car_38 : decode cX13_car 38 = .ok (.iconst 0, 1) := by decide +kernel
theorem dX13_car_39 : decode cX13_car 39 = .ok (.iastore, 1) := by decide +kernel
theorem dX13_car_40 : decode cX13_car 40 = .ok (.aload_n 0, 1) := by decide +kernel
theorem dX13_car_41 : decode cX13_car 41 = .ok (.getfield 22, 3) := by decide +kernel
theorem dX13_car_44 : decode cX13_car 44 = .ok (.aload_n 0, 1) := by decide +kernel
theorem dX13_car_45 : decode cX13_car 45 = .ok (.getfield 70, 3) := by decide +kernel
theorem dX13_car_48 : decode cX13_car 48 = .ok (.bipush 59, 2) := by decide +kernel
theorem dX13_car_50 : decode cX13_car 50 = .ok (.iastore, 1) := by decide +kernel
theorem dX13_car_51 : decode cX13_car 51 = .ok (.aload_n 0, 1) := by decide +kernel
theorem dX13_car_52 : decode cX13_car 52 = .ok (.dup, 1) := by decide +kernel
theorem dX13_car_53 : decode cX13_car 53 = .ok (.getfield 70, 3) := by decide +kernel
theorem dX13_car_56 : decode cX13_car 56 = .ok (.iconst 1, 1) := by decide +kernel
theorem dX13_car_57 : decode cX13_car 57 = .ok (.iadd, 1) := by decide +kernel
theorem dX13_car_58 : decode cX13_car 58 = .ok (.putfield 70, 3) := by decide +kernel
theorem dX13_car_61 : decode cX13_car 61 = .ok (.aload_n 0, 1) := by decide +kernel
theorem dX13_car_62 : decode cX13_car 62 = .ok (.getfield 70, 3) := by decide +kernel
theorem dX13_car_65 : decode cX13_car 65 = .ok (.iconst 1, 1) := by decide +kernel
theorem dX13_car_66 : decode cX13_car 66 = .ok (.isub, 1) := by decide +kernel
theorem dX13_car_67 : decode cX13_car 67 = .ok (.ireturn, 1) := by decide +kernel
theorem dX13_call_0 : decode cX13_call 0 = .ok (.aload_n 0, 1) := by decide +kernel
theorem dX13_call_1 : decode cX13_call 1 = .ok (.getfield 25, 3) := by decide +kernel
theorem dX13_call_4 : decode cX13_call 4 = .ok (.aload_n 0, 1) := by decide +kernel
theorem dX13_call_5 : decode cX13_call 5 = .ok (.getfield 66, 3) := by decide +kernel
theorem dX13_call_8 : decode cX13_call 8 = .ok (.iload_n 1, 1) := by decide +kernel
theorem dX13_call_9 : decode cX13_call 9 = .ok (.iastore, 1) := by decide +kernel
theorem dX13_call_10 : decode cX13_call 10 = .ok (.aload_n 0, 1) := by decide +kernel
theorem dX13_call_11 : decode cX13_call 11 = .ok (.getfield 28, 3) := by decide +kernel
theorem dX13_call_14 : decode cX13_call 14 = .ok (.aload_n 0, 1) := by decide +kernel
theorem dX13_call_15 : decode cX13_call 15 = .ok (.getfield 66, 3) := by decide +kernel
theorem dX13_call_18 : decode cX13_call 18 = .ok (.iload_n 2, 1) := by decide +kernel
theorem dX13_call_19 : decode cX13_call 19 = .ok (.iastore, 1) := by decide +kernel
theorem dX13_call_20 : decode cX13_call 20 = .ok (.aload_n 0, 1) := by decide +kernel
theorem dX13_call_21 : decode cX13_call 21 = .ok (.getfield 31, 3) := by decide +kernel
theorem dX13_call_24 : decode cX13_call 24 = .ok (.aload_n 0, 1) := by decide +kernel
theorem dX13_call_25 : decode cX13_call 25 = .ok (.getfield 66, 3) := by decide +kernel
theorem dX13_call_28 : decode cX13_call 28 = .ok (.aload_n 0, 1) := by decide +kernel
theorem dX13_call_29 : decode cX13_call 29 = .ok (.getfield 73, 3) := by decide +kernel
theorem dX13_call_32 : decode cX13_call 32 = .ok (.iastore, 1) := by decide +kernel
theorem dX13_call_33 : decode cX13_call 33 = .ok (.aload_n 0, 1) := by decide +kernel
theorem dX13_call_34 : decode cX13_call 34 = .ok (.getfield 34, 3) := by decide +kernel
theorem dX13_call_37 : decode cX13_call 37 = .ok (.aload_n 0, 1) := by decide +kernel
theorem dX13_call_38 : decode cX13_call 38 = .ok (.getfield 66, 3) := by decide +kernel
theorem dX13_call_41 : decode cX13_call 41 = .ok (.iconst 1, 1) := by decide +kernel
theorem dX13_call_42 : decode cX13_call 42 = .ok (.bastore, 1) := by decide +kernel
theorem dX13_call_43 : decode cX13_call 43 = .ok (.aload_n 0, 1) := by decide +kernel
theorem dX13_call_44 : decode cX13_call 44 = .ok (.getfield 38, 3) := by decide +kernel
theorem dX13_call_47 : decode cX13_call 47 = .ok (.aload_n 0, 1) := by decide +kernel
theorem dX13_call_48 : decode cX13_call 48 = .ok (.getfield 66, 3) := by decide +kernel
theorem dX13_call_51 : decode cX13_call 51 = .ok (.iconst (-1), 1) := by decide +kernel
theorem dX13_call_52 : decode cX13_call 52 = .ok (.iastore, 1) := by decide +kernel
theorem dX13_call_53 : decode cX13_call 53 = .ok (.aload_n 0, 1) := by decide +kernel
theorem dX13_call_54 : decode cX13_call 54 = .ok (.dup, 1) := by decide +kernel
theorem dX13_call_55 : decode cX13_call 55 = .ok (.getfield 66, 3) := by decide +kernel
theorem dX13_call_58 : decode cX13_call 58 = .ok (.iconst 1, 1) := by decide +kernel
theorem dX13_call_59 : decode cX13_call 59 = .ok (.iadd, 1) := by decide +kernel
theorem dX13_call_60 : decode cX13_call 60 = .ok (.putfield 66, 3) := by decide +kernel
theorem dX13_call_63 : decode cX13_call 63 = .ok (.aload_n 0, 1) := by decide +kernel
theorem dX13_call_64 : decode cX13_call 64 = .ok (.getfield 66, 3) := by decide +kernel
theorem dX13_call_67 : decode cX13_call 67 = .ok (.iconst 1, 1) := by decide +kernel
theorem dX13_call_68 : decode cX13_call 68 = .ok (.isub, 1) := by decide +kernel
theorem dX13_call_69 : decode cX13_call 69 = .ok (.ireturn, 1) := by decide +kernel
theorem dX13_reaches_0 : decode cX13_reaches 0 = .ok (.aload_n 0, 1) := by decide +kernel
theorem dX13_reaches_1 : decode cX13_reaches 1 = .ok (.getfield 25, 3) := by decide +kernel
theorem dX13_reaches_4 : decode cX13_reaches 4 = .ok (.iload_n 2, 1) := by decide +kernel
theorem dX13_reaches_5 : decode cX13_reaches 5 = .ok (.iaload, 1) := by decide +kernel
theorem dX13_reaches_6 : decode cX13_reaches 6 = .ok (.aload_n 0, 1) := by decide +kernel
theorem dX13_reaches_7 : decode cX13_reaches 7 = .ok (.getfield 19, 3) := by decide +kernel
theorem dX13_reaches_10 : decode cX13_reaches 10 = .ok (.iload_n 1, 1) := by decide +kernel
theorem dX13_reaches_11 : decode cX13_reaches 11 = .ok (.iaload, 1) := by decide +kernel
theorem dX13_reaches_12 : decode cX13_reaches 12 = .ok (.if_icmp .lt 52, 3) := by decide +kernel
theorem dX13_reaches_64 : decode cX13_reaches 64 = .ok (.iconst 0, 1) := by decide +kernel
theorem dX13_reaches_65 : decode cX13_reaches 65 = .ok (.ireturn, 1) := by decide +kernel
theorem dX13_reaches_15 : decode cX13_reaches 15 = .ok (.aload_n 0, 1) := by decide +kernel
theorem dX13_reaches_16 : decode cX13_reaches 16 = .ok (.getfield 25, 3) := by decide +kernel
theorem dX13_reaches_19 : decode cX13_reaches 19 = .ok (.iload_n 2, 1) := by decide +kernel
theorem dX13_reaches_20 : decode cX13_reaches 20 = .ok (.iaload, 1) := by decide +kernel
theorem dX13_reaches_21 : decode cX13_reaches 21 = .ok (.aload_n 0, 1) := by decide +kernel
theorem dX13_reaches_22 : decode cX13_reaches 22 = .ok (.getfield 22, 3) := by decide +kernel
theorem dX13_reaches_25 : decode cX13_reaches 25 = .ok (.iload_n 1, 1) := by decide +kernel
theorem dX13_reaches_26 : decode cX13_reaches 26 = .ok (.iaload, 1) := by decide +kernel
theorem dX13_reaches_27 : decode cX13_reaches 27 = .ok (.if_icmp .gt 37, 3) := by decide +kernel
theorem dX13_reaches_30 : decode cX13_reaches 30 = .ok (.aload_n 0, 1) := by decide +kernel
theorem dX13_reaches_31 : decode cX13_reaches 31 = .ok (.getfield 28, 3) := by decide +kernel
theorem dX13_reaches_34 : decode cX13_reaches 34 = .ok (.iload_n 2, 1) := by decide +kernel
theorem dX13_reaches_35 : decode cX13_reaches 35 = .ok (.iaload, 1) := by decide +kernel
theorem dX13_reaches_36 : decode cX13_reaches 36 = .ok (.aload_n 0, 1) := by decide +kernel
theorem dX13_reaches_37 : decode cX13_reaches 37 = .ok (.getfield 19, 3) := by decide +kernel
theorem dX13_reaches_40 : decode cX13_reaches 40 = .ok (.iload_n 1, 1) := by decide +kernel
theorem dX13_reaches_41 : decode cX13_reaches 41 = .ok (.iaload, 1) := by decide +kernel
theorem dX13_reaches_42 : decode cX13_reaches 42 = .ok (.if_icmp .lt 22, 3) := by decide +kernel
theorem dX13_reaches_45 : decode cX13_reaches 45 = .ok (.aload_n 0, 1) := by decide +kernel
theorem dX13_reaches_46 : decode cX13_reaches 46 = .ok (.getfield 28, 3) := by decide +kernel
theorem dX13_reaches_49 : decode cX13_reaches 49 = .ok (.iload_n 2, 1) := by decide +kernel
theorem dX13_reaches_50 : decode cX13_reaches 50 = .ok (.iaload, 1) := by decide +kernel
theorem dX13_reaches_51 : decode cX13_reaches 51 = .ok (.aload_n 0, 1) := by decide +kernel
theorem dX13_reaches_52 : decode cX13_reaches 52 = .ok (.getfield 22, 3) := by decide +kernel
theorem dX13_reaches_55 : decode cX13_reaches 55 = .ok (.iload_n 1, 1) := by decide +kernel
theorem dX13_reaches_56 : decode cX13_reaches 56 = .ok (.iaload, 1) := by decide +kernel
theorem dX13_reaches_57 : decode cX13_reaches 57 = .ok (.if_icmp .gt 7, 3) := by decide +kernel
theorem dX13_reaches_60 : decode cX13_reaches 60 = .ok (.iconst 1, 1) := by decide +kernel
theorem dX13_reaches_61 : decode cX13_reaches 61 = .ok (.goto 4, 3) := by decide +kernel
theorem dX13_begin_0 : decode cX13_begin 0 = .ok (.iload_n 2, 1) := by decide +kernel
theorem dX13_begin_1 : decode cX13_begin 1 = .ok (.ifCond .lt 12, 3) := by decide +kernel
theorem dX13_begin_13 : decode cX13_begin 13 = .ok (.iconst 1, 1) := by decide +kernel
theorem dX13_begin_14 : decode cX13_begin 14 = .ok (.goto 4, 3) := by decide +kernel
theorem dX13_begin_18 : decode cX13_begin 18 = .ok (.istore_n 3, 1) := by decide +kernel
theorem dX13_begin_19 : decode cX13_begin 19 = .ok (.iconst 0, 1) := by decide +kernel
theorem dX13_begin_20 : decode cX13_begin 20 = .ok (.istore 4, 2) := by decide +kernel
theorem dX13_begin_22 : decode cX13_begin 22 = .ok (.iload 4, 2) := by decide +kernel
theorem dX13_begin_24 : decode cX13_begin 24 = .ok (.aload_n 0, 1) := by decide +kernel
theorem dX13_begin_25 : decode cX13_begin 25 = .ok (.getfield 66, 3) := by decide +kernel
theorem dX13_begin_28 : decode cX13_begin 28 = .ok (.if_icmp .ge 50, 3) := by decide +kernel
theorem dX13_begin_31 : decode cX13_begin 31 = .ok (.iload_n 3, 1) := by decide +kernel
theorem dX13_begin_32 : decode cX13_begin 32 = .ok (.ifCond .eq 38, 3) := by decide +kernel
theorem dX13_begin_70 : decode cX13_begin 70 = .ok (.iconst 0, 1) := by decide +kernel
theorem dX13_begin_71 : decode cX13_begin 71 = .ok (.istore_n 3, 1) := by decide +kernel
theorem dX13_begin_72 : decode cX13_begin 72 = .ok (.iinc 4 1, 3) := by decide +kernel
theorem dX13_begin_75 : decode cX13_begin 75 = .ok (.goto (-53), 3) := by decide +kernel
theorem dX13_begin_35 : decode cX13_begin 35 = .ok (.iload_n 2, 1) := by decide +kernel
theorem dX13_begin_36 : decode cX13_begin 36 = .ok (.ifCond .lt 30, 3) := by decide +kernel
theorem dX13_begin_66 : decode cX13_begin 66 = .ok (.iconst 1, 1) := by decide +kernel
theorem dX13_begin_67 : decode cX13_begin 67 = .ok (.goto 4, 3) := by decide +kernel
theorem dX13_begin_39 : decode cX13_begin 39 = .ok (.iload 4, 2) := by decide +kernel
theorem dX13_begin_41 : decode cX13_begin 41 = .ok (.iload_n 1, 1) := by decide +kernel
theorem dX13_begin_42 : decode cX13_begin 42 = .ok (.if_icmp .eq 24, 3) := by decide +kernel
theorem dX13_begin_45 : decode cX13_begin 45 = .ok (.aload_n 0, 1) := by decide +kernel
theorem dX13_begin_46 : decode cX13_begin 46 = .ok (.getfield 34, 3) := by decide +kernel
theorem dX13_begin_49 : decode cX13_begin 49 = .ok (.iload 4, 2) := by decide +kernel
theorem dX13_begin_51 : decode cX13_begin 51 = .ok (.baload, 1) := by decide +kernel
theorem dX13_begin_52 : decode cX13_begin 52 = .ok (.ifCond .eq 14, 3) := by decide +kernel
theorem dX13_begin_55 : decode cX13_begin 55 = .ok (.aload_n 0, 1) := by decide +kernel
theorem dX13_begin_56 : decode cX13_begin 56 = .ok (.getfield 38, 3) := by decide +kernel
theorem dX13_begin_59 : decode cX13_begin 59 = .ok (.iload 4, 2) := by decide +kernel
theorem dX13_begin_61 : decode cX13_begin 61 = .ok (.iaload, 1) := by decide +kernel
theorem dX13_begin_62 : decode cX13_begin 62 = .ok (.iload_n 2, 1) := by decide +kernel
theorem dX13_begin_63 : decode cX13_begin 63 = .ok (.if_icmp .eq 7, 3) := by decide +kernel
theorem dX13_begin_78 : decode cX13_begin 78 = .ok (.aload_n 0, 1) := by decide +kernel
theorem dX13_begin_79 : decode cX13_begin 79 = .ok (.getfield 38, 3) := by decide +kernel
theorem dX13_begin_82 : decode cX13_begin 82 = .ok (.iload_n 1, 1) := by decide +kernel
theorem dX13_begin_83 : decode cX13_begin 83 = .ok (.iload_n 3, 1) := by decide +kernel
theorem dX13_begin_84 : decode cX13_begin 84 = .ok (.ifCond .eq 7, 3) := by decide +kernel
theorem dX13_begin_91 : decode cX13_begin 91 = .ok (.aload_n 0, 1) := by decide +kernel
theorem dX13_begin_92 : decode cX13_begin 92 = .ok (.getfield 38, 3) := by decide +kernel
theorem dX13_begin_95 : decode cX13_begin 95 = .ok (.iload_n 1, 1) := by decide +kernel
theorem dX13_begin_96 : decode cX13_begin 96 = .ok (.iaload, 1) := by decide +kernel
theorem dX13_begin_97 : decode cX13_begin 97 = .ok (.iastore, 1) := by decide +kernel
theorem dX13_begin_98 : decode cX13_begin 98 = .ok (.iload_n 3, 1) := by decide +kernel
theorem dX13_begin_99 : decode cX13_begin 99 = .ok (.ireturn, 1) := by decide +kernel
theorem dX13_begin_87 : decode cX13_begin 87 = .ok (.iload_n 2, 1) := by decide +kernel
theorem dX13_begin_88 : decode cX13_begin 88 = .ok (.goto 9, 3) := by decide +kernel
theorem dX13_begin_4 : decode cX13_begin 4 = .ok (.aload_n 0, 1) := by decide +kernel
theorem dX13_begin_5 : decode cX13_begin 5 = .ok (.iload_n 2, 1) := by decide +kernel
theorem dX13_begin_6 : decode cX13_begin 6 = .ok (.iload_n 1, 1) := by decide +kernel
theorem dX13_begin_7 : decode cX13_begin 7 = .ok (.invokevirtual 76, 3) := by decide +kernel
theorem dX13_begin_10 : decode cX13_begin 10 = .ok (.ifCond .eq 7, 3) := by decide +kernel
theorem dX13_begin_17 : decode cX13_begin 17 = .ok (.iconst 0, 1) := by decide +kernel
theorem dX13_carsOf_0 : decode cX13_carsOf 0 = .ok (.iconst 0, 1) := by decide +kernel
theorem dX13_carsOf_1 : decode cX13_carsOf 1 = .ok (.istore_n 2, 1) := by decide +kernel
theorem dX13_carsOf_2 : decode cX13_carsOf 2 = .ok (.iconst 0, 1) := by decide +kernel
theorem dX13_carsOf_3 : decode cX13_carsOf 3 = .ok (.istore_n 3, 1) := by decide +kernel
theorem dX13_carsOf_4 : decode cX13_carsOf 4 = .ok (.iload_n 3, 1) := by decide +kernel
theorem dX13_carsOf_5 : decode cX13_carsOf 5 = .ok (.aload_n 0, 1) := by decide +kernel
theorem dX13_carsOf_6 : decode cX13_carsOf 6 = .ok (.getfield 70, 3) := by decide +kernel
theorem dX13_carsOf_9 : decode cX13_carsOf 9 = .ok (.if_icmp .ge 54, 3) := by decide +kernel
theorem dX13_carsOf_12 : decode cX13_carsOf 12 = .ok (.aload_n 0, 1) := by decide +kernel
theorem dX13_carsOf_13 : decode cX13_carsOf 13 = .ok (.getfield 80, 3) := by decide +kernel
theorem dX13_carsOf_16 : decode cX13_carsOf 16 = .ok (.ifCond .ne 47, 3) := by decide +kernel
theorem dX13_carsOf_19 : decode cX13_carsOf 19 = .ok (.iload_n 2, 1) := by decide +kernel
theorem dX13_carsOf_20 : decode cX13_carsOf 20 = .ok (.aload_n 0, 1) := by decide +kernel
theorem dX13_carsOf_21 : decode cX13_carsOf 21 = .ok (.iload_n 3, 1) := by decide +kernel
theorem dX13_carsOf_22 : decode cX13_carsOf 22 = .ok (.iload_n 1, 1) := by decide +kernel
theorem dX13_carsOf_23 : decode cX13_carsOf 23 = .ok (.invokevirtual 76, 3) := by decide +kernel
theorem dX13_carsOf_26 : decode cX13_carsOf 26 = .ok (.ifCond .eq 28, 3) := by decide +kernel
theorem dX13_carsOf_54 : decode cX13_carsOf 54 = .ok (.iconst 0, 1) := by decide +kernel
theorem dX13_carsOf_55 : decode cX13_carsOf 55 = .ok (.ior, 1) := by decide +kernel
theorem dX13_carsOf_56 : decode cX13_carsOf 56 = .ok (.istore_n 2, 1) := by decide +kernel
theorem dX13_carsOf_57 : decode cX13_carsOf 57 = .ok (.iinc 3 1, 3) := by decide +kernel
theorem dX13_carsOf_60 : decode cX13_carsOf 60 = .ok (.goto (-56), 3) := by decide +kernel
theorem dX13_carsOf_29 : decode cX13_carsOf 29 = .ok (.aload_n 0, 1) := by decide +kernel
theorem dX13_carsOf_30 : decode cX13_carsOf 30 = .ok (.getfield 38, 3) := by decide +kernel
theorem dX13_carsOf_33 : decode cX13_carsOf 33 = .ok (.iload_n 1, 1) := by decide +kernel
theorem dX13_carsOf_34 : decode cX13_carsOf 34 = .ok (.iaload, 1) := by decide +kernel
theorem dX13_carsOf_35 : decode cX13_carsOf 35 = .ok (.ifCond .lt 13, 3) := by decide +kernel
theorem dX13_carsOf_48 : decode cX13_carsOf 48 = .ok (.iconst 1, 1) := by decide +kernel
theorem dX13_carsOf_49 : decode cX13_carsOf 49 = .ok (.iload_n 3, 1) := by decide +kernel
theorem dX13_carsOf_50 : decode cX13_carsOf 50 = .ok (.ishl, 1) := by decide +kernel
theorem dX13_carsOf_51 : decode cX13_carsOf 51 = .ok (.goto 4, 3) := by decide +kernel
theorem dX13_carsOf_38 : decode cX13_carsOf 38 = .ok (.aload_n 0, 1) := by decide +kernel
theorem dX13_carsOf_39 : decode cX13_carsOf 39 = .ok (.getfield 38, 3) := by decide +kernel
theorem dX13_carsOf_42 : decode cX13_carsOf 42 = .ok (.iload_n 1, 1) := by decide +kernel
theorem dX13_carsOf_43 : decode cX13_carsOf 43 = .ok (.iaload, 1) := by decide +kernel
theorem dX13_carsOf_44 : decode cX13_carsOf 44 = .ok (.iload_n 3, 1) := by decide +kernel
theorem dX13_carsOf_45 : decode cX13_carsOf 45 = .ok (.if_icmp .ne 9, 3) := by decide +kernel
theorem dX13_carsOf_63 : decode cX13_carsOf 63 = .ok (.iload_n 2, 1) := by decide +kernel
theorem dX13_carsOf_64 : decode cX13_carsOf 64 = .ok (.ireturn, 1) := by decide +kernel
theorem dX13_weightOf_0 : decode cX13_weightOf 0 = .ok (.iconst 1, 1) := by decide +kernel
theorem dX13_weightOf_1 : decode cX13_weightOf 1 = .ok (.aload_n 0, 1) := by decide +kernel
theorem dX13_weightOf_2 : decode cX13_weightOf 2 = .ok (.getfield 73, 3) := by decide +kernel
theorem dX13_weightOf_5 : decode cX13_weightOf 5 = .ok (.aload_n 0, 1) := by decide +kernel
theorem dX13_weightOf_6 : decode cX13_weightOf 6 = .ok (.getfield 31, 3) := by decide +kernel
theorem dX13_weightOf_9 : decode cX13_weightOf 9 = .ok (.iload_n 1, 1) := by decide +kernel
theorem dX13_weightOf_10 : decode cX13_weightOf 10 = .ok (.iaload, 1) := by decide +kernel
theorem dX13_weightOf_11 : decode cX13_weightOf 11 = .ok (.isub, 1) := by decide +kernel
theorem dX13_weightOf_12 : decode cX13_weightOf 12 = .ok (.bipush 30, 2) := by decide +kernel
theorem dX13_weightOf_14 : decode cX13_weightOf 14 = .ok (.idiv, 1) := by decide +kernel
theorem dX13_weightOf_15 : decode cX13_weightOf 15 = .ok (.iadd, 1) := by decide +kernel
theorem dX13_weightOf_16 : decode cX13_weightOf 16 = .ok (.ireturn, 1) := by decide +kernel
theorem dX13_choose_0 : decode cX13_choose 0 = .ok (.aload_n 0, 1) := by decide +kernel
theorem dX13_choose_1 : decode cX13_choose 1 = .ok (.iconst 0, 1) := by decide +kernel
theorem dX13_choose_2 : decode cX13_choose 2 = .ok (.putfield 84, 3) := by decide +kernel
theorem dX13_choose_5 : decode cX13_choose 5 = .ok (.iconst 0, 1) := by decide +kernel
theorem dX13_choose_6 : decode cX13_choose 6 = .ok (.istore_n 1, 1) := by decide +kernel
theorem dX13_choose_7 : decode cX13_choose 7 = .ok (.iload_n 1, 1) := by decide +kernel
theorem dX13_choose_8 : decode cX13_choose 8 = .ok (.aload_n 0, 1) := by decide +kernel
theorem dX13_choose_9 : decode cX13_choose 9 = .ok (.getfield 66, 3) := by decide +kernel
theorem dX13_choose_12 : decode cX13_choose 12 = .ok (.if_icmp .ge 46, 3) := by decide +kernel
theorem dX13_choose_15 : decode cX13_choose 15 = .ok (.aload_n 0, 1) := by decide +kernel
theorem dX13_choose_16 : decode cX13_choose 16 = .ok (.getfield 34, 3) := by decide +kernel
theorem dX13_choose_19 : decode cX13_choose 19 = .ok (.iload_n 1, 1) := by decide +kernel
theorem dX13_choose_20 : decode cX13_choose 20 = .ok (.baload, 1) := by decide +kernel
theorem dX13_choose_21 : decode cX13_choose 21 = .ok (.ifCond .eq 31, 3) := by decide +kernel
theorem dX13_choose_52 : decode cX13_choose 52 = .ok (.iinc 1 1, 3) := by decide +kernel
theorem dX13_choose_55 : decode cX13_choose 55 = .ok (.goto (-48), 3) := by decide +kernel
theorem dX13_choose_24 : decode cX13_choose 24 = .ok (.aload_n 0, 1) := by decide +kernel
theorem dX13_choose_25 : decode cX13_choose 25 = .ok (.iload_n 1, 1) := by decide +kernel
theorem dX13_choose_26 : decode cX13_choose 26 = .ok (.invokevirtual 87, 3) := by decide +kernel
theorem dX13_choose_29 : decode cX13_choose 29 = .ok (.ifCond .le 23, 3) := by decide +kernel
theorem dX13_choose_32 : decode cX13_choose 32 = .ok (.aload_n 0, 1) := by decide +kernel
theorem dX13_choose_33 : decode cX13_choose 33 = .ok (.getfield 41, 3) := by decide +kernel
theorem dX13_choose_36 : decode cX13_choose 36 = .ok (.aload_n 0, 1) := by decide +kernel
theorem dX13_choose_37 : decode cX13_choose 37 = .ok (.getfield 84, 3) := by decide +kernel
theorem dX13_choose_40 : decode cX13_choose 40 = .ok (.iload_n 1, 1) := by decide +kernel
theorem dX13_choose_41 : decode cX13_choose 41 = .ok (.iastore, 1) := by decide +kernel
theorem dX13_choose_42 : decode cX13_choose 42 = .ok (.aload_n 0, 1) := by decide +kernel
theorem dX13_choose_43 : decode cX13_choose 43 = .ok (.dup, 1) := by decide +kernel
theorem dX13_choose_44 : decode cX13_choose 44 = .ok (.getfield 84, 3) := by decide +kernel
theorem dX13_choose_47 : decode cX13_choose 47 = .ok (.iconst 1, 1) := by decide +kernel
theorem dX13_choose_48 : decode cX13_choose 48 = .ok (.iadd, 1) := by decide +kernel
theorem dX13_choose_49 : decode cX13_choose 49 = .ok (.putfield 84, 3) := by decide +kernel
theorem dX13_choose_58 : decode cX13_choose 58 = .ok (.return_, 1) := by decide +kernel
theorem dX13_way_0 : decode cX13_way 0 = .ok (.aload_n 0, 1) := by decide +kernel
theorem dX13_way_1 : decode cX13_way 1 = .ok (.getfield 7, 3) := by decide +kernel
theorem dX13_way_4 : decode cX13_way 4 = .ok (.iload_n 1, 1) := by decide +kernel
theorem dX13_way_5 : decode cX13_way 5 = .ok (.iaload, 1) := by decide +kernel
theorem dX13_way_6 : decode cX13_way 6 = .ok (.iload_n 2, 1) := by decide +kernel
theorem dX13_way_7 : decode cX13_way 7 = .ok (.iload_n 3, 1) := by decide +kernel
theorem dX13_way_8 : decode cX13_way 8 = .ok (.if_icmp .ge 9, 3) := by decide +kernel
theorem dX13_way_17 : decode cX13_way 17 = .ok (.iload_n 2, 1) := by decide +kernel
theorem dX13_way_18 : decode cX13_way 18 = .ok (.iload_n 3, 1) := by decide +kernel
theorem dX13_way_19 : decode cX13_way 19 = .ok (.isub, 1) := by decide +kernel
theorem dX13_way_20 : decode cX13_way 20 = .ok (.imul, 1) := by decide +kernel
theorem dX13_way_21 : decode cX13_way 21 = .ok (.ireturn, 1) := by decide +kernel
theorem dX13_way_11 : decode cX13_way 11 = .ok (.iload_n 3, 1) := by decide +kernel
theorem dX13_way_12 : decode cX13_way 12 = .ok (.iload_n 2, 1) := by decide +kernel
theorem dX13_way_13 : decode cX13_way 13 = .ok (.isub, 1) := by decide +kernel
theorem dX13_way_14 : decode cX13_way 14 = .ok (.goto 6, 3) := by decide +kernel
theorem dX13_begins_0 : decode cX13_begins 0 = .ok (.aload_n 0, 1) := by decide +kernel
theorem dX13_begins_1 : decode cX13_begins 1 = .ok (.getfield 16, 3) := by decide +kernel
theorem dX13_begins_4 : decode cX13_begins 4 = .ok (.iload_n 1, 1) := by decide +kernel
theorem dX13_begins_5 : decode cX13_begins 5 = .ok (.iaload, 1) := by decide +kernel
theorem dX13_begins_6 : decode cX13_begins 6 = .ok (.aload_n 0, 1) := by decide +kernel
theorem dX13_begins_7 : decode cX13_begins 7 = .ok (.getfield 73, 3) := by decide +kernel
theorem dX13_begins_10 : decode cX13_begins 10 = .ok (.if_icmp .le 17, 3) := by decide +kernel
theorem dX13_begins_27 : decode cX13_begins 27 = .ok (.iconst 0, 1) := by decide +kernel
theorem dX13_begins_28 : decode cX13_begins 28 = .ok (.ireturn, 1) := by decide +kernel
theorem dX13_begins_13 : decode cX13_begins 13 = .ok (.aload_n 0, 1) := by decide +kernel
theorem dX13_begins_14 : decode cX13_begins 14 = .ok (.getfield 16, 3) := by decide +kernel
theorem dX13_begins_17 : decode cX13_begins 17 = .ok (.iload_n 1, 1) := by decide +kernel
theorem dX13_begins_18 : decode cX13_begins 18 = .ok (.iaload, 1) := by decide +kernel
theorem dX13_begins_19 : decode cX13_begins 19 = .ok (.aload_n 0, 1) := by decide +kernel
theorem dX13_begins_20 : decode cX13_begins 20 = .ok (.getfield 73, 3) := by decide +kernel
theorem dX13_begins_23 : decode cX13_begins 23 = .ok (.isub, 1) := by decide +kernel
theorem dX13_begins_24 : decode cX13_begins 24 = .ok (.goto 4, 3) := by decide +kernel
theorem dX13_costOf_0 : decode cX13_costOf 0 = .ok (.lconst 0, 1) := by decide +kernel
theorem dX13_costOf_1 : decode cX13_costOf 1 = .ok (.lstore_n 2, 1) := by decide +kernel
theorem dX13_costOf_2 : decode cX13_costOf 2 = .ok (.aload_n 0, 1) := by decide +kernel
theorem dX13_costOf_3 : decode cX13_costOf 3 = .ok (.iload_n 1, 1) := by decide +kernel
theorem dX13_costOf_4 : decode cX13_costOf 4 = .ok (.invokevirtual 91, 3) := by decide +kernel
theorem dX13_costOf_7 : decode cX13_costOf 7 = .ok (.istore 4, 2) := by decide +kernel
theorem dX13_costOf_9 : decode cX13_costOf 9 = .ok (.aload_n 0, 1) := by decide +kernel
theorem dX13_costOf_10 : decode cX13_costOf 10 = .ok (.getfield 13, 3) := by decide +kernel
theorem dX13_costOf_13 : decode cX13_costOf 13 = .ok (.iload_n 1, 1) := by decide +kernel
theorem dX13_costOf_14 : decode cX13_costOf 14 = .ok (.iaload, 1) := by decide +kernel
theorem dX13_costOf_15 : decode cX13_costOf 15 = .ok (.istore 5, 2) := by decide +kernel
theorem dX13_costOf_17 : decode cX13_costOf 17 = .ok (.iconst 0, 1) := by decide +kernel
theorem dX13_costOf_18 : decode cX13_costOf 18 = .ok (.istore 6, 2) := by decide +kernel
theorem dX13_costOf_20 : decode cX13_costOf 20 = .ok (.iload 6, 2) := by decide +kernel
theorem dX13_costOf_22 : decode cX13_costOf 22 = .ok (.aload_n 0, 1) := by decide +kernel
theorem dX13_costOf_23 : decode cX13_costOf 23 = .ok (.getfield 94, 3) := by decide +kernel
theorem dX13_costOf_26 : decode cX13_costOf 26 = .ok (.if_icmp .ge 95, 3) := by decide +kernel
theorem dX13_costOf_29 : decode cX13_costOf 29 = .ok (.aload_n 0, 1) := by decide +kernel
theorem dX13_costOf_30 : decode cX13_costOf 30 = .ok (.getfield 44, 3) := by decide +kernel
theorem dX13_costOf_33 : decode cX13_costOf 33 = .ok (.iload 6, 2) := by decide +kernel
theorem dX13_costOf_35 : decode cX13_costOf 35 = .ok (.iaload, 1) := by decide +kernel
theorem dX13_costOf_36 : decode cX13_costOf 36 = .ok (.istore 7, 2) := by decide +kernel
theorem dX13_costOf_38 : decode cX13_costOf 38 = .ok (.iload 4, 2) := by decide +kernel
theorem dX13_costOf_40 : decode cX13_costOf 40 = .ok (.aload_n 0, 1) := by decide +kernel
theorem dX13_costOf_41 : decode cX13_costOf 41 = .ok (.iload_n 1, 1) := by decide +kernel
theorem dX13_costOf_42 : decode cX13_costOf 42 = .ok (.iload 5, 2) := by decide +kernel
theorem dX13_costOf_44 : decode cX13_costOf 44 = .ok (.aload_n 0, 1) := by decide +kernel
theorem dX13_costOf_45 : decode cX13_costOf 45 = .ok (.getfield 25, 3) := by decide +kernel
theorem dX13_costOf_48 : decode cX13_costOf 48 = .ok (.iload 7, 2) := by decide +kernel
theorem dX13_costOf_50 : decode cX13_costOf 50 = .ok (.iaload, 1) := by decide +kernel
theorem dX13_costOf_51 : decode cX13_costOf 51 = .ok (.invokevirtual 97, 3) := by decide +kernel
theorem dX13_costOf_54 : decode cX13_costOf 54 = .ok (.iadd, 1) := by decide +kernel
theorem dX13_costOf_55 : decode cX13_costOf 55 = .ok (.istore 4, 2) := by decide +kernel
theorem dX13_costOf_57 : decode cX13_costOf 57 = .ok (.lload_n 2, 1) := by decide +kernel
theorem dX13_costOf_58 : decode cX13_costOf 58 = .ok (.aload_n 0, 1) := by decide +kernel
theorem dX13_costOf_59 : decode cX13_costOf 59 = .ok (.iload 7, 2) := by decide +kernel
theorem dX13_costOf_61 : decode cX13_costOf 61 = .ok (.invokevirtual 101, 3) := by decide +kernel
theorem dX13_costOf_64 : decode cX13_costOf 64 = .ok (.i2l, 1) := by decide +kernel
theorem dX13_costOf_65 : decode cX13_costOf 65 = .ok (.iload 4, 2) := by decide +kernel
theorem dX13_costOf_67 : decode cX13_costOf 67 = .ok (.i2l, 1) := by decide +kernel
theorem dX13_costOf_68 : decode cX13_costOf 68 = .ok (.lmul, 1) := by decide +kernel
theorem dX13_costOf_69 : decode cX13_costOf 69 = .ok (.ladd, 1) := by decide +kernel
theorem dX13_costOf_70 : decode cX13_costOf 70 = .ok (.lstore_n 2, 1) := by decide +kernel
theorem dX13_costOf_71 : decode cX13_costOf 71 = .ok (.iload 4, 2) := by decide +kernel
theorem dX13_costOf_73 : decode cX13_costOf 73 = .ok (.iconst 3, 1) := by decide +kernel
theorem dX13_costOf_74 : decode cX13_costOf 74 = .ok (.aload_n 0, 1) := by decide +kernel
theorem dX13_costOf_75 : decode cX13_costOf 75 = .ok (.iload_n 1, 1) := by decide +kernel
theorem dX13_costOf_76 : decode cX13_costOf 76 = .ok (.aload_n 0, 1) := by decide +kernel
theorem dX13_costOf_77 : decode cX13_costOf 77 = .ok (.getfield 25, 3) := by decide +kernel
theorem dX13_costOf_80 : decode cX13_costOf 80 = .ok (.iload 7, 2) := by decide +kernel
theorem dX13_costOf_82 : decode cX13_costOf 82 = .ok (.iaload, 1) := by decide +kernel
theorem dX13_costOf_83 : decode cX13_costOf 83 = .ok (.aload_n 0, 1) := by decide +kernel
theorem dX13_costOf_84 : decode cX13_costOf 84 = .ok (.getfield 28, 3) := by decide +kernel
theorem dX13_costOf_87 : decode cX13_costOf 87 = .ok (.iload 7, 2) := by decide +kernel
theorem dX13_costOf_89 : decode cX13_costOf 89 = .ok (.iaload, 1) := by decide +kernel
theorem dX13_costOf_90 : decode cX13_costOf 90 = .ok (.invokevirtual 97, 3) := by decide +kernel
theorem dX13_costOf_93 : decode cX13_costOf 93 = .ok (.iadd, 1) := by decide +kernel
theorem dX13_costOf_94 : decode cX13_costOf 94 = .ok (.iadd, 1) := by decide +kernel
theorem dX13_costOf_95 : decode cX13_costOf 95 = .ok (.istore 4, 2) := by decide +kernel
theorem dX13_costOf_97 : decode cX13_costOf 97 = .ok (.lload_n 2, 1) := by decide +kernel
theorem dX13_costOf_98 : decode cX13_costOf 98 = .ok (.iload 4, 2) := by decide +kernel
theorem dX13_costOf_100 : decode cX13_costOf 100 = .ok (.i2l, 1) := by decide +kernel
theorem dX13_costOf_101 : decode cX13_costOf 101 = .ok (.ladd, 1) := by decide +kernel
theorem dX13_costOf_102 : decode cX13_costOf 102 = .ok (.lstore_n 2, 1) := by decide +kernel
theorem dX13_costOf_103 : decode cX13_costOf 103 = .ok (.iinc 4 3, 3) := by decide +kernel
theorem dX13_costOf_106 : decode cX13_costOf 106 = .ok (.aload_n 0, 1) := by decide +kernel
theorem dX13_costOf_107 : decode cX13_costOf 107 = .ok (.getfield 28, 3) := by decide +kernel
theorem dX13_costOf_110 : decode cX13_costOf 110 = .ok (.iload 7, 2) := by decide +kernel
theorem dX13_costOf_112 : decode cX13_costOf 112 = .ok (.iaload, 1) := by decide +kernel
theorem dX13_costOf_113 : decode cX13_costOf 113 = .ok (.istore 5, 2) := by decide +kernel
theorem dX13_costOf_115 : decode cX13_costOf 115 = .ok (.iinc 6 1, 3) := by decide +kernel
theorem dX13_costOf_118 : decode cX13_costOf 118 = .ok (.goto (-98), 3) := by decide +kernel
theorem dX13_costOf_121 : decode cX13_costOf 121 = .ok (.lload_n 2, 1) := by decide +kernel
theorem dX13_costOf_122 : decode cX13_costOf 122 = .ok (.lreturn, 1) := by decide +kernel
theorem dX13_nextRow_0 : decode cX13_nextRow 0 = .ok (.aload_n 0, 1) := by decide +kernel
theorem dX13_nextRow_1 : decode cX13_nextRow 1 = .ok (.getfield 94, 3) := by decide +kernel
theorem dX13_nextRow_4 : decode cX13_nextRow 4 = .ok (.iconst 2, 1) := by decide +kernel
theorem dX13_nextRow_5 : decode cX13_nextRow 5 = .ok (.isub, 1) := by decide +kernel
theorem dX13_nextRow_6 : decode cX13_nextRow 6 = .ok (.istore_n 1, 1) := by decide +kernel
theorem dX13_nextRow_7 : decode cX13_nextRow 7 = .ok (.iload_n 1, 1) := by decide +kernel
theorem dX13_nextRow_8 : decode cX13_nextRow 8 = .ok (.ifCond .lt 26, 3) := by decide +kernel
theorem dX13_nextRow_11 : decode cX13_nextRow 11 = .ok (.aload_n 0, 1) := by decide +kernel
theorem dX13_nextRow_12 : decode cX13_nextRow 12 = .ok (.getfield 44, 3) := by decide +kernel
theorem dX13_nextRow_15 : decode cX13_nextRow 15 = .ok (.iload_n 1, 1) := by decide +kernel
theorem dX13_nextRow_16 : decode cX13_nextRow 16 = .ok (.iaload, 1) := by decide +kernel
theorem dX13_nextRow_17 : decode cX13_nextRow 17 = .ok (.aload_n 0, 1) := by decide +kernel
theorem dX13_nextRow_18 : decode cX13_nextRow 18 = .ok (.getfield 44, 3) := by decide +kernel
theorem dX13_nextRow_21 : decode cX13_nextRow 21 = .ok (.iload_n 1, 1) := by decide +kernel
theorem dX13_nextRow_22 : decode cX13_nextRow 22 = .ok (.iconst 1, 1) := by decide +kernel
theorem dX13_nextRow_23 : decode cX13_nextRow 23 = .ok (.iadd, 1) := by decide +kernel
theorem dX13_nextRow_24 : decode cX13_nextRow 24 = .ok (.iaload, 1) := by decide +kernel
theorem dX13_nextRow_25 : decode cX13_nextRow 25 = .ok (.if_icmp .le 9, 3) := by decide +kernel
theorem dX13_nextRow_28 : decode cX13_nextRow 28 = .ok (.iinc 1 (-1), 3) := by decide +kernel
theorem dX13_nextRow_31 : decode cX13_nextRow 31 = .ok (.goto (-24), 3) := by decide +kernel
theorem dX13_nextRow_34 : decode cX13_nextRow 34 = .ok (.iload_n 1, 1) := by decide +kernel
theorem dX13_nextRow_35 : decode cX13_nextRow 35 = .ok (.ifCond .ge 5, 3) := by decide +kernel
theorem dX13_nextRow_40 : decode cX13_nextRow 40 = .ok (.aload_n 0, 1) := by decide +kernel
theorem dX13_nextRow_41 : decode cX13_nextRow 41 = .ok (.getfield 94, 3) := by decide +kernel
theorem dX13_nextRow_44 : decode cX13_nextRow 44 = .ok (.iconst 1, 1) := by decide +kernel
theorem dX13_nextRow_45 : decode cX13_nextRow 45 = .ok (.isub, 1) := by decide +kernel
theorem dX13_nextRow_46 : decode cX13_nextRow 46 = .ok (.istore_n 2, 1) := by decide +kernel
theorem dX13_nextRow_47 : decode cX13_nextRow 47 = .ok (.aload_n 0, 1) := by decide +kernel
theorem dX13_nextRow_48 : decode cX13_nextRow 48 = .ok (.getfield 44, 3) := by decide +kernel
theorem dX13_nextRow_51 : decode cX13_nextRow 51 = .ok (.iload_n 2, 1) := by decide +kernel
theorem dX13_nextRow_52 : decode cX13_nextRow 52 = .ok (.iaload, 1) := by decide +kernel
theorem dX13_nextRow_53 : decode cX13_nextRow 53 = .ok (.aload_n 0, 1) := by decide +kernel
theorem dX13_nextRow_54 : decode cX13_nextRow 54 = .ok (.getfield 44, 3) := by decide +kernel
theorem dX13_nextRow_57 : decode cX13_nextRow 57 = .ok (.iload_n 1, 1) := by decide +kernel
theorem dX13_nextRow_58 : decode cX13_nextRow 58 = .ok (.iaload, 1) := by decide +kernel
theorem dX13_nextRow_59 : decode cX13_nextRow 59 = .ok (.if_icmp .ge 9, 3) := by decide +kernel
theorem dX13_nextRow_62 : decode cX13_nextRow 62 = .ok (.iinc 2 (-1), 3) := by decide +kernel
theorem dX13_nextRow_65 : decode cX13_nextRow 65 = .ok (.goto (-18), 3) := by decide +kernel
theorem dX13_nextRow_68 : decode cX13_nextRow 68 = .ok (.aload_n 0, 1) := by decide +kernel
theorem dX13_nextRow_69 : decode cX13_nextRow 69 = .ok (.getfield 44, 3) := by decide +kernel
theorem dX13_nextRow_72 : decode cX13_nextRow 72 = .ok (.iload_n 1, 1) := by decide +kernel
theorem dX13_nextRow_73 : decode cX13_nextRow 73 = .ok (.iaload, 1) := by decide +kernel
theorem dX13_nextRow_74 : decode cX13_nextRow 74 = .ok (.istore_n 3, 1) := by decide +kernel
theorem dX13_nextRow_75 : decode cX13_nextRow 75 = .ok (.aload_n 0, 1) := by decide +kernel
theorem dX13_nextRow_76 : decode cX13_nextRow 76 = .ok (.getfield 44, 3) := by decide +kernel
theorem dX13_nextRow_79 : decode cX13_nextRow 79 = .ok (.iload_n 1, 1) := by decide +kernel
theorem dX13_nextRow_80 : decode cX13_nextRow 80 = .ok (.aload_n 0, 1) := by decide +kernel
theorem dX13_nextRow_81 : decode cX13_nextRow 81 = .ok (.getfield 44, 3) := by decide +kernel
theorem dX13_nextRow_84 : decode cX13_nextRow 84 = .ok (.iload_n 2, 1) := by decide +kernel
theorem dX13_nextRow_85 : decode cX13_nextRow 85 = .ok (.iaload, 1) := by decide +kernel
theorem dX13_nextRow_86 : decode cX13_nextRow 86 = .ok (.iastore, 1) := by decide +kernel
theorem dX13_nextRow_87 : decode cX13_nextRow 87 = .ok (.aload_n 0, 1) := by decide +kernel
theorem dX13_nextRow_88 : decode cX13_nextRow 88 = .ok (.getfield 44, 3) := by decide +kernel
theorem dX13_nextRow_91 : decode cX13_nextRow 91 = .ok (.iload_n 2, 1) := by decide +kernel
theorem dX13_nextRow_92 : decode cX13_nextRow 92 = .ok (.iload_n 3, 1) := by decide +kernel
theorem dX13_nextRow_93 : decode cX13_nextRow 93 = .ok (.iastore, 1) := by decide +kernel
theorem dX13_nextRow_94 : decode cX13_nextRow 94 = .ok (.iload_n 1, 1) := by decide +kernel
theorem dX13_nextRow_95 : decode cX13_nextRow 95 = .ok (.iconst 1, 1) := by decide +kernel
theorem dX13_nextRow_96 : decode cX13_nextRow 96 = .ok (.iadd, 1) := by decide +kernel
theorem dX13_nextRow_97 : decode cX13_nextRow 97 = .ok (.istore 4, 2) := by decide +kernel
theorem dX13_nextRow_99 : decode cX13_nextRow 99 = .ok (.aload_n 0, 1) := by decide +kernel
theorem dX13_nextRow_100 : decode cX13_nextRow 100 = .ok (.getfield 94, 3) := by decide +kernel
theorem dX13_nextRow_103 : decode cX13_nextRow 103 = .ok (.iconst 1, 1) := by decide +kernel
theorem dX13_nextRow_104 : decode cX13_nextRow 104 = .ok (.isub, 1) := by decide +kernel
theorem dX13_nextRow_105 : decode cX13_nextRow 105 = .ok (.istore 5, 2) := by decide +kernel
theorem dX13_nextRow_107 : decode cX13_nextRow 107 = .ok (.iload 4, 2) := by decide +kernel
theorem dX13_nextRow_109 : decode cX13_nextRow 109 = .ok (.iload 5, 2) := by decide +kernel
theorem dX13_nextRow_111 : decode cX13_nextRow 111 = .ok (.if_icmp .ge 42, 3) := by decide +kernel
theorem dX13_nextRow_114 : decode cX13_nextRow 114 = .ok (.aload_n 0, 1) := by decide +kernel
theorem dX13_nextRow_115 : decode cX13_nextRow 115 = .ok (.getfield 44, 3) := by decide +kernel
theorem dX13_nextRow_118 : decode cX13_nextRow 118 = .ok (.iload 4, 2) := by decide +kernel
theorem dX13_nextRow_120 : decode cX13_nextRow 120 = .ok (.iaload, 1) := by decide +kernel
theorem dX13_nextRow_121 : decode cX13_nextRow 121 = .ok (.istore_n 3, 1) := by decide +kernel
theorem dX13_nextRow_122 : decode cX13_nextRow 122 = .ok (.aload_n 0, 1) := by decide +kernel
theorem dX13_nextRow_123 : decode cX13_nextRow 123 = .ok (.getfield 44, 3) := by decide +kernel
theorem dX13_nextRow_126 : decode cX13_nextRow 126 = .ok (.iload 4, 2) := by decide +kernel
theorem dX13_nextRow_128 : decode cX13_nextRow 128 = .ok (.aload_n 0, 1) := by decide +kernel
theorem dX13_nextRow_129 : decode cX13_nextRow 129 = .ok (.getfield 44, 3) := by decide +kernel
theorem dX13_nextRow_132 : decode cX13_nextRow 132 = .ok (.iload 5, 2) := by decide +kernel
theorem dX13_nextRow_134 : decode cX13_nextRow 134 = .ok (.iaload, 1) := by decide +kernel
theorem dX13_nextRow_135 : decode cX13_nextRow 135 = .ok (.iastore, 1) := by decide +kernel
theorem dX13_nextRow_136 : decode cX13_nextRow 136 = .ok (.aload_n 0, 1) := by decide +kernel
theorem dX13_nextRow_137 : decode cX13_nextRow 137 = .ok (.getfield 44, 3) := by decide +kernel
theorem dX13_nextRow_140 : decode cX13_nextRow 140 = .ok (.iload 5, 2) := by decide +kernel
theorem dX13_nextRow_142 : decode cX13_nextRow 142 = .ok (.iload_n 3, 1) := by decide +kernel
theorem dX13_nextRow_143 : decode cX13_nextRow 143 = .ok (.iastore, 1) := by decide +kernel
theorem dX13_nextRow_144 : decode cX13_nextRow 144 = .ok (.iinc 4 1, 3) := by decide +kernel
theorem dX13_nextRow_147 : decode cX13_nextRow 147 = .ok (.iinc 5 (-1), 3) := by decide +kernel
theorem dX13_nextRow_150 : decode cX13_nextRow 150 = .ok (.goto (-43), 3) := by decide +kernel
theorem dX13_nextRow_153 : decode cX13_nextRow 153 = .ok (.iconst 1, 1) := by decide +kernel
theorem dX13_nextRow_154 : decode cX13_nextRow 154 = .ok (.ireturn, 1) := by decide +kernel
theorem dX13_nextRow_38 : decode cX13_nextRow 38 = .ok (.iconst 0, 1) := by decide +kernel
theorem dX13_nextRow_39 : decode cX13_nextRow 39 = .ok (.ireturn, 1) := by decide +kernel
theorem dX13_isRight_0 : decode cX13_isRight 0 = .ok (.iconst 1, 1) := by decide +kernel
theorem dX13_isRight_1 : decode cX13_isRight 1 = .ok (.istore_n 2, 1) := by decide +kernel
theorem dX13_isRight_2 : decode cX13_isRight 2 = .ok (.iconst 1, 1) := by decide +kernel
theorem dX13_isRight_3 : decode cX13_isRight 3 = .ok (.istore_n 3, 1) := by decide +kernel
theorem dX13_isRight_4 : decode cX13_isRight 4 = .ok (.iload_n 3, 1) := by decide +kernel
theorem dX13_isRight_5 : decode cX13_isRight 5 = .ok (.aload_n 0, 1) := by decide +kernel
theorem dX13_isRight_6 : decode cX13_isRight 6 = .ok (.getfield 94, 3) := by decide +kernel
theorem dX13_isRight_9 : decode cX13_isRight 9 = .ok (.if_icmp .ge 34, 3) := by decide +kernel
theorem dX13_isRight_12 : decode cX13_isRight 12 = .ok (.iload_n 2, 1) := by decide +kernel
theorem dX13_isRight_13 : decode cX13_isRight 13 = .ok (.ifCond .eq 22, 3) := by decide +kernel
theorem dX13_isRight_35 : decode cX13_isRight 35 = .ok (.iconst 0, 1) := by decide +kernel
theorem dX13_isRight_36 : decode cX13_isRight 36 = .ok (.istore_n 2, 1) := by decide +kernel
theorem dX13_isRight_37 : decode cX13_isRight 37 = .ok (.iinc 3 1, 3) := by decide +kernel
theorem dX13_isRight_40 : decode cX13_isRight 40 = .ok (.goto (-36), 3) := by decide +kernel
theorem dX13_isRight_16 : decode cX13_isRight 16 = .ok (.aload_n 0, 1) := by decide +kernel
theorem dX13_isRight_17 : decode cX13_isRight 17 = .ok (.getfield 38, 3) := by decide +kernel
theorem dX13_isRight_20 : decode cX13_isRight 20 = .ok (.aload_n 0, 1) := by decide +kernel
theorem dX13_isRight_21 : decode cX13_isRight 21 = .ok (.getfield 44, 3) := by decide +kernel
theorem dX13_isRight_24 : decode cX13_isRight 24 = .ok (.iload_n 3, 1) := by decide +kernel
theorem dX13_isRight_25 : decode cX13_isRight 25 = .ok (.iaload, 1) := by decide +kernel
theorem dX13_isRight_26 : decode cX13_isRight 26 = .ok (.iaload, 1) := by decide +kernel
theorem dX13_isRight_27 : decode cX13_isRight 27 = .ok (.iload_n 1, 1) := by decide +kernel
theorem dX13_isRight_28 : decode cX13_isRight 28 = .ok (.if_icmp .eq 7, 3) := by decide +kernel
theorem dX13_isRight_31 : decode cX13_isRight 31 = .ok (.iconst 1, 1) := by decide +kernel
theorem dX13_isRight_32 : decode cX13_isRight 32 = .ok (.goto 4, 3) := by decide +kernel
theorem dX13_isRight_43 : decode cX13_isRight 43 = .ok (.iload_n 2, 1) := by decide +kernel
theorem dX13_isRight_44 : decode cX13_isRight 44 = .ok (.ireturn, 1) := by decide +kernel
theorem dX13_findRow_0 : decode cX13_findRow 0 = .ok (.bipush 64, 2) := by decide +kernel
theorem dX13_findRow_2 : decode cX13_findRow 2 = .ok (.iload_n 1, 1) := by decide +kernel
theorem dX13_findRow_3 : decode cX13_findRow 3 = .ok (.imul, 1) := by decide +kernel
theorem dX13_findRow_4 : decode cX13_findRow 4 = .ok (.iload_n 2, 1) := by decide +kernel
theorem dX13_findRow_5 : decode cX13_findRow 5 = .ok (.iadd, 1) := by decide +kernel
theorem dX13_findRow_6 : decode cX13_findRow 6 = .ok (.istore_n 3, 1) := by decide +kernel
theorem dX13_findRow_7 : decode cX13_findRow 7 = .ok (.aload_n 0, 1) := by decide +kernel
theorem dX13_findRow_8 : decode cX13_findRow 8 = .ok (.getfield 47, 3) := by decide +kernel
theorem dX13_findRow_11 : decode cX13_findRow 11 = .ok (.iload_n 3, 1) := by decide +kernel
theorem dX13_findRow_12 : decode cX13_findRow 12 = .ok (.ldc2_w 104, 3) := by decide +kernel
theorem dX13_findRow_15 : decode cX13_findRow 15 = .ok (.lastore, 1) := by decide +kernel
theorem dX13_findRow_16 : decode cX13_findRow 16 = .ok (.aload_n 0, 1) := by decide +kernel
theorem dX13_findRow_17 : decode cX13_findRow 17 = .ok (.iconst 0, 1) := by decide +kernel
theorem dX13_findRow_18 : decode cX13_findRow 18 = .ok (.putfield 94, 3) := by decide +kernel
theorem dX13_findRow_21 : decode cX13_findRow 21 = .ok (.iconst 0, 1) := by decide +kernel
theorem dX13_findRow_22 : decode cX13_findRow 22 = .ok (.istore 4, 2) := by decide +kernel
theorem dX13_findRow_24 : decode cX13_findRow 24 = .ok (.iload 4, 2) := by decide +kernel
theorem dX13_findRow_26 : decode cX13_findRow 26 = .ok (.aload_n 0, 1) := by decide +kernel
theorem dX13_findRow_27 : decode cX13_findRow 27 = .ok (.getfield 84, 3) := by decide +kernel
theorem dX13_findRow_30 : decode cX13_findRow 30 = .ok (.if_icmp .ge 64, 3) := by decide +kernel
theorem dX13_findRow_33 : decode cX13_findRow 33 = .ok (.iload_n 2, 1) := by decide +kernel
theorem dX13_findRow_34 : decode cX13_findRow 34 = .ok (.iload 4, 2) := by decide +kernel
theorem dX13_findRow_36 : decode cX13_findRow 36 = .ok (.ishr, 1) := by decide +kernel
theorem dX13_findRow_37 : decode cX13_findRow 37 = .ok (.iconst 1, 1) := by decide +kernel
theorem dX13_findRow_38 : decode cX13_findRow 38 = .ok (.iand, 1) := by decide +kernel
theorem dX13_findRow_39 : decode cX13_findRow 39 = .ok (.iconst 1, 1) := by decide +kernel
theorem dX13_findRow_40 : decode cX13_findRow 40 = .ok (.if_icmp .ne 48, 3) := by decide +kernel
theorem dX13_findRow_88 : decode cX13_findRow 88 = .ok (.iinc 4 1, 3) := by decide +kernel
theorem dX13_findRow_91 : decode cX13_findRow 91 = .ok (.goto (-67), 3) := by decide +kernel
theorem dX13_findRow_43 : decode cX13_findRow 43 = .ok (.aload_n 0, 1) := by decide +kernel
theorem dX13_findRow_44 : decode cX13_findRow 44 = .ok (.getfield 44, 3) := by decide +kernel
theorem dX13_findRow_47 : decode cX13_findRow 47 = .ok (.aload_n 0, 1) := by decide +kernel
theorem dX13_findRow_48 : decode cX13_findRow 48 = .ok (.getfield 94, 3) := by decide +kernel
theorem dX13_findRow_51 : decode cX13_findRow 51 = .ok (.aload_n 0, 1) := by decide +kernel
theorem dX13_findRow_52 : decode cX13_findRow 52 = .ok (.getfield 41, 3) := by decide +kernel
theorem dX13_findRow_55 : decode cX13_findRow 55 = .ok (.iload 4, 2) := by decide +kernel
theorem dX13_findRow_57 : decode cX13_findRow 57 = .ok (.iaload, 1) := by decide +kernel
theorem dX13_findRow_58 : decode cX13_findRow 58 = .ok (.iastore, 1) := by decide +kernel
theorem dX13_findRow_59 : decode cX13_findRow 59 = .ok (.aload_n 0, 1) := by decide +kernel
theorem dX13_findRow_60 : decode cX13_findRow 60 = .ok (.dup, 1) := by decide +kernel
theorem dX13_findRow_61 : decode cX13_findRow 61 = .ok (.getfield 94, 3) := by decide +kernel
theorem dX13_findRow_64 : decode cX13_findRow 64 = .ok (.iconst 1, 1) := by decide +kernel
theorem dX13_findRow_65 : decode cX13_findRow 65 = .ok (.iadd, 1) := by decide +kernel
theorem dX13_findRow_66 : decode cX13_findRow 66 = .ok (.putfield 94, 3) := by decide +kernel
theorem dX13_findRow_69 : decode cX13_findRow 69 = .ok (.aload_n 0, 1) := by decide +kernel
theorem dX13_findRow_70 : decode cX13_findRow 70 = .ok (.aload_n 0, 1) := by decide +kernel
theorem dX13_findRow_71 : decode cX13_findRow 71 = .ok (.getfield 41, 3) := by decide +kernel
theorem dX13_findRow_74 : decode cX13_findRow 74 = .ok (.iload 4, 2) := by decide +kernel
theorem dX13_findRow_76 : decode cX13_findRow 76 = .ok (.iaload, 1) := by decide +kernel
theorem dX13_findRow_77 : decode cX13_findRow 77 = .ok (.invokevirtual 87, 3) := by decide +kernel
theorem dX13_findRow_80 : decode cX13_findRow 80 = .ok (.iload_n 1, 1) := by decide +kernel
theorem dX13_findRow_81 : decode cX13_findRow 81 = .ok (.ishr, 1) := by decide +kernel
theorem dX13_findRow_82 : decode cX13_findRow 82 = .ok (.iconst 1, 1) := by decide +kernel
theorem dX13_findRow_83 : decode cX13_findRow 83 = .ok (.iand, 1) := by decide +kernel
theorem dX13_findRow_84 : decode cX13_findRow 84 = .ok (.ifCond .ne 4, 3) := by decide +kernel
theorem dX13_findRow_87 : decode cX13_findRow 87 = .ok (.return_, 1) := by decide +kernel
theorem dX13_findRow_94 : decode cX13_findRow 94 = .ok (.iconst 1, 1) := by decide +kernel
theorem dX13_findRow_95 : decode cX13_findRow 95 = .ok (.istore 4, 2) := by decide +kernel
theorem dX13_findRow_97 : decode cX13_findRow 97 = .ok (.iload 4, 2) := by decide +kernel
theorem dX13_findRow_99 : decode cX13_findRow 99 = .ok (.ifCond .eq 84, 3) := by decide +kernel
theorem dX13_findRow_102 : decode cX13_findRow 102 = .ok (.aload_n 0, 1) := by decide +kernel
theorem dX13_findRow_103 : decode cX13_findRow 103 = .ok (.iload_n 1, 1) := by decide +kernel
theorem dX13_findRow_104 : decode cX13_findRow 104 = .ok (.invokevirtual 106, 3) := by decide +kernel
theorem dX13_findRow_107 : decode cX13_findRow 107 = .ok (.lstore 5, 2) := by decide +kernel
theorem dX13_findRow_109 : decode cX13_findRow 109 = .ok (.aload_n 0, 1) := by decide +kernel
theorem dX13_findRow_110 : decode cX13_findRow 110 = .ok (.iload_n 1, 1) := by decide +kernel
theorem dX13_findRow_111 : decode cX13_findRow 111 = .ok (.invokevirtual 110, 3) := by decide +kernel
theorem dX13_findRow_114 : decode cX13_findRow 114 = .ok (.ifCond .eq 60, 3) := by decide +kernel
theorem dX13_findRow_174 : decode cX13_findRow 174 = .ok (.aload_n 0, 1) := by decide +kernel
theorem dX13_findRow_175 : decode cX13_findRow 175 = .ok (.invokevirtual 114, 3) := by decide +kernel
theorem dX13_findRow_178 : decode cX13_findRow 178 = .ok (.istore 4, 2) := by decide +kernel
theorem dX13_findRow_180 : decode cX13_findRow 180 = .ok (.goto (-83), 3) := by decide +kernel
theorem dX13_findRow_117 : decode cX13_findRow 117 = .ok (.lload 5, 2) := by decide +kernel
theorem dX13_findRow_119 : decode cX13_findRow 119 = .ok (.aload_n 0, 1) := by decide +kernel
theorem dX13_findRow_120 : decode cX13_findRow 120 = .ok (.getfield 47, 3) := by decide +kernel
theorem dX13_findRow_123 : decode cX13_findRow 123 = .ok (.iload_n 3, 1) := by decide +kernel
theorem dX13_findRow_124 : decode cX13_findRow 124 = .ok (.laload, 1) := by decide +kernel
theorem dX13_findRow_125 : decode cX13_findRow 125 = .ok (.lcmp, 1) := by decide +kernel
theorem dX13_findRow_126 : decode cX13_findRow 126 = .ok (.ifCond .ge 48, 3) := by decide +kernel
theorem dX13_findRow_129 : decode cX13_findRow 129 = .ok (.aload_n 0, 1) := by decide +kernel
theorem dX13_findRow_130 : decode cX13_findRow 130 = .ok (.getfield 47, 3) := by decide +kernel
theorem dX13_findRow_133 : decode cX13_findRow 133 = .ok (.iload_n 3, 1) := by decide +kernel
theorem dX13_findRow_134 : decode cX13_findRow 134 = .ok (.lload 5, 2) := by decide +kernel
theorem dX13_findRow_136 : decode cX13_findRow 136 = .ok (.lastore, 1) := by decide +kernel
theorem dX13_findRow_137 : decode cX13_findRow 137 = .ok (.iconst 0, 1) := by decide +kernel
theorem dX13_findRow_138 : decode cX13_findRow 138 = .ok (.istore 7, 2) := by decide +kernel
theorem dX13_findRow_140 : decode cX13_findRow 140 = .ok (.iload 7, 2) := by decide +kernel
theorem dX13_findRow_142 : decode cX13_findRow 142 = .ok (.aload_n 0, 1) := by decide +kernel
theorem dX13_findRow_143 : decode cX13_findRow 143 = .ok (.getfield 94, 3) := by decide +kernel
theorem dX13_findRow_146 : decode cX13_findRow 146 = .ok (.if_icmp .ge 28, 3) := by decide +kernel
theorem dX13_findRow_149 : decode cX13_findRow 149 = .ok (.aload_n 0, 1) := by decide +kernel
theorem dX13_findRow_150 : decode cX13_findRow 150 = .ok (.getfield 51, 3) := by decide +kernel
theorem dX13_findRow_153 : decode cX13_findRow 153 = .ok (.bipush 6, 2) := by decide +kernel
theorem dX13_findRow_155 : decode cX13_findRow 155 = .ok (.iload_n 3, 1) := by decide +kernel
theorem dX13_findRow_156 : decode cX13_findRow 156 = .ok (.imul, 1) := by decide +kernel
theorem dX13_findRow_157 : decode cX13_findRow 157 = .ok (.iload 7, 2) := by decide +kernel
theorem dX13_findRow_159 : decode cX13_findRow 159 = .ok (.iadd, 1) := by decide +kernel
theorem dX13_findRow_160 : decode cX13_findRow 160 = .ok (.aload_n 0, 1) := by decide +kernel
theorem dX13_findRow_161 : decode cX13_findRow 161 = .ok (.getfield 44, 3) := by decide +kernel
theorem dX13_findRow_164 : decode cX13_findRow 164 = .ok (.iload 7, 2) := by decide +kernel
theorem dX13_findRow_166 : decode cX13_findRow 166 = .ok (.iaload, 1) := by decide +kernel
theorem dX13_findRow_167 : decode cX13_findRow 167 = .ok (.iastore, 1) := by decide +kernel
theorem dX13_findRow_168 : decode cX13_findRow 168 = .ok (.iinc 7 1, 3) := by decide +kernel
theorem dX13_findRow_171 : decode cX13_findRow 171 = .ok (.goto (-31), 3) := by decide +kernel
theorem dX13_findRow_183 : decode cX13_findRow 183 = .ok (.return_, 1) := by decide +kernel
theorem dX13_bitsOf_0 : decode cX13_bitsOf 0 = .ok (.iconst 0, 1) := by decide +kernel
theorem dX13_bitsOf_1 : decode cX13_bitsOf 1 = .ok (.istore_n 3, 1) := by decide +kernel
theorem dX13_bitsOf_2 : decode cX13_bitsOf 2 = .ok (.iload_n 1, 1) := by decide +kernel
theorem dX13_bitsOf_3 : decode cX13_bitsOf 3 = .ok (.istore 4, 2) := by decide +kernel
theorem dX13_bitsOf_5 : decode cX13_bitsOf 5 = .ok (.aload_n 0, 1) := by decide +kernel
theorem dX13_bitsOf_6 : decode cX13_bitsOf 6 = .ok (.getfield 84, 3) := by decide +kernel
theorem dX13_bitsOf_9 : decode cX13_bitsOf 9 = .ok (.iconst 1, 1) := by decide +kernel
theorem dX13_bitsOf_10 : decode cX13_bitsOf 10 = .ok (.isub, 1) := by decide +kernel
theorem dX13_bitsOf_11 : decode cX13_bitsOf 11 = .ok (.istore 5, 2) := by decide +kernel
theorem dX13_bitsOf_13 : decode cX13_bitsOf 13 = .ok (.iload 5, 2) := by decide +kernel
theorem dX13_bitsOf_15 : decode cX13_bitsOf 15 = .ok (.ifCond .lt 40, 3) := by decide +kernel
theorem dX13_bitsOf_18 : decode cX13_bitsOf 18 = .ok (.iload_n 3, 1) := by decide +kernel
theorem dX13_bitsOf_19 : decode cX13_bitsOf 19 = .ok (.iload 4, 2) := by decide +kernel
theorem dX13_bitsOf_21 : decode cX13_bitsOf 21 = .ok (.aload_n 0, 1) := by decide +kernel
theorem dX13_bitsOf_22 : decode cX13_bitsOf 22 = .ok (.getfield 70, 3) := by decide +kernel
theorem dX13_bitsOf_25 : decode cX13_bitsOf 25 = .ok (.irem, 1) := by decide +kernel
theorem dX13_bitsOf_26 : decode cX13_bitsOf 26 = .ok (.iload_n 2, 1) := by decide +kernel
theorem dX13_bitsOf_27 : decode cX13_bitsOf 27 = .ok (.if_icmp .ne 10, 3) := by decide +kernel
theorem dX13_bitsOf_37 : decode cX13_bitsOf 37 = .ok (.iconst 0, 1) := by decide +kernel
theorem dX13_bitsOf_38 : decode cX13_bitsOf 38 = .ok (.ior, 1) := by decide +kernel
theorem dX13_bitsOf_39 : decode cX13_bitsOf 39 = .ok (.istore_n 3, 1) := by decide +kernel
theorem dX13_bitsOf_40 : decode cX13_bitsOf 40 = .ok (.iload 4, 2) := by decide +kernel
theorem dX13_bitsOf_42 : decode cX13_bitsOf 42 = .ok (.aload_n 0, 1) := by decide +kernel
theorem dX13_bitsOf_43 : decode cX13_bitsOf 43 = .ok (.getfield 70, 3) := by decide +kernel
theorem dX13_bitsOf_46 : decode cX13_bitsOf 46 = .ok (.idiv, 1) := by decide +kernel
theorem dX13_bitsOf_47 : decode cX13_bitsOf 47 = .ok (.istore 4, 2) := by decide +kernel
theorem dX13_bitsOf_49 : decode cX13_bitsOf 49 = .ok (.iinc 5 (-1), 3) := by decide +kernel
theorem dX13_bitsOf_52 : decode cX13_bitsOf 52 = .ok (.goto (-39), 3) := by decide +kernel
theorem dX13_bitsOf_30 : decode cX13_bitsOf 30 = .ok (.iconst 1, 1) := by decide +kernel
theorem dX13_bitsOf_31 : decode cX13_bitsOf 31 = .ok (.iload 5, 2) := by decide +kernel
theorem dX13_bitsOf_33 : decode cX13_bitsOf 33 = .ok (.ishl, 1) := by decide +kernel
theorem dX13_bitsOf_34 : decode cX13_bitsOf 34 = .ok (.goto 4, 3) := by decide +kernel
theorem dX13_bitsOf_55 : decode cX13_bitsOf 55 = .ok (.iload_n 3, 1) := by decide +kernel
theorem dX13_bitsOf_56 : decode cX13_bitsOf 56 = .ok (.ireturn, 1) := by decide +kernel
theorem dX13_sumOf_0 : decode cX13_sumOf 0 = .ok (.lconst 0, 1) := by decide +kernel
theorem dX13_sumOf_1 : decode cX13_sumOf 1 = .ok (.lstore_n 2, 1) := by decide +kernel
theorem dX13_sumOf_2 : decode cX13_sumOf 2 = .ok (.iconst 0, 1) := by decide +kernel
theorem dX13_sumOf_3 : decode cX13_sumOf 3 = .ok (.istore 4, 2) := by decide +kernel
theorem dX13_sumOf_5 : decode cX13_sumOf 5 = .ok (.iload 4, 2) := by decide +kernel
theorem dX13_sumOf_7 : decode cX13_sumOf 7 = .ok (.aload_n 0, 1) := by decide +kernel
theorem dX13_sumOf_8 : decode cX13_sumOf 8 = .ok (.getfield 70, 3) := by decide +kernel
theorem dX13_sumOf_11 : decode cX13_sumOf 11 = .ok (.if_icmp .ge 30, 3) := by decide +kernel
theorem dX13_sumOf_14 : decode cX13_sumOf 14 = .ok (.lload_n 2, 1) := by decide +kernel
theorem dX13_sumOf_15 : decode cX13_sumOf 15 = .ok (.aload_n 0, 1) := by decide +kernel
theorem dX13_sumOf_16 : decode cX13_sumOf 16 = .ok (.getfield 47, 3) := by decide +kernel
theorem dX13_sumOf_19 : decode cX13_sumOf 19 = .ok (.bipush 64, 2) := by decide +kernel
theorem dX13_sumOf_21 : decode cX13_sumOf 21 = .ok (.iload 4, 2) := by decide +kernel
theorem dX13_sumOf_23 : decode cX13_sumOf 23 = .ok (.imul, 1) := by decide +kernel
theorem dX13_sumOf_24 : decode cX13_sumOf 24 = .ok (.aload_n 0, 1) := by decide +kernel
theorem dX13_sumOf_25 : decode cX13_sumOf 25 = .ok (.iload_n 1, 1) := by decide +kernel
theorem dX13_sumOf_26 : decode cX13_sumOf 26 = .ok (.iload 4, 2) := by decide +kernel
theorem dX13_sumOf_28 : decode cX13_sumOf 28 = .ok (.invokevirtual 118, 3) := by decide +kernel
theorem dX13_sumOf_31 : decode cX13_sumOf 31 = .ok (.iadd, 1) := by decide +kernel
theorem dX13_sumOf_32 : decode cX13_sumOf 32 = .ok (.laload, 1) := by decide +kernel
theorem dX13_sumOf_33 : decode cX13_sumOf 33 = .ok (.ladd, 1) := by decide +kernel
theorem dX13_sumOf_34 : decode cX13_sumOf 34 = .ok (.lstore_n 2, 1) := by decide +kernel
theorem dX13_sumOf_35 : decode cX13_sumOf 35 = .ok (.iinc 4 1, 3) := by decide +kernel
theorem dX13_sumOf_38 : decode cX13_sumOf 38 = .ok (.goto (-33), 3) := by decide +kernel
theorem dX13_sumOf_41 : decode cX13_sumOf 41 = .ok (.lload_n 2, 1) := by decide +kernel
theorem dX13_sumOf_42 : decode cX13_sumOf 42 = .ok (.lreturn, 1) := by decide +kernel
theorem dX13_tell_0 : decode cX13_tell 0 = .ok (.aload_n 0, 1) := by decide +kernel
theorem dX13_tell_1 : decode cX13_tell 1 = .ok (.iload_n 1, 1) := by decide +kernel
theorem dX13_tell_2 : decode cX13_tell 2 = .ok (.invokevirtual 91, 3) := by decide +kernel
theorem dX13_tell_5 : decode cX13_tell 5 = .ok (.istore_n 3, 1) := by decide +kernel
theorem dX13_tell_6 : decode cX13_tell 6 = .ok (.aload_n 0, 1) := by decide +kernel
theorem dX13_tell_7 : decode cX13_tell 7 = .ok (.getfield 13, 3) := by decide +kernel
theorem dX13_tell_10 : decode cX13_tell 10 = .ok (.iload_n 1, 1) := by decide +kernel
theorem dX13_tell_11 : decode cX13_tell 11 = .ok (.iaload, 1) := by decide +kernel
theorem dX13_tell_12 : decode cX13_tell 12 = .ok (.istore 4, 2) := by decide +kernel
theorem dX13_tell_14 : decode cX13_tell 14 = .ok (.iconst 0, 1) := by decide +kernel
theorem dX13_tell_15 : decode cX13_tell 15 = .ok (.istore 5, 2) := by decide +kernel
theorem dX13_tell_17 : decode cX13_tell 17 = .ok (.iconst 0, 1) := by decide +kernel
theorem dX13_tell_18 : decode cX13_tell 18 = .ok (.istore 6, 2) := by decide +kernel
theorem dX13_tell_20 : decode cX13_tell 20 = .ok (.iload 6, 2) := by decide +kernel
theorem dX13_tell_22 : decode cX13_tell 22 = .ok (.bipush 6, 2) := by decide +kernel
theorem dX13_tell_24 : decode cX13_tell 24 = .ok (.if_icmp .ge 20, 3) := by decide +kernel
theorem dX13_tell_27 : decode cX13_tell 27 = .ok (.iload 5, 2) := by decide +kernel
theorem dX13_tell_29 : decode cX13_tell 29 = .ok (.iload_n 2, 1) := by decide +kernel
theorem dX13_tell_30 : decode cX13_tell 30 = .ok (.iload 6, 2) := by decide +kernel
theorem dX13_tell_32 : decode cX13_tell 32 = .ok (.ishr, 1) := by decide +kernel
theorem dX13_tell_33 : decode cX13_tell 33 = .ok (.iconst 1, 1) := by decide +kernel
theorem dX13_tell_34 : decode cX13_tell 34 = .ok (.iand, 1) := by decide +kernel
theorem dX13_tell_35 : decode cX13_tell 35 = .ok (.iadd, 1) := by decide +kernel
theorem dX13_tell_36 : decode cX13_tell 36 = .ok (.istore 5, 2) := by decide +kernel
theorem dX13_tell_38 : decode cX13_tell 38 = .ok (.iinc 6 1, 3) := by decide +kernel
theorem dX13_tell_41 : decode cX13_tell 41 = .ok (.goto (-21), 3) := by decide +kernel
theorem dX13_tell_44 : decode cX13_tell 44 = .ok (.iconst 0, 1) := by decide +kernel
theorem dX13_tell_45 : decode cX13_tell 45 = .ok (.istore 6, 2) := by decide +kernel
theorem dX13_tell_47 : decode cX13_tell 47 = .ok (.iload 6, 2) := by decide +kernel
theorem dX13_tell_49 : decode cX13_tell 49 = .ok (.iload 5, 2) := by decide +kernel
theorem dX13_tell_51 : decode cX13_tell 51 = .ok (.if_icmp .ge 123, 3) := by decide +kernel
theorem dX13_tell_54 : decode cX13_tell 54 = .ok (.aload_n 0, 1) := by decide +kernel
theorem dX13_tell_55 : decode cX13_tell 55 = .ok (.getfield 51, 3) := by decide +kernel
theorem dX13_tell_58 : decode cX13_tell 58 = .ok (.bipush 6, 2) := by decide +kernel
theorem dX13_tell_60 : decode cX13_tell 60 = .ok (.bipush 64, 2) := by decide +kernel
theorem dX13_tell_62 : decode cX13_tell 62 = .ok (.iload_n 1, 1) := by decide +kernel
theorem dX13_tell_63 : decode cX13_tell 63 = .ok (.imul, 1) := by decide +kernel
theorem dX13_tell_64 : decode cX13_tell 64 = .ok (.iload_n 2, 1) := by decide +kernel
theorem dX13_tell_65 : decode cX13_tell 65 = .ok (.iadd, 1) := by decide +kernel
theorem dX13_tell_66 : decode cX13_tell 66 = .ok (.imul, 1) := by decide +kernel
theorem dX13_tell_67 : decode cX13_tell 67 = .ok (.iload 6, 2) := by decide +kernel
theorem dX13_tell_69 : decode cX13_tell 69 = .ok (.iadd, 1) := by decide +kernel
theorem dX13_tell_70 : decode cX13_tell 70 = .ok (.iaload, 1) := by decide +kernel
theorem dX13_tell_71 : decode cX13_tell 71 = .ok (.istore 7, 2) := by decide +kernel
theorem dX13_tell_73 : decode cX13_tell 73 = .ok (.aload_n 0, 1) := by decide +kernel
theorem dX13_tell_74 : decode cX13_tell 74 = .ok (.getfield 54, 3) := by decide +kernel
theorem dX13_tell_77 : decode cX13_tell 77 = .ok (.iload 7, 2) := by decide +kernel
theorem dX13_tell_79 : decode cX13_tell 79 = .ok (.iload_n 1, 1) := by decide +kernel
theorem dX13_tell_80 : decode cX13_tell 80 = .ok (.iastore, 1) := by decide +kernel
theorem dX13_tell_81 : decode cX13_tell 81 = .ok (.aload_n 0, 1) := by decide +kernel
theorem dX13_tell_82 : decode cX13_tell 82 = .ok (.getfield 63, 3) := by decide +kernel
theorem dX13_tell_85 : decode cX13_tell 85 = .ok (.iload 7, 2) := by decide +kernel
theorem dX13_tell_87 : decode cX13_tell 87 = .ok (.iload 6, 2) := by decide +kernel
theorem dX13_tell_89 : decode cX13_tell 89 = .ok (.iastore, 1) := by decide +kernel
theorem dX13_tell_90 : decode cX13_tell 90 = .ok (.aload_n 0, 1) := by decide +kernel
theorem dX13_tell_91 : decode cX13_tell 91 = .ok (.getfield 57, 3) := by decide +kernel
theorem dX13_tell_94 : decode cX13_tell 94 = .ok (.iload 7, 2) := by decide +kernel
theorem dX13_tell_96 : decode cX13_tell 96 = .ok (.iload_n 3, 1) := by decide +kernel
theorem dX13_tell_97 : decode cX13_tell 97 = .ok (.aload_n 0, 1) := by decide +kernel
theorem dX13_tell_98 : decode cX13_tell 98 = .ok (.iload_n 1, 1) := by decide +kernel
theorem dX13_tell_99 : decode cX13_tell 99 = .ok (.iload 4, 2) := by decide +kernel
theorem dX13_tell_101 : decode cX13_tell 101 = .ok (.aload_n 0, 1) := by decide +kernel
theorem dX13_tell_102 : decode cX13_tell 102 = .ok (.getfield 25, 3) := by decide +kernel
theorem dX13_tell_105 : decode cX13_tell 105 = .ok (.iload 7, 2) := by decide +kernel
theorem dX13_tell_107 : decode cX13_tell 107 = .ok (.iaload, 1) := by decide +kernel
theorem dX13_tell_108 : decode cX13_tell 108 = .ok (.invokevirtual 97, 3) := by decide +kernel
theorem dX13_tell_111 : decode cX13_tell 111 = .ok (.iadd, 1) := by decide +kernel
theorem dX13_tell_112 : decode cX13_tell 112 = .ok (.iastore, 1) := by decide +kernel
theorem dX13_tell_113 : decode cX13_tell 113 = .ok (.aload_n 0, 1) := by decide +kernel
theorem dX13_tell_114 : decode cX13_tell 114 = .ok (.getfield 60, 3) := by decide +kernel
theorem dX13_tell_117 : decode cX13_tell 117 = .ok (.iload 7, 2) := by decide +kernel
theorem dX13_tell_119 : decode cX13_tell 119 = .ok (.aload_n 0, 1) := by decide +kernel
theorem dX13_tell_120 : decode cX13_tell 120 = .ok (.getfield 57, 3) := by decide +kernel
theorem dX13_tell_123 : decode cX13_tell 123 = .ok (.iload 7, 2) := by decide +kernel
theorem dX13_tell_125 : decode cX13_tell 125 = .ok (.iaload, 1) := by decide +kernel
theorem dX13_tell_126 : decode cX13_tell 126 = .ok (.iconst 3, 1) := by decide +kernel
theorem dX13_tell_127 : decode cX13_tell 127 = .ok (.iadd, 1) := by decide +kernel
theorem dX13_tell_128 : decode cX13_tell 128 = .ok (.aload_n 0, 1) := by decide +kernel
theorem dX13_tell_129 : decode cX13_tell 129 = .ok (.iload_n 1, 1) := by decide +kernel
theorem dX13_tell_130 : decode cX13_tell 130 = .ok (.aload_n 0, 1) := by decide +kernel
theorem dX13_tell_131 : decode cX13_tell 131 = .ok (.getfield 25, 3) := by decide +kernel
theorem dX13_tell_134 : decode cX13_tell 134 = .ok (.iload 7, 2) := by decide +kernel
theorem dX13_tell_136 : decode cX13_tell 136 = .ok (.iaload, 1) := by decide +kernel
theorem dX13_tell_137 : decode cX13_tell 137 = .ok (.aload_n 0, 1) := by decide +kernel
theorem dX13_tell_138 : decode cX13_tell 138 = .ok (.getfield 28, 3) := by decide +kernel
theorem dX13_tell_141 : decode cX13_tell 141 = .ok (.iload 7, 2) := by decide +kernel
theorem dX13_tell_143 : decode cX13_tell 143 = .ok (.iaload, 1) := by decide +kernel
theorem dX13_tell_144 : decode cX13_tell 144 = .ok (.invokevirtual 97, 3) := by decide +kernel
theorem dX13_tell_147 : decode cX13_tell 147 = .ok (.iadd, 1) := by decide +kernel
theorem dX13_tell_148 : decode cX13_tell 148 = .ok (.iastore, 1) := by decide +kernel
theorem dX13_tell_149 : decode cX13_tell 149 = .ok (.aload_n 0, 1) := by decide +kernel
theorem dX13_tell_150 : decode cX13_tell 150 = .ok (.getfield 60, 3) := by decide +kernel
theorem dX13_tell_153 : decode cX13_tell 153 = .ok (.iload 7, 2) := by decide +kernel
theorem dX13_tell_155 : decode cX13_tell 155 = .ok (.iaload, 1) := by decide +kernel
theorem dX13_tell_156 : decode cX13_tell 156 = .ok (.iconst 3, 1) := by decide +kernel
theorem dX13_tell_157 : decode cX13_tell 157 = .ok (.iadd, 1) := by decide +kernel
theorem dX13_tell_158 : decode cX13_tell 158 = .ok (.istore_n 3, 1) := by decide +kernel
theorem dX13_tell_159 : decode cX13_tell 159 = .ok (.aload_n 0, 1) := by decide +kernel
theorem dX13_tell_160 : decode cX13_tell 160 = .ok (.getfield 28, 3) := by decide +kernel
theorem dX13_tell_163 : decode cX13_tell 163 = .ok (.iload 7, 2) := by decide +kernel
theorem dX13_tell_165 : decode cX13_tell 165 = .ok (.iaload, 1) := by decide +kernel
theorem dX13_tell_166 : decode cX13_tell 166 = .ok (.istore 4, 2) := by decide +kernel
theorem dX13_tell_168 : decode cX13_tell 168 = .ok (.iinc 6 1, 3) := by decide +kernel
theorem dX13_tell_171 : decode cX13_tell 171 = .ok (.goto (-124), 3) := by decide +kernel
theorem dX13_tell_174 : decode cX13_tell 174 = .ok (.return_, 1) := by decide +kernel
theorem dX13_give_0 : decode cX13_give 0 = .ok (.aload_n 0, 1) := by decide +kernel
theorem dX13_give_1 : decode cX13_give 1 = .ok (.invokevirtual 122, 3) := by decide +kernel
theorem dX13_give_4 : decode cX13_give 4 = .ok (.iconst 1, 1) := by decide +kernel
theorem dX13_give_5 : decode cX13_give 5 = .ok (.istore_n 1, 1) := by decide +kernel
theorem dX13_give_6 : decode cX13_give 6 = .ok (.iconst 0, 1) := by decide +kernel
theorem dX13_give_7 : decode cX13_give 7 = .ok (.istore_n 2, 1) := by decide +kernel
theorem dX13_give_8 : decode cX13_give 8 = .ok (.iload_n 2, 1) := by decide +kernel
theorem dX13_give_9 : decode cX13_give 9 = .ok (.aload_n 0, 1) := by decide +kernel
theorem dX13_give_10 : decode cX13_give 10 = .ok (.getfield 84, 3) := by decide +kernel
theorem dX13_give_13 : decode cX13_give 13 = .ok (.if_icmp .ge 16, 3) := by decide +kernel
theorem dX13_give_16 : decode cX13_give 16 = .ok (.iload_n 1, 1) := by decide +kernel
theorem dX13_give_17 : decode cX13_give 17 = .ok (.aload_n 0, 1) := by decide +kernel
theorem dX13_give_18 : decode cX13_give 18 = .ok (.getfield 70, 3) := by decide +kernel
theorem dX13_give_21 : decode cX13_give 21 = .ok (.imul, 1) := by decide +kernel
theorem dX13_give_22 : decode cX13_give 22 = .ok (.istore_n 1, 1) := by decide +kernel
theorem dX13_give_23 : decode cX13_give 23 = .ok (.iinc 2 1, 3) := by decide +kernel
theorem dX13_give_26 : decode cX13_give 26 = .ok (.goto (-18), 3) := by decide +kernel
theorem dX13_give_29 : decode cX13_give 29 = .ok (.iconst 0, 1) := by decide +kernel
theorem dX13_give_30 : decode cX13_give 30 = .ok (.istore_n 2, 1) := by decide +kernel
theorem dX13_give_31 : decode cX13_give 31 = .ok (.iload_n 2, 1) := by decide +kernel
theorem dX13_give_32 : decode cX13_give 32 = .ok (.aload_n 0, 1) := by decide +kernel
theorem dX13_give_33 : decode cX13_give 33 = .ok (.getfield 70, 3) := by decide +kernel
theorem dX13_give_36 : decode cX13_give 36 = .ok (.if_icmp .ge 33, 3) := by decide +kernel
theorem dX13_give_39 : decode cX13_give 39 = .ok (.iconst 0, 1) := by decide +kernel
theorem dX13_give_40 : decode cX13_give 40 = .ok (.istore_n 3, 1) := by decide +kernel
theorem dX13_give_41 : decode cX13_give 41 = .ok (.iload_n 3, 1) := by decide +kernel
theorem dX13_give_42 : decode cX13_give 42 = .ok (.iconst 1, 1) := by decide +kernel
theorem dX13_give_43 : decode cX13_give 43 = .ok (.aload_n 0, 1) := by decide +kernel
theorem dX13_give_44 : decode cX13_give 44 = .ok (.getfield 84, 3) := by decide +kernel
theorem dX13_give_47 : decode cX13_give 47 = .ok (.ishl, 1) := by decide +kernel
theorem dX13_give_48 : decode cX13_give 48 = .ok (.if_icmp .ge 15, 3) := by decide +kernel
theorem dX13_give_51 : decode cX13_give 51 = .ok (.aload_n 0, 1) := by decide +kernel
theorem dX13_give_52 : decode cX13_give 52 = .ok (.iload_n 2, 1) := by decide +kernel
theorem dX13_give_53 : decode cX13_give 53 = .ok (.iload_n 3, 1) := by decide +kernel
theorem dX13_give_54 : decode cX13_give 54 = .ok (.invokevirtual 125, 3) := by decide +kernel
theorem dX13_give_57 : decode cX13_give 57 = .ok (.iinc 3 1, 3) := by decide +kernel
theorem dX13_give_60 : decode cX13_give 60 = .ok (.goto (-19), 3) := by decide +kernel
theorem dX13_give_63 : decode cX13_give 63 = .ok (.iinc 2 1, 3) := by decide +kernel
theorem dX13_give_66 : decode cX13_give 66 = .ok (.goto (-35), 3) := by decide +kernel
theorem dX13_give_69 : decode cX13_give 69 = .ok (.ldc2_w 104, 3) := by decide +kernel
theorem dX13_give_72 : decode cX13_give 72 = .ok (.lstore_n 2, 1) := by decide +kernel
theorem dX13_give_73 : decode cX13_give 73 = .ok (.iconst 0, 1) := by decide +kernel
theorem dX13_give_74 : decode cX13_give 74 = .ok (.istore 4, 2) := by decide +kernel
theorem dX13_give_76 : decode cX13_give 76 = .ok (.iconst 0, 1) := by decide +kernel
theorem dX13_give_77 : decode cX13_give 77 = .ok (.istore 5, 2) := by decide +kernel
theorem dX13_give_79 : decode cX13_give 79 = .ok (.iload 5, 2) := by decide +kernel
theorem dX13_give_81 : decode cX13_give 81 = .ok (.iload_n 1, 1) := by decide +kernel
theorem dX13_give_82 : decode cX13_give 82 = .ok (.if_icmp .ge 47, 3) := by decide +kernel
theorem dX13_give_85 : decode cX13_give 85 = .ok (.aload_n 0, 1) := by decide +kernel
theorem dX13_give_86 : decode cX13_give 86 = .ok (.iload 5, 2) := by decide +kernel
theorem dX13_give_88 : decode cX13_give 88 = .ok (.invokevirtual 129, 3) := by decide +kernel
theorem dX13_give_91 : decode cX13_give 91 = .ok (.lstore 6, 2) := by decide +kernel
theorem dX13_give_93 : decode cX13_give 93 = .ok (.lload 6, 2) := by decide +kernel
theorem dX13_give_95 : decode cX13_give 95 = .ok (.lload_n 2, 1) := by decide +kernel
theorem dX13_give_96 : decode cX13_give 96 = .ok (.lcmp, 1) := by decide +kernel
theorem dX13_give_97 : decode cX13_give 97 = .ok (.ifCond .ge 8, 3) := by decide +kernel
theorem dX13_give_105 : decode cX13_give 105 = .ok (.iload 4, 2) := by decide +kernel
theorem dX13_give_107 : decode cX13_give 107 = .ok (.istore 4, 2) := by decide +kernel
theorem dX13_give_109 : decode cX13_give 109 = .ok (.lload 6, 2) := by decide +kernel
theorem dX13_give_111 : decode cX13_give 111 = .ok (.lload_n 2, 1) := by decide +kernel
theorem dX13_give_112 : decode cX13_give 112 = .ok (.lcmp, 1) := by decide +kernel
theorem dX13_give_113 : decode cX13_give 113 = .ok (.ifCond .ge 8, 3) := by decide +kernel
theorem dX13_give_121 : decode cX13_give 121 = .ok (.lload_n 2, 1) := by decide +kernel
theorem dX13_give_122 : decode cX13_give 122 = .ok (.lstore_n 2, 1) := by decide +kernel
theorem dX13_give_123 : decode cX13_give 123 = .ok (.iinc 5 1, 3) := by decide +kernel
theorem dX13_give_126 : decode cX13_give 126 = .ok (.goto (-47), 3) := by decide +kernel
theorem dX13_give_116 : decode cX13_give 116 = .ok (.lload 6, 2) := by decide +kernel
theorem dX13_give_118 : decode cX13_give 118 = .ok (.goto 4, 3) := by decide +kernel
theorem dX13_give_100 : decode cX13_give 100 = .ok (.iload 5, 2) := by decide +kernel
theorem dX13_give_102 : decode cX13_give 102 = .ok (.goto 5, 3) := by decide +kernel
theorem dX13_give_129 : decode cX13_give 129 = .ok (.iconst 0, 1) := by decide +kernel
theorem dX13_give_130 : decode cX13_give 130 = .ok (.istore 5, 2) := by decide +kernel
theorem dX13_give_132 : decode cX13_give 132 = .ok (.iload 5, 2) := by decide +kernel
theorem dX13_give_134 : decode cX13_give 134 = .ok (.aload_n 0, 1) := by decide +kernel
theorem dX13_give_135 : decode cX13_give 135 = .ok (.getfield 66, 3) := by decide +kernel
theorem dX13_give_138 : decode cX13_give 138 = .ok (.if_icmp .ge 17, 3) := by decide +kernel
theorem dX13_give_141 : decode cX13_give 141 = .ok (.aload_n 0, 1) := by decide +kernel
theorem dX13_give_142 : decode cX13_give 142 = .ok (.getfield 54, 3) := by decide +kernel
theorem dX13_give_145 : decode cX13_give 145 = .ok (.iload 5, 2) := by decide +kernel
theorem dX13_give_147 : decode cX13_give 147 = .ok (.iconst (-1), 1) := by decide +kernel
theorem dX13_give_148 : decode cX13_give 148 = .ok (.iastore, 1) := by decide +kernel
theorem dX13_give_149 : decode cX13_give 149 = .ok (.iinc 5 1, 3) := by decide +kernel
theorem dX13_give_152 : decode cX13_give 152 = .ok (.goto (-20), 3) := by decide +kernel
theorem dX13_give_155 : decode cX13_give 155 = .ok (.iconst 0, 1) := by decide +kernel
theorem dX13_give_156 : decode cX13_give 156 = .ok (.istore 5, 2) := by decide +kernel
theorem dX13_give_158 : decode cX13_give 158 = .ok (.iload 5, 2) := by decide +kernel
theorem dX13_give_160 : decode cX13_give 160 = .ok (.aload_n 0, 1) := by decide +kernel
theorem dX13_give_161 : decode cX13_give 161 = .ok (.getfield 70, 3) := by decide +kernel
theorem dX13_give_164 : decode cX13_give 164 = .ok (.if_icmp .ge 23, 3) := by decide +kernel
theorem dX13_give_167 : decode cX13_give 167 = .ok (.aload_n 0, 1) := by decide +kernel
theorem dX13_give_168 : decode cX13_give 168 = .ok (.iload 5, 2) := by decide +kernel
theorem dX13_give_170 : decode cX13_give 170 = .ok (.aload_n 0, 1) := by decide +kernel
theorem dX13_give_171 : decode cX13_give 171 = .ok (.iload 4, 2) := by decide +kernel
theorem dX13_give_173 : decode cX13_give 173 = .ok (.iload 5, 2) := by decide +kernel
theorem dX13_give_175 : decode cX13_give 175 = .ok (.invokevirtual 118, 3) := by decide +kernel
theorem dX13_give_178 : decode cX13_give 178 = .ok (.invokevirtual 132, 3) := by decide +kernel
theorem dX13_give_181 : decode cX13_give 181 = .ok (.iinc 5 1, 3) := by decide +kernel
theorem dX13_give_184 : decode cX13_give 184 = .ok (.goto (-26), 3) := by decide +kernel
theorem dX13_give_187 : decode cX13_give 187 = .ok (.lload_n 2, 1) := by decide +kernel
theorem dX13_give_188 : decode cX13_give 188 = .ok (.lreturn, 1) := by decide +kernel
theorem dX13_given_0 : decode cX13_given 0 = .ok (.aload_n 0, 1) := by decide +kernel
theorem dX13_given_1 : decode cX13_given 1 = .ok (.getfield 54, 3) := by decide +kernel
theorem dX13_given_4 : decode cX13_given 4 = .ok (.iload_n 1, 1) := by decide +kernel
theorem dX13_given_5 : decode cX13_given 5 = .ok (.iaload, 1) := by decide +kernel
theorem dX13_given_6 : decode cX13_given 6 = .ok (.ifCond .ge 7, 3) := by decide +kernel
theorem dX13_given_13 : decode cX13_given 13 = .ok (.iload_n 2, 1) := by decide +kernel
theorem dX13_given_14 : decode cX13_given 14 = .ok (.ifCond .ne 12, 3) := by decide +kernel
theorem dX13_given_26 : decode cX13_given 26 = .ok (.iload_n 2, 1) := by decide +kernel
theorem dX13_given_27 : decode cX13_given 27 = .ok (.iconst 1, 1) := by decide +kernel
theorem dX13_given_28 : decode cX13_given 28 = .ok (.if_icmp .ne 12, 3) := by decide +kernel
theorem dX13_given_40 : decode cX13_given 40 = .ok (.iload_n 2, 1) := by decide +kernel
theorem dX13_given_41 : decode cX13_given 41 = .ok (.iconst 2, 1) := by decide +kernel
theorem dX13_given_42 : decode cX13_given 42 = .ok (.if_icmp .ne 12, 3) := by decide +kernel
theorem dX13_given_54 : decode cX13_given 54 = .ok (.aload_n 0, 1) := by decide +kernel
theorem dX13_given_55 : decode cX13_given 55 = .ok (.getfield 63, 3) := by decide +kernel
theorem dX13_given_58 : decode cX13_given 58 = .ok (.iload_n 1, 1) := by decide +kernel
theorem dX13_given_59 : decode cX13_given 59 = .ok (.iaload, 1) := by decide +kernel
theorem dX13_given_60 : decode cX13_given 60 = .ok (.ireturn, 1) := by decide +kernel
theorem dX13_given_45 : decode cX13_given 45 = .ok (.aload_n 0, 1) := by decide +kernel
theorem dX13_given_46 : decode cX13_given 46 = .ok (.getfield 60, 3) := by decide +kernel
theorem dX13_given_49 : decode cX13_given 49 = .ok (.iload_n 1, 1) := by decide +kernel
theorem dX13_given_50 : decode cX13_given 50 = .ok (.iaload, 1) := by decide +kernel
theorem dX13_given_51 : decode cX13_given 51 = .ok (.goto 9, 3) := by decide +kernel
theorem dX13_given_31 : decode cX13_given 31 = .ok (.aload_n 0, 1) := by decide +kernel
theorem dX13_given_32 : decode cX13_given 32 = .ok (.getfield 57, 3) := by decide +kernel
theorem dX13_given_35 : decode cX13_given 35 = .ok (.iload_n 1, 1) := by decide +kernel
theorem dX13_given_36 : decode cX13_given 36 = .ok (.iaload, 1) := by decide +kernel
theorem dX13_given_37 : decode cX13_given 37 = .ok (.goto 23, 3) := by decide +kernel
theorem dX13_given_17 : decode cX13_given 17 = .ok (.aload_n 0, 1) := by decide +kernel
theorem dX13_given_18 : decode cX13_given 18 = .ok (.getfield 54, 3) := by decide +kernel
theorem dX13_given_21 : decode cX13_given 21 = .ok (.iload_n 1, 1) := by decide +kernel
theorem dX13_given_22 : decode cX13_given 22 = .ok (.iaload, 1) := by decide +kernel
theorem dX13_given_23 : decode cX13_given 23 = .ok (.goto 37, 3) := by decide +kernel
theorem dX13_given_9 : decode cX13_given 9 = .ok (.iconst (-1), 1) := by decide +kernel
theorem dX13_given_10 : decode cX13_given 10 = .ok (.goto 50, 3) := by decide +kernel
theorem dX14_init_0 : decode cX14_init 0 = .ok (.aload_n 0, 1) := by decide +kernel
theorem dX14_init_1 : decode cX14_init 1 = .ok (.invokespecial 1, 3) := by decide +kernel
theorem dX14_init_4 : decode cX14_init 4 = .ok (.aload_n 0, 1) := by decide +kernel
theorem dX14_init_5 : decode cX14_init 5 = .ok (.bipush 50, 2) := by decide +kernel
theorem dX14_init_7 : decode cX14_init 7 = .ok (.newarray .int, 2) := by decide +kernel
theorem dX14_init_9 : decode cX14_init 9 = .ok (.putfield 7, 3) := by decide +kernel
theorem dX14_init_12 : decode cX14_init 12 = .ok (.aload_n 0, 1) := by decide +kernel
theorem dX14_init_13 : decode cX14_init 13 = .ok (.bipush 50, 2) := by decide +kernel
theorem dX14_init_15 : decode cX14_init 15 = .ok (.newarray .boolean, 2) := by decide +kernel
theorem dX14_init_17 : decode cX14_init 17 = .ok (.putfield 13, 3) := by decide +kernel
theorem dX14_init_20 : decode cX14_init 20 = .ok (.aload_n 0, 1) := by decide +kernel
theorem dX14_init_21 : decode cX14_init 21 = .ok (.bipush 50, 2) := by decide +kernel
theorem dX14_init_23 : decode cX14_init 23 = .ok (.newarray .int, 2) := by decide +kernel
theorem dX14_init_25 : decode cX14_init 25 = .ok (.putfield 17, 3) := by decide +kernel
theorem dX14_init_28 : decode cX14_init 28 = .ok (.aload_n 0, 1) := by decide +kernel
theorem dX14_init_29 : decode cX14_init 29 = .ok (.sipush 2000, 3) := by decide +kernel
theorem dX14_init_32 : decode cX14_init 32 = .ok (.newarray .int, 2) := by decide +kernel
theorem dX14_init_34 : decode cX14_init 34 = .ok (.putfield 20, 3) := by decide +kernel
theorem dX14_init_37 : decode cX14_init 37 = .ok (.aload_n 0, 1) := by decide +kernel
theorem dX14_init_38 : decode cX14_init 38 = .ok (.sipush 2000, 3) := by decide +kernel
theorem dX14_init_41 : decode cX14_init 41 = .ok (.newarray .int, 2) := by decide +kernel
theorem dX14_init_43 : decode cX14_init 43 = .ok (.putfield 23, 3) := by decide +kernel
theorem dX14_init_46 : decode cX14_init 46 = .ok (.aload_n 0, 1) := by decide +kernel
theorem dX14_init_47 : decode cX14_init 47 = .ok (.sipush 2000, 3) := by decide +kernel
theorem dX14_init_50 : decode cX14_init 50 = .ok (.newarray .int, 2) := by decide +kernel
theorem dX14_init_52 : decode cX14_init 52 = .ok (.putfield 26, 3) := by decide +kernel
theorem dX14_init_55 : decode cX14_init 55 = .ok (.aload_n 0, 1) := by decide +kernel
theorem dX14_init_56 : decode cX14_init 56 = .ok (.bipush 40, 2) := by decide +kernel
theorem dX14_init_58 : decode cX14_init 58 = .ok (.newarray .boolean, 2) := by decide +kernel
theorem dX14_init_60 : decode cX14_init 60 = .ok (.putfield 29, 3) := by decide +kernel
theorem dX14_init_63 : decode cX14_init 63 = .ok (.aload_n 0, 1) := by decide +kernel
theorem dX14_init_64 : decode cX14_init 64 = .ok (.bipush 40, 2) := by decide +kernel
theorem dX14_init_66 : decode cX14_init 66 = .ok (.newarray .int, 2) := by decide +kernel
theorem dX14_init_68 : decode cX14_init 68 = .ok (.putfield 32, 3) := by decide +kernel
theorem dX14_init_71 : decode cX14_init 71 = .ok (.aload_n 0, 1) := by decide +kernel
theorem dX14_init_72 : decode cX14_init 72 = .ok (.bipush 40, 2) := by decide +kernel
theorem dX14_init_74 : decode cX14_init 74 = .ok (.newarray .int, 2) := by decide +kernel
theorem dX14_init_76 : decode cX14_init 76 = .ok (.putfield 35, 3) := by decide +kernel
theorem dX14_init_79 : decode cX14_init 79 = .ok (.aload_n 0, 1) := by decide +kernel
theorem dX14_init_80 : decode cX14_init 80 = .ok (.sipush 480, 3) := by decide +kernel
theorem dX14_init_83 : decode cX14_init 83 = .ok (.newarray .int, 2) := by decide +kernel
theorem dX14_init_85 : decode cX14_init 85 = .ok (.putfield 38, 3) := by decide +kernel
theorem dX14_init_88 : decode cX14_init 88 = .ok (.aload_n 0, 1) := by decide +kernel
theorem dX14_init_89 : decode cX14_init 89 = .ok (.bipush 40, 2) := by decide +kernel
theorem dX14_init_91 : decode cX14_init 91 = .ok (.newarray .boolean, 2) := by decide +kernel
theorem dX14_init_93 : decode cX14_init 93 = .ok (.putfield 41, 3) := by decide +kernel
theorem dX14_init_96 : decode cX14_init 96 = .ok (.aload_n 0, 1) := by decide +kernel
theorem dX14_init_97 : decode cX14_init 97 = .ok (.bipush 40, 2) := by decide +kernel
theorem dX14_init_99 : decode cX14_init 99 = .ok (.newarray .int, 2) := by decide +kernel
theorem dX14_init_101 : decode cX14_init 101 = .ok (.putfield 44, 3) := by decide +kernel
theorem dX14_init_104 : decode cX14_init 104 = .ok (.aload_n 0, 1) := by decide +kernel
theorem dX14_init_105 : decode cX14_init 105 = .ok (.bipush 40, 2) := by decide +kernel
theorem dX14_init_107 : decode cX14_init 107 = .ok (.newarray .int, 2) := by decide +kernel
theorem dX14_init_109 : decode cX14_init 109 = .ok (.putfield 47, 3) := by decide +kernel
theorem dX14_init_112 : decode cX14_init 112 = .ok (.aload_n 0, 1) := by decide +kernel
theorem dX14_init_113 : decode cX14_init 113 = .ok (.bipush 40, 2) := by decide +kernel
theorem dX14_init_115 : decode cX14_init 115 = .ok (.newarray .int, 2) := by decide +kernel
theorem dX14_init_117 : decode cX14_init 117 = .ok (.putfield 50, 3) := by decide +kernel
theorem dX14_init_120 : decode cX14_init 120 = .ok (.aload_n 0, 1) := by decide +kernel
theorem dX14_init_121 : decode cX14_init 121 = .ok (.bipush 40, 2) := by decide +kernel
theorem dX14_init_123 : decode cX14_init 123 = .ok (.newarray .boolean, 2) := by decide +kernel
theorem dX14_init_125 : decode cX14_init 125 = .ok (.putfield 53, 3) := by decide +kernel
theorem dX14_init_128 : decode cX14_init 128 = .ok (.aload_n 0, 1) := by decide +kernel
theorem dX14_init_129 : decode cX14_init 129 = .ok (.bipush 100, 2) := by decide +kernel
theorem dX14_init_131 : decode cX14_init 131 = .ok (.newarray .int, 2) := by decide +kernel
theorem dX14_init_133 : decode cX14_init 133 = .ok (.putfield 56, 3) := by decide +kernel
theorem dX14_init_136 : decode cX14_init 136 = .ok (.aload_n 0, 1) := by decide +kernel
theorem dX14_init_137 : decode cX14_init 137 = .ok (.bipush 100, 2) := by decide +kernel
theorem dX14_init_139 : decode cX14_init 139 = .ok (.newarray .int, 2) := by decide +kernel
theorem dX14_init_141 : decode cX14_init 141 = .ok (.putfield 59, 3) := by decide +kernel
theorem dX14_init_144 : decode cX14_init 144 = .ok (.aload_n 0, 1) := by decide +kernel
theorem dX14_init_145 : decode cX14_init 145 = .ok (.bipush 100, 2) := by decide +kernel
theorem dX14_init_147 : decode cX14_init 147 = .ok (.newarray .int, 2) := by decide +kernel
theorem dX14_init_149 : decode cX14_init 149 = .ok (.putfield 62, 3) := by decide +kernel
theorem dX14_init_152 : decode cX14_init 152 = .ok (.aload_n 0, 1) := by decide +kernel
theorem dX14_init_153 : decode cX14_init 153 = .ok (.bipush 20, 2) := by decide +kernel
theorem dX14_init_155 : decode cX14_init 155 = .ok (.newarray .int, 2) := by decide +kernel
theorem dX14_init_157 : decode cX14_init 157 = .ok (.putfield 65, 3) := by decide +kernel
theorem dX14_init_160 : decode cX14_init 160 = .ok (.aload_n 0, 1) := by decide +kernel
theorem dX14_init_161 : decode cX14_init 161 = .ok (.bipush 20, 2) := by decide +kernel
theorem dX14_init_163 : decode cX14_init 163 = .ok (.newarray .int, 2) := by decide +kernel
theorem dX14_init_165 : decode cX14_init 165 = .ok (.putfield 68, 3) := by decide +kernel
theorem dX14_init_168 : decode cX14_init 168 = .ok (.aload_n 0, 1) := by decide +kernel
theorem dX14_init_169 : decode cX14_init 169 = .ok (.bipush 20, 2) := by decide +kernel
theorem dX14_init_171 : decode cX14_init 171 = .ok (.newarray .boolean, 2) := by decide +kernel
theorem dX14_init_173 : decode cX14_init 173 = .ok (.putfield 71, 3) := by decide +kernel
theorem dX14_init_176 : decode cX14_init 176 = .ok (.aload_n 0, 1) := by decide +kernel
theorem dX14_init_177 : decode cX14_init 177 = .ok (.bipush 20, 2) := by decide +kernel
theorem dX14_init_179 : decode cX14_init 179 = .ok (.newarray .boolean, 2) := by decide +kernel
theorem dX14_init_181 : decode cX14_init 181 = .ok (.putfield 74, 3) := by decide +kernel
theorem dX14_init_184 : decode cX14_init 184 = .ok (.aload_n 0, 1) := by decide +kernel
theorem dX14_init_185 : decode cX14_init 185 = .ok (.bipush 60, 2) := by decide +kernel
theorem dX14_init_187 : decode cX14_init 187 = .ok (.newarray .int, 2) := by decide +kernel
theorem dX14_init_189 : decode cX14_init 189 = .ok (.putfield 77, 3) := by decide +kernel
theorem dX14_init_192 : decode cX14_init 192 = .ok (.aload_n 0, 1) := by decide +kernel
theorem dX14_init_193 : decode cX14_init 193 = .ok (.bipush 60, 2) := by decide +kernel
theorem dX14_init_195 : decode cX14_init 195 = .ok (.newarray .int, 2) := by decide +kernel
theorem dX14_init_197 : decode cX14_init 197 = .ok (.putfield 80, 3) := by decide +kernel
theorem dX14_init_200 : decode cX14_init 200 = .ok (.aload_n 0, 1) := by decide +kernel
theorem dX14_init_201 : decode cX14_init 201 = .ok (.bipush 60, 2) := by decide +kernel
theorem dX14_init_203 : decode cX14_init 203 = .ok (.newarray .int, 2) := by decide +kernel
theorem dX14_init_205 : decode cX14_init 205 = .ok (.putfield 83, 3) := by decide +kernel
theorem dX14_init_208 : decode cX14_init 208 = .ok (.aload_n 0, 1) := by decide +kernel
theorem dX14_init_209 : decode cX14_init 209 = .ok (.sipush 200, 3) := by decide +kernel
theorem dX14_init_212 : decode cX14_init 212 = .ok (.newarray .int, 2) := by decide +kernel
theorem dX14_init_214 : decode cX14_init 214 = .ok (.putfield 86, 3) := by decide +kernel
theorem dX14_init_217 : decode cX14_init 217 = .ok (.return_, 1) := by decide +kernel
theorem zt_12_0 : zm_T zk_E RX12 12 0 .int false := ⟨RX12, TX12, 29, tyX12, rfl, tyX12_ok, nmX12, rfl, rfl, rfl⟩
theorem zl_X12_124 : zm_L zk_E RX12 124 yX12_idle (.code yX12_idle cX12_idle 2 (some .int)) 0 ∧ Cond.instanceMethod yX12_idle ∈ zk_E.2.2.1 ∧ Cond.selects yX12_idle.cls yX12_idle yX12_idle ∈ zk_E.2.2.1 := ⟨⟨zk_b21 156 (by decide +kernel) rfl, zk_b1 18 (by decide +kernel) rfl, zk_b21 153 (by decide +kernel) rfl, by decide +kernel, by decide +kernel, by decide +kernel⟩, zk_b21 155 (by decide +kernel) rfl, zk_s19 (q := (yX12_idle, 29)) 4 (by decide +kernel)⟩
theorem zl_X12_128 : zm_L zk_E RX12 128 yX12_begin (.code yX12_begin cX12_begin 4 none) 2 ∧ Cond.instanceMethod yX12_begin ∈ zk_E.2.2.1 ∧ Cond.selects yX12_begin.cls yX12_begin yX12_begin ∈ zk_E.2.2.1 := ⟨⟨zk_b21 160 (by decide +kernel) rfl, zk_b1 18 (by decide +kernel) rfl, zk_b21 157 (by decide +kernel) rfl, by decide +kernel, by decide +kernel, by decide +kernel⟩, zk_b21 159 (by decide +kernel) rfl, zk_s19 (q := (yX12_begin, 29)) 5 (by decide +kernel)⟩
theorem zl_X12_132 : zm_L zk_E RX12 132 yX12_answers (.code yX12_answers cX12_answers 4 none) 0 ∧ Cond.instanceMethod yX12_answers ∈ zk_E.2.2.1 ∧ Cond.selects yX12_answers.cls yX12_answers yX12_answers ∈ zk_E.2.2.1 := ⟨⟨zk_b21 164 (by decide +kernel) rfl, zk_b1 18 (by decide +kernel) rfl, zk_b21 161 (by decide +kernel) rfl, by decide +kernel, by decide +kernel, by decide +kernel⟩, zk_b21 163 (by decide +kernel) rfl, zk_s19 (q := (yX12_answers, 29)) 6 (by decide +kernel)⟩
theorem zl_X12_135 : zm_L zk_E RX12 135 yX12_sendsOne (.code yX12_sendsOne cX12_sendsOne 3 (some .boolean)) 1 ∧ Cond.instanceMethod yX12_sendsOne ∈ zk_E.2.2.1 ∧ Cond.selects yX12_sendsOne.cls yX12_sendsOne yX12_sendsOne ∈ zk_E.2.2.1 := ⟨⟨zk_b21 168 (by decide +kernel) rfl, zk_b1 18 (by decide +kernel) rfl, zk_b21 165 (by decide +kernel) rfl, by decide +kernel, by decide +kernel, by decide +kernel⟩, zk_b21 167 (by decide +kernel) rfl, zk_s19 (q := (yX12_sendsOne, 29)) 7 (by decide +kernel)⟩
theorem zl_X12_139 : zm_L zk_E RX12 139 yX12_goOn (.code yX12_goOn cX12_goOn 3 none) 1 ∧ Cond.instanceMethod yX12_goOn ∈ zk_E.2.2.1 ∧ Cond.selects yX12_goOn.cls yX12_goOn yX12_goOn ∈ zk_E.2.2.1 := ⟨⟨zk_b21 182 (by decide +kernel) rfl, zk_b1 18 (by decide +kernel) rfl, zk_b21 179 (by decide +kernel) rfl, by decide +kernel, by decide +kernel, by decide +kernel⟩, zk_b21 181 (by decide +kernel) rfl, zk_s19 (q := (yX12_goOn, 29)) 9 (by decide +kernel)⟩
theorem zl_X12_142 : zm_L zk_E RX12 142 yX12_hear (.code yX12_hear cX12_hear 3 none) 0 ∧ Cond.instanceMethod yX12_hear ∈ zk_E.2.2.1 ∧ Cond.selects yX12_hear.cls yX12_hear yX12_hear ∈ zk_E.2.2.1 := ⟨⟨zk_b21 186 (by decide +kernel) rfl, zk_b1 18 (by decide +kernel) rfl, zk_b21 183 (by decide +kernel) rfl, by decide +kernel, by decide +kernel, by decide +kernel⟩, zk_b21 185 (by decide +kernel) rfl, zk_s19 (q := (yX12_hear, 29)) 10 (by decide +kernel)⟩
theorem zl_X12_145 : zm_L zk_E RX12 145 yX12_look (.code yX12_look cX12_look 4 none) 1 ∧ Cond.instanceMethod yX12_look ∈ zk_E.2.2.1 ∧ Cond.selects yX12_look.cls yX12_look yX12_look ∈ zk_E.2.2.1 := ⟨⟨zk_b21 198 (by decide +kernel) rfl, zk_b1 18 (by decide +kernel) rfl, zk_b21 195 (by decide +kernel) rfl, by decide +kernel, by decide +kernel, by decide +kernel⟩, zk_b21 197 (by decide +kernel) rfl, zk_s19 (q := (yX12_look, 29)) 13 (by decide +kernel)⟩
theorem zl_X13_1 : Cond.methodLink RX13 1 Lib.objectInit ∈ zk_E.2.2.1 ∧ Cond.instanceMethod Lib.objectInit ∈ zk_E.2.2.1 ∧ Cond.code Lib.objectInit ⟨#[0xb1]⟩ 1 none ∈ zk_E.2.2.1 := ⟨zk_b15 184 (by decide +kernel) rfl, zk_b1 43 (by decide +kernel) rfl, zk_b1 44 (by decide +kernel) rfl⟩
theorem zl_X13_7 : zm_F zk_E RX13 7 13 1 := ⟨RX13, TX13, 24, rfl, zk_i13, by decide, zk_b15 187 (by decide +kernel) rfl⟩
theorem zt_13_1 : zm_T zk_E RX13 13 1 (.array .int) true := ⟨RX13, TX13, 24, tyX13, rfl, tyX13_ok, nmX13, rfl, rfl, rfl⟩
theorem zl_X13_13 : zm_F zk_E RX13 13 13 2 := ⟨RX13, TX13, 24, rfl, zk_i13, by decide, zk_b15 188 (by decide +kernel) rfl⟩
theorem zt_13_2 : zm_T zk_E RX13 13 2 (.array .int) true := ⟨RX13, TX13, 24, tyX13, rfl, tyX13_ok, nmX13, rfl, rfl, rfl⟩
theorem zl_X13_16 : zm_F zk_E RX13 16 13 3 := ⟨RX13, TX13, 24, rfl, zk_i13, by decide, zk_b15 190 (by decide +kernel) rfl⟩
theorem zt_13_3 : zm_T zk_E RX13 13 3 (.array .int) true := ⟨RX13, TX13, 24, tyX13, rfl, tyX13_ok, nmX13, rfl, rfl, rfl⟩
theorem zl_X13_19 : zm_F zk_E RX13 19 13 4 := ⟨RX13, TX13, 24, rfl, zk_i13, by decide, zk_b15 192 (by decide +kernel) rfl⟩
theorem zt_13_4 : zm_T zk_E RX13 13 4 (.array .int) true := ⟨RX13, TX13, 24, tyX13, rfl, tyX13_ok, nmX13, rfl, rfl, rfl⟩
theorem zl_X13_22 : zm_F zk_E RX13 22 13 5 := ⟨RX13, TX13, 24, rfl, zk_i13, by decide, zk_b15 194 (by decide +kernel) rfl⟩
theorem zt_13_5 : zm_T zk_E RX13 13 5 (.array .int) true := ⟨RX13, TX13, 24, tyX13, rfl, tyX13_ok, nmX13, rfl, rfl, rfl⟩
theorem zl_X13_25 : zm_F zk_E RX13 25 13 7 := ⟨RX13, TX13, 24, rfl, zk_i13, by decide, zk_b15 198 (by decide +kernel) rfl⟩
theorem zt_13_7 : zm_T zk_E RX13 13 7 (.array .int) true := ⟨RX13, TX13, 24, tyX13, rfl, tyX13_ok, nmX13, rfl, rfl, rfl⟩
theorem zl_X13_28 : zm_F zk_E RX13 28 13 8 := ⟨RX13, TX13, 24, rfl, zk_i13, by decide, zk_b15 199 (by decide +kernel) rfl⟩
theorem zt_13_8 : zm_T zk_E RX13 13 8 (.array .int) true := ⟨RX13, TX13, 24, tyX13, rfl, tyX13_ok, nmX13, rfl, rfl, rfl⟩
theorem zl_X13_31 : zm_F zk_E RX13 31 13 9 := ⟨RX13, TX13, 24, rfl, zk_i13, by decide, zk_b15 200 (by decide +kernel) rfl⟩
theorem zt_13_9 : zm_T zk_E RX13 13 9 (.array .int) true := ⟨RX13, TX13, 24, tyX13, rfl, tyX13_ok, nmX13, rfl, rfl, rfl⟩
theorem zl_X13_34 : zm_F zk_E RX13 34 13 10 := ⟨RX13, TX13, 24, rfl, zk_i13, by decide, zk_b15 201 (by decide +kernel) rfl⟩
theorem zt_13_10 : zm_T zk_E RX13 13 10 (.array .boolean) true := ⟨RX13, TX13, 24, tyX13, rfl, tyX13_ok, nmX13, rfl, rfl, rfl⟩
theorem zl_X13_38 : zm_F zk_E RX13 38 13 11 := ⟨RX13, TX13, 24, rfl, zk_i13, by decide, zk_b15 203 (by decide +kernel) rfl⟩
theorem zt_13_11 : zm_T zk_E RX13 13 11 (.array .int) true := ⟨RX13, TX13, 24, tyX13, rfl, tyX13_ok, nmX13, rfl, rfl, rfl⟩
theorem zl_X13_41 : zm_F zk_E RX13 41 13 15 := ⟨RX13, TX13, 24, rfl, zk_i13, by decide, zk_b15 209 (by decide +kernel) rfl⟩
theorem zt_13_15 : zm_T zk_E RX13 13 15 (.array .int) true := ⟨RX13, TX13, 24, tyX13, rfl, tyX13_ok, nmX13, rfl, rfl, rfl⟩
theorem zl_X13_44 : zm_F zk_E RX13 44 13 17 := ⟨RX13, TX13, 24, rfl, zk_i13, by decide, zk_b15 211 (by decide +kernel) rfl⟩
theorem zt_13_17 : zm_T zk_E RX13 13 17 (.array .int) true := ⟨RX13, TX13, 24, tyX13, rfl, tyX13_ok, nmX13, rfl, rfl, rfl⟩
theorem zl_X13_47 : zm_F zk_E RX13 47 13 18 := ⟨RX13, TX13, 24, rfl, zk_i13, by decide, zk_b15 212 (by decide +kernel) rfl⟩
theorem zt_13_18 : zm_T zk_E RX13 13 18 (.array .long) true := ⟨RX13, TX13, 24, tyX13, rfl, tyX13_ok, nmX13, rfl, rfl, rfl⟩
theorem zl_X13_51 : zm_F zk_E RX13 51 13 19 := ⟨RX13, TX13, 24, rfl, zk_i13, by decide, zk_b15 213 (by decide +kernel) rfl⟩
theorem zt_13_19 : zm_T zk_E RX13 13 19 (.array .int) true := ⟨RX13, TX13, 24, tyX13, rfl, tyX13_ok, nmX13, rfl, rfl, rfl⟩
theorem zl_X13_54 : zm_F zk_E RX13 54 13 20 := ⟨RX13, TX13, 24, rfl, zk_i13, by decide, zk_b15 214 (by decide +kernel) rfl⟩
theorem zt_13_20 : zm_T zk_E RX13 13 20 (.array .int) true := ⟨RX13, TX13, 24, tyX13, rfl, tyX13_ok, nmX13, rfl, rfl, rfl⟩
theorem zl_X13_57 : zm_F zk_E RX13 57 13 21 := ⟨RX13, TX13, 24, rfl, zk_i13, by decide, zk_b15 215 (by decide +kernel) rfl⟩
theorem zt_13_21 : zm_T zk_E RX13 13 21 (.array .int) true := ⟨RX13, TX13, 24, tyX13, rfl, tyX13_ok, nmX13, rfl, rfl, rfl⟩
theorem zl_X13_60 : zm_F zk_E RX13 60 13 22 := ⟨RX13, TX13, 24, rfl, zk_i13, by decide, zk_b15 216 (by decide +kernel) rfl⟩
theorem zt_13_22 : zm_T zk_E RX13 13 22 (.array .int) true := ⟨RX13, TX13, 24, tyX13, rfl, tyX13_ok, nmX13, rfl, rfl, rfl⟩
theorem zl_X13_63 : zm_F zk_E RX13 63 13 23 := ⟨RX13, TX13, 24, rfl, zk_i13, by decide, zk_b15 217 (by decide +kernel) rfl⟩
theorem zt_13_23 : zm_T zk_E RX13 13 23 (.array .int) true := ⟨RX13, TX13, 24, tyX13, rfl, tyX13_ok, nmX13, rfl, rfl, rfl⟩
theorem zl_X13_66 : zm_F zk_E RX13 66 13 6 := ⟨RX13, TX13, 24, rfl, zk_i13, by decide, zk_b15 196 (by decide +kernel) rfl⟩
theorem zl_X13_70 : zm_F zk_E RX13 70 13 0 := ⟨RX13, TX13, 24, rfl, zk_i13, by decide, zk_b15 185 (by decide +kernel) rfl⟩
theorem zt_13_0 : zm_T zk_E RX13 13 0 .int false := ⟨RX13, TX13, 24, tyX13, rfl, tyX13_ok, nmX13, rfl, rfl, rfl⟩
theorem zl_X13_73 : zm_F zk_E RX13 73 13 12 := ⟨RX13, TX13, 24, rfl, zk_i13, by decide, zk_b15 204 (by decide +kernel) rfl⟩
theorem zt_13_6 : zm_T zk_E RX13 13 6 .int false := ⟨RX13, TX13, 24, tyX13, rfl, tyX13_ok, nmX13, rfl, rfl, rfl⟩
theorem zl_X13_76 : zm_L zk_E RX13 76 yX13_reaches (.code yX13_reaches cX13_reaches 3 (some .boolean)) 2 ∧ Cond.instanceMethod yX13_reaches ∈ zk_E.2.2.1 ∧ Cond.selects yX13_reaches.cls yX13_reaches yX13_reaches ∈ zk_E.2.2.1 := ⟨⟨zk_b20 235 (by decide +kernel) rfl, zk_b1 19 (by decide +kernel) rfl, zk_b20 232 (by decide +kernel) rfl, by decide +kernel, by decide +kernel, by decide +kernel⟩, zk_b20 234 (by decide +kernel) rfl, zk_s17 (q := (yX13_reaches, 24)) 7 (by decide +kernel)⟩
theorem zl_X13_80 : zm_F zk_E RX13 80 13 13 := ⟨RX13, TX13, 24, rfl, zk_i13, by decide, zk_b15 206 (by decide +kernel) rfl⟩
theorem zl_X13_84 : zm_F zk_E RX13 84 13 14 := ⟨RX13, TX13, 24, rfl, zk_i13, by decide, zk_b15 208 (by decide +kernel) rfl⟩
theorem zt_13_14 : zm_T zk_E RX13 13 14 .int false := ⟨RX13, TX13, 24, tyX13, rfl, tyX13_ok, nmX13, rfl, rfl, rfl⟩
theorem zl_X13_87 : zm_L zk_E RX13 87 yX13_carsOf (.code yX13_carsOf cX13_carsOf 4 (some .int)) 1 ∧ Cond.instanceMethod yX13_carsOf ∈ zk_E.2.2.1 ∧ Cond.selects yX13_carsOf.cls yX13_carsOf yX13_carsOf ∈ zk_E.2.2.1 := ⟨⟨zk_b21 15 (by decide +kernel) rfl, zk_b1 19 (by decide +kernel) rfl, zk_b21 12 (by decide +kernel) rfl, by decide +kernel, by decide +kernel, by decide +kernel⟩, zk_b21 14 (by decide +kernel) rfl, zk_s17 (q := (yX13_carsOf, 24)) 9 (by decide +kernel)⟩
theorem zl_X13_91 : zm_L zk_E RX13 91 yX13_begins (.code yX13_begins cX13_begins 2 (some .int)) 1 ∧ Cond.instanceMethod yX13_begins ∈ zk_E.2.2.1 ∧ Cond.selects yX13_begins.cls yX13_begins yX13_begins ∈ zk_E.2.2.1 := ⟨⟨zk_b21 28 (by decide +kernel) rfl, zk_b1 19 (by decide +kernel) rfl, zk_b21 25 (by decide +kernel) rfl, by decide +kernel, by decide +kernel, by decide +kernel⟩, zk_b21 27 (by decide +kernel) rfl, zk_s17 (q := (yX13_begins, 24)) 12 (by decide +kernel)⟩
theorem zl_X13_94 : zm_F zk_E RX13 94 13 16 := ⟨RX13, TX13, 24, rfl, zk_i13, by decide, zk_b15 210 (by decide +kernel) rfl⟩
theorem zl_X13_97 : zm_L zk_E RX13 97 yX13_way (.code yX13_way cX13_way 4 (some .int)) 3 ∧ Cond.instanceMethod yX13_way ∈ zk_E.2.2.1 ∧ Cond.selects yX13_way.cls yX13_way yX13_way ∈ zk_E.2.2.1 := ⟨⟨zk_b21 32 (by decide +kernel) rfl, zk_b1 19 (by decide +kernel) rfl, zk_b21 29 (by decide +kernel) rfl, by decide +kernel, by decide +kernel, by decide +kernel⟩, zk_b21 31 (by decide +kernel) rfl, zk_s17 (q := (yX13_way, 24)) 13 (by decide +kernel)⟩
theorem zl_X13_101 : zm_L zk_E RX13 101 yX13_weightOf (.code yX13_weightOf cX13_weightOf 2 (some .int)) 1 ∧ Cond.instanceMethod yX13_weightOf ∈ zk_E.2.2.1 ∧ Cond.selects yX13_weightOf.cls yX13_weightOf yX13_weightOf ∈ zk_E.2.2.1 := ⟨⟨zk_b21 36 (by decide +kernel) rfl, zk_b1 19 (by decide +kernel) rfl, zk_b21 33 (by decide +kernel) rfl, by decide +kernel, by decide +kernel, by decide +kernel⟩, zk_b21 35 (by decide +kernel) rfl, zk_s17 (q := (yX13_weightOf, 24)) 14 (by decide +kernel)⟩
theorem zl_X13_104 : Cond.constantLong RX13 104 (1152921504606846976 : Int64) ∈ zk_E.2.2.1 := zk_b21 20 (by decide +kernel) rfl
theorem zt_13_16 : zm_T zk_E RX13 13 16 .int false := ⟨RX13, TX13, 24, tyX13, rfl, tyX13_ok, nmX13, rfl, rfl, rfl⟩
theorem zl_X13_106 : zm_L zk_E RX13 106 yX13_costOf (.code yX13_costOf cX13_costOf 8 (some .long)) 1 ∧ Cond.instanceMethod yX13_costOf ∈ zk_E.2.2.1 ∧ Cond.selects yX13_costOf.cls yX13_costOf yX13_costOf ∈ zk_E.2.2.1 := ⟨⟨zk_b21 24 (by decide +kernel) rfl, zk_b1 19 (by decide +kernel) rfl, zk_b21 21 (by decide +kernel) rfl, by decide +kernel, by decide +kernel, by decide +kernel⟩, zk_b21 23 (by decide +kernel) rfl, zk_s17 (q := (yX13_costOf, 24)) 11 (by decide +kernel)⟩
theorem zl_X13_110 : zm_L zk_E RX13 110 yX13_isRight (.code yX13_isRight cX13_isRight 4 (some .boolean)) 1 ∧ Cond.instanceMethod yX13_isRight ∈ zk_E.2.2.1 ∧ Cond.selects yX13_isRight.cls yX13_isRight yX13_isRight ∈ zk_E.2.2.1 := ⟨⟨zk_b21 40 (by decide +kernel) rfl, zk_b1 19 (by decide +kernel) rfl, zk_b21 37 (by decide +kernel) rfl, by decide +kernel, by decide +kernel, by decide +kernel⟩, zk_b21 39 (by decide +kernel) rfl, zk_s17 (q := (yX13_isRight, 24)) 15 (by decide +kernel)⟩
theorem zl_X13_114 : zm_L zk_E RX13 114 yX13_nextRow (.code yX13_nextRow cX13_nextRow 6 (some .boolean)) 0 ∧ Cond.instanceMethod yX13_nextRow ∈ zk_E.2.2.1 ∧ Cond.selects yX13_nextRow.cls yX13_nextRow yX13_nextRow ∈ zk_E.2.2.1 := ⟨⟨zk_b21 44 (by decide +kernel) rfl, zk_b1 19 (by decide +kernel) rfl, zk_b21 41 (by decide +kernel) rfl, by decide +kernel, by decide +kernel, by decide +kernel⟩, zk_b21 43 (by decide +kernel) rfl, zk_s18 (q := (yX13_nextRow, 24)) 0 (by decide +kernel)⟩
theorem zl_X13_118 : zm_L zk_E RX13 118 yX13_bitsOf (.code yX13_bitsOf cX13_bitsOf 6 (some .int)) 2 ∧ Cond.instanceMethod yX13_bitsOf ∈ zk_E.2.2.1 ∧ Cond.selects yX13_bitsOf.cls yX13_bitsOf yX13_bitsOf ∈ zk_E.2.2.1 := ⟨⟨zk_b21 52 (by decide +kernel) rfl, zk_b1 19 (by decide +kernel) rfl, zk_b21 49 (by decide +kernel) rfl, by decide +kernel, by decide +kernel, by decide +kernel⟩, zk_b21 51 (by decide +kernel) rfl, zk_s18 (q := (yX13_bitsOf, 24)) 2 (by decide +kernel)⟩
theorem zl_X13_122 : zm_L zk_E RX13 122 yX13_choose (.code yX13_choose cX13_choose 2 none) 0 ∧ Cond.instanceMethod yX13_choose ∈ zk_E.2.2.1 ∧ Cond.selects yX13_choose.cls yX13_choose yX13_choose ∈ zk_E.2.2.1 := ⟨⟨zk_b21 11 (by decide +kernel) rfl, zk_b1 19 (by decide +kernel) rfl, zk_b21 8 (by decide +kernel) rfl, by decide +kernel, by decide +kernel, by decide +kernel⟩, zk_b21 10 (by decide +kernel) rfl, zk_s17 (q := (yX13_choose, 24)) 8 (by decide +kernel)⟩
theorem zl_X13_125 : zm_L zk_E RX13 125 yX13_findRow (.code yX13_findRow cX13_findRow 8 none) 2 ∧ Cond.instanceMethod yX13_findRow ∈ zk_E.2.2.1 ∧ Cond.selects yX13_findRow.cls yX13_findRow yX13_findRow ∈ zk_E.2.2.1 := ⟨⟨zk_b21 19 (by decide +kernel) rfl, zk_b1 19 (by decide +kernel) rfl, zk_b21 16 (by decide +kernel) rfl, by decide +kernel, by decide +kernel, by decide +kernel⟩, zk_b21 18 (by decide +kernel) rfl, zk_s17 (q := (yX13_findRow, 24)) 10 (by decide +kernel)⟩
theorem zl_X13_129 : zm_L zk_E RX13 129 yX13_sumOf (.code yX13_sumOf cX13_sumOf 5 (some .long)) 1 ∧ Cond.instanceMethod yX13_sumOf ∈ zk_E.2.2.1 ∧ Cond.selects yX13_sumOf.cls yX13_sumOf yX13_sumOf ∈ zk_E.2.2.1 := ⟨⟨zk_b21 48 (by decide +kernel) rfl, zk_b1 19 (by decide +kernel) rfl, zk_b21 45 (by decide +kernel) rfl, by decide +kernel, by decide +kernel, by decide +kernel⟩, zk_b21 47 (by decide +kernel) rfl, zk_s18 (q := (yX13_sumOf, 24)) 1 (by decide +kernel)⟩
theorem zl_X13_132 : zm_L zk_E RX13 132 yX13_tell (.code yX13_tell cX13_tell 8 none) 2 ∧ Cond.instanceMethod yX13_tell ∈ zk_E.2.2.1 ∧ Cond.selects yX13_tell.cls yX13_tell yX13_tell ∈ zk_E.2.2.1 := ⟨⟨zk_b21 56 (by decide +kernel) rfl, zk_b1 19 (by decide +kernel) rfl, zk_b21 53 (by decide +kernel) rfl, by decide +kernel, by decide +kernel, by decide +kernel⟩, zk_b21 55 (by decide +kernel) rfl, zk_s18 (q := (yX13_tell, 24)) 3 (by decide +kernel)⟩
theorem zl_X14_1 : Cond.methodLink RX14 1 Lib.objectInit ∈ zk_E.2.2.1 ∧ Cond.instanceMethod Lib.objectInit ∈ zk_E.2.2.1 ∧ Cond.code Lib.objectInit ⟨#[0xb1]⟩ 1 none ∈ zk_E.2.2.1 := ⟨zk_b14 113 (by decide +kernel) rfl, zk_b1 43 (by decide +kernel) rfl, zk_b1 44 (by decide +kernel) rfl⟩
theorem zl_X14_7 : zm_F zk_E RX14 7 14 2 := ⟨RX14, TX14, 36, rfl, zk_i14, by decide, zk_b14 118 (by decide +kernel) rfl⟩
theorem zt_14_2 : zm_T zk_E RX14 14 2 (.array .int) true := ⟨RX14, TX14, 36, tyX14, rfl, tyX14_ok, nmX14, rfl, rfl, rfl⟩
theorem zl_X14_13 : zm_F zk_E RX14 13 14 3 := ⟨RX14, TX14, 36, rfl, zk_i14, by decide, zk_b14 120 (by decide +kernel) rfl⟩
theorem zt_14_3 : zm_T zk_E RX14 14 3 (.array .boolean) true := ⟨RX14, TX14, 36, tyX14, rfl, tyX14_ok, nmX14, rfl, rfl, rfl⟩
theorem zl_X14_17 : zm_F zk_E RX14 17 14 4 := ⟨RX14, TX14, 36, rfl, zk_i14, by decide, zk_b14 122 (by decide +kernel) rfl⟩
theorem zt_14_4 : zm_T zk_E RX14 14 4 (.array .int) true := ⟨RX14, TX14, 36, tyX14, rfl, tyX14_ok, nmX14, rfl, rfl, rfl⟩
theorem zl_X14_20 : zm_F zk_E RX14 20 14 5 := ⟨RX14, TX14, 36, rfl, zk_i14, by decide, zk_b14 124 (by decide +kernel) rfl⟩
theorem zt_14_5 : zm_T zk_E RX14 14 5 (.array .int) true := ⟨RX14, TX14, 36, tyX14, rfl, tyX14_ok, nmX14, rfl, rfl, rfl⟩
theorem zl_X14_23 : zm_F zk_E RX14 23 14 8 := ⟨RX14, TX14, 36, rfl, zk_i14, by decide, zk_b14 128 (by decide +kernel) rfl⟩
theorem zt_14_8 : zm_T zk_E RX14 14 8 (.array .int) true := ⟨RX14, TX14, 36, tyX14, rfl, tyX14_ok, nmX14, rfl, rfl, rfl⟩
theorem zl_X14_26 : zm_F zk_E RX14 26 14 9 := ⟨RX14, TX14, 36, rfl, zk_i14, by decide, zk_b14 129 (by decide +kernel) rfl⟩
theorem zt_14_9 : zm_T zk_E RX14 14 9 (.array .int) true := ⟨RX14, TX14, 36, tyX14, rfl, tyX14_ok, nmX14, rfl, rfl, rfl⟩
theorem zl_X14_29 : zm_F zk_E RX14 29 14 12 := ⟨RX14, TX14, 36, rfl, zk_i14, by decide, zk_b14 132 (by decide +kernel) rfl⟩
theorem zt_14_12 : zm_T zk_E RX14 14 12 (.array .boolean) true := ⟨RX14, TX14, 36, tyX14, rfl, tyX14_ok, nmX14, rfl, rfl, rfl⟩
theorem zl_X14_32 : zm_F zk_E RX14 32 14 13 := ⟨RX14, TX14, 36, rfl, zk_i14, by decide, zk_b14 134 (by decide +kernel) rfl⟩
theorem zt_14_13 : zm_T zk_E RX14 14 13 (.array .int) true := ⟨RX14, TX14, 36, tyX14, rfl, tyX14_ok, nmX14, rfl, rfl, rfl⟩
theorem zl_X14_35 : zm_F zk_E RX14 35 14 14 := ⟨RX14, TX14, 36, rfl, zk_i14, by decide, zk_b14 136 (by decide +kernel) rfl⟩
theorem zt_14_14 : zm_T zk_E RX14 14 14 (.array .int) true := ⟨RX14, TX14, 36, tyX14, rfl, tyX14_ok, nmX14, rfl, rfl, rfl⟩
theorem zl_X14_38 : zm_F zk_E RX14 38 14 15 := ⟨RX14, TX14, 36, rfl, zk_i14, by decide, zk_b14 137 (by decide +kernel) rfl⟩
theorem zt_14_15 : zm_T zk_E RX14 14 15 (.array .int) true := ⟨RX14, TX14, 36, tyX14, rfl, tyX14_ok, nmX14, rfl, rfl, rfl⟩
theorem zl_X14_41 : zm_F zk_E RX14 41 14 16 := ⟨RX14, TX14, 36, rfl, zk_i14, by decide, zk_b14 138 (by decide +kernel) rfl⟩
theorem zt_14_16 : zm_T zk_E RX14 14 16 (.array .boolean) true := ⟨RX14, TX14, 36, tyX14, rfl, tyX14_ok, nmX14, rfl, rfl, rfl⟩
theorem zl_X14_44 : zm_F zk_E RX14 44 14 17 := ⟨RX14, TX14, 36, rfl, zk_i14, by decide, zk_b14 140 (by decide +kernel) rfl⟩
theorem zt_14_17 : zm_T zk_E RX14 14 17 (.array .int) true := ⟨RX14, TX14, 36, tyX14, rfl, tyX14_ok, nmX14, rfl, rfl, rfl⟩
theorem zl_X14_47 : zm_F zk_E RX14 47 14 18 := ⟨RX14, TX14, 36, rfl, zk_i14, by decide, zk_b14 142 (by decide +kernel) rfl⟩
theorem zt_14_18 : zm_T zk_E RX14 14 18 (.array .int) true := ⟨RX14, TX14, 36, tyX14, rfl, tyX14_ok, nmX14, rfl, rfl, rfl⟩
theorem zl_X14_50 : zm_F zk_E RX14 50 14 19 := ⟨RX14, TX14, 36, rfl, zk_i14, by decide, zk_b14 143 (by decide +kernel) rfl⟩
theorem zt_14_19 : zm_T zk_E RX14 14 19 (.array .int) true := ⟨RX14, TX14, 36, tyX14, rfl, tyX14_ok, nmX14, rfl, rfl, rfl⟩
theorem zl_X14_53 : zm_F zk_E RX14 53 14 20 := ⟨RX14, TX14, 36, rfl, zk_i14, by decide, zk_b14 144 (by decide +kernel) rfl⟩
theorem zt_14_20 : zm_T zk_E RX14 14 20 (.array .boolean) true := ⟨RX14, TX14, 36, tyX14, rfl, tyX14_ok, nmX14, rfl, rfl, rfl⟩
theorem zl_X14_56 : zm_F zk_E RX14 56 14 23 := ⟨RX14, TX14, 36, rfl, zk_i14, by decide, zk_b14 147 (by decide +kernel) rfl⟩
theorem zt_14_23 : zm_T zk_E RX14 14 23 (.array .int) true := ⟨RX14, TX14, 36, tyX14, rfl, tyX14_ok, nmX14, rfl, rfl, rfl⟩
theorem zl_X14_59 : zm_F zk_E RX14 59 14 24 := ⟨RX14, TX14, 36, rfl, zk_i14, by decide, zk_b14 148 (by decide +kernel) rfl⟩
theorem zt_14_24 : zm_T zk_E RX14 14 24 (.array .int) true := ⟨RX14, TX14, 36, tyX14, rfl, tyX14_ok, nmX14, rfl, rfl, rfl⟩
theorem zl_X14_62 : zm_F zk_E RX14 62 14 25 := ⟨RX14, TX14, 36, rfl, zk_i14, by decide, zk_b14 149 (by decide +kernel) rfl⟩
theorem zt_14_25 : zm_T zk_E RX14 14 25 (.array .int) true := ⟨RX14, TX14, 36, tyX14, rfl, tyX14_ok, nmX14, rfl, rfl, rfl⟩
theorem zl_X14_65 : zm_F zk_E RX14 65 14 26 := ⟨RX14, TX14, 36, rfl, zk_i14, by decide, zk_b14 150 (by decide +kernel) rfl⟩
theorem zt_14_26 : zm_T zk_E RX14 14 26 (.array .int) true := ⟨RX14, TX14, 36, tyX14, rfl, tyX14_ok, nmX14, rfl, rfl, rfl⟩
theorem zl_X14_68 : zm_F zk_E RX14 68 14 27 := ⟨RX14, TX14, 36, rfl, zk_i14, by decide, zk_b14 151 (by decide +kernel) rfl⟩
theorem zt_14_27 : zm_T zk_E RX14 14 27 (.array .int) true := ⟨RX14, TX14, 36, tyX14, rfl, tyX14_ok, nmX14, rfl, rfl, rfl⟩
theorem zl_X14_71 : zm_F zk_E RX14 71 14 28 := ⟨RX14, TX14, 36, rfl, zk_i14, by decide, zk_b14 152 (by decide +kernel) rfl⟩
theorem zt_14_28 : zm_T zk_E RX14 14 28 (.array .boolean) true := ⟨RX14, TX14, 36, tyX14, rfl, tyX14_ok, nmX14, rfl, rfl, rfl⟩
theorem zl_X14_74 : zm_F zk_E RX14 74 14 29 := ⟨RX14, TX14, 36, rfl, zk_i14, by decide, zk_b14 153 (by decide +kernel) rfl⟩
theorem zt_14_29 : zm_T zk_E RX14 14 29 (.array .boolean) true := ⟨RX14, TX14, 36, tyX14, rfl, tyX14_ok, nmX14, rfl, rfl, rfl⟩
theorem zl_X14_77 : zm_F zk_E RX14 77 14 31 := ⟨RX14, TX14, 36, rfl, zk_i14, by decide, zk_b14 156 (by decide +kernel) rfl⟩
theorem zt_14_31 : zm_T zk_E RX14 14 31 (.array .int) true := ⟨RX14, TX14, 36, tyX14, rfl, tyX14_ok, nmX14, rfl, rfl, rfl⟩
theorem zl_X14_80 : zm_F zk_E RX14 80 14 32 := ⟨RX14, TX14, 36, rfl, zk_i14, by decide, zk_b14 157 (by decide +kernel) rfl⟩
theorem zt_14_32 : zm_T zk_E RX14 14 32 (.array .int) true := ⟨RX14, TX14, 36, tyX14, rfl, tyX14_ok, nmX14, rfl, rfl, rfl⟩
theorem zl_X14_83 : zm_F zk_E RX14 83 14 33 := ⟨RX14, TX14, 36, rfl, zk_i14, by decide, zk_b14 158 (by decide +kernel) rfl⟩
theorem zt_14_33 : zm_T zk_E RX14 14 33 (.array .int) true := ⟨RX14, TX14, 36, tyX14, rfl, tyX14_ok, nmX14, rfl, rfl, rfl⟩
theorem zl_X14_86 : zm_F zk_E RX14 86 14 34 := ⟨RX14, TX14, 36, rfl, zk_i14, by decide, zk_b14 159 (by decide +kernel) rfl⟩
theorem zt_14_34 : zm_T zk_E RX14 14 34 (.array .int) true := ⟨RX14, TX14, 36, tyX14, rfl, tyX14_ok, nmX14, rfl, rfl, rfl⟩
set_option maxHeartbeats 4000000 in
set_option maxRecDepth 100000 in
theorem zt_X12_bitTime_L17 {p : Program} {l : Launch} {e : Env} {R : Room} {s : State} {m : MethodId} {args : Array Value} {below : List Frame} {meth : Method} {c : Code} {V : zm_V} {mc ms d rc rs : Nat} (hX : zm_X p R s m args meth c RX12 "bitTime" cX12_bitTime 4 zk_E V mc ms) (hr : meth.sig.returnType = none) (hR : R.frames = d ∧ R.locals = 64 * d) (hd : 5 ≤ d) {N : Nat} {res : (Unit × zm_S) ⊕ ((Unit) × zm_S)} {out : (Unit × zm_S)} (a0 : Nat) (i1 : Int32) (hf : ∀ o, res = .inl o → o = out) (hk : ∀ (S' : zm_S), res = .inr ((), S') → zw p l e R s m args below meth c (vx_MQ below (zm_Qc zk_E V (zo_v out)) (zm_XC zk_E V zo_x) args s mc ms (fun q => V.2.2.2.1 ≤ q)) 4 zk_E V mc ms 35 [(0, .ref a0)] [] S' rc rs) : ∀ (n : Nat) (i2 : Int32) (S : zm_S), zf_X12_bitTime_L17 N n a0 i1 i2 S = some res → zw p l e R s m args below meth c (vx_MQ below (zm_Qc zk_E V (zo_v out)) (zm_XC zk_E V zo_x) args s mc ms (fun q => V.2.2.2.1 ≤ q)) 4 zk_E V mc ms 17 [(0, .ref a0), (1, .int i1), (2, .int i2)] [] S rc rs := by
  intro n
  induction n with
  | zero => intro i2 S h; cases h
  | succ n ih =>
    intro i2 S h
    rw [zf_X12_bitTime_L17] at h
    refine zw_iload_n hX dX12_bitTime_17 rfl ?_
    refine zw_bipush (v := (8 : Int32)) hX dX12_bitTime_18 (by decide) ?_
    refine zw_icmp_ge (tgt := 35) hX dX12_bitTime_20 (by decide) (fun c20 => ?_) (fun c20 => ?_)
    · rw [if_pos c20] at h
      refine zw_sub (lv' := [(0, .ref a0)]) (List.forall_mem_cons.mpr ⟨rfl, zs_nil⟩) ?_
      exact hk  _ (Option.some.inj h).symm
    · rw [if_neg c20] at h
      refine zw_aload_n hX dX12_bitTime_23 rfl ?_
      refine zw_iload_n hX dX12_bitTime_24 rfl ?_
      refine zw_iload_n hX dX12_bitTime_25 rfl ?_
      obtain ⟨_, gi, h⟩ := zb_some h
      obtain ⟨r6, g, h⟩ := zb_some h
      refine zc_Vv (as := [.int i2, .int i1]) hX gi (zt_X12_begin (d := d - 1) (by omega) g) zl_X12_128 rfl dX12_bitTime_26 ⟨rfl, rfl, Nat.le_of_ble_eq_true rfl⟩ ⟨by omega, by omega⟩ ?_
      refine zw_iinc (v := (i2 + (1 : Int32))) hX dX12_bitTime_29 rfl rfl (by decide) ?_
      refine zw_goto (tgt := 17) hX dX12_bitTime_32 (by decide) ?_
      refine zw_sub (lv' := [(0, .ref a0), (1, .int i1), (2, .int (i2 + (1 : Int32)))]) (List.forall_mem_cons.mpr ⟨rfl, (List.forall_mem_cons.mpr ⟨rfl, (List.forall_mem_cons.mpr ⟨rfl, zs_nil⟩)⟩)⟩) ?_
      exact ih _ _ h
set_option maxHeartbeats 4000000 in
set_option maxRecDepth 100000 in
theorem zt_X12_bitTime_J107 {p : Program} {l : Launch} {e : Env} {R : Room} {s : State} {m : MethodId} {args : Array Value} {below : List Frame} {meth : Method} {c : Code} {V : zm_V} {mc ms d rc rs : Nat} (hX : zm_X p R s m args meth c RX12 "bitTime" cX12_bitTime 4 zk_E V mc ms) (hr : meth.sig.returnType = none) (hR : R.frames = d ∧ R.locals = 64 * d) (hd : 5 ≤ d) {N : Nat} {k : Nat → Int32 → Int32 → zm_S → Option ((Unit × zm_S) ⊕ ((Int32) × zm_S))} {a0 : Nat} {i3 : Int32} {res : (Unit × zm_S) ⊕ ((Int32) × zm_S)} {out : (Unit × zm_S)}   (hf : ∀ o, res = .inl o → o = out) (hk : ∀ (x2 : Int32) (S' : zm_S), res = .inr (x2, S') → zw p l e R s m args below meth c (vx_MQ below (zm_Qc zk_E V (zo_v out)) (zm_XC zk_E V zo_x) args s mc ms (fun q => V.2.2.2.1 ≤ q)) 4 zk_E V mc ms 115 [(0, .ref a0), (2, .int x2)] [] S' rc rs) (hrec : ∀ (i2' : Int32) (i3' : Int32) (S : zm_S), k a0 i2' i3' S = some res → zw p l e R s m args below meth c (vx_MQ below (zm_Qc zk_E V (zo_v out)) (zm_XC zk_E V zo_x) args s mc ms (fun q => V.2.2.2.1 ≤ q)) 4 zk_E V mc ms 85 [(0, .ref a0), (2, .int i2'), (3, .int i3')] [] S rc rs) {S : zm_S} (h : zf_X12_bitTime_J107 N k a0 i3 S = some res) : zw p l e R s m args below meth c (vx_MQ below (zm_Qc zk_E V (zo_v out)) (zm_XC zk_E V zo_x) args s mc ms (fun q => V.2.2.2.1 ≤ q)) 4 zk_E V mc ms 107 [(0, .ref a0), (3, .int i3)] [] S rc rs := by
  unfold zf_X12_bitTime_J107 at h
  refine zw_iconst (v := (0 : Int32)) hX dX12_bitTime_107 (by decide) ?_
  refine zw_istore_n hX dX12_bitTime_108 (by decide) ?_
  refine zw_iinc (v := (i3 + (1 : Int32))) hX dX12_bitTime_109 rfl rfl (by decide) ?_
  refine zw_goto (tgt := 85) hX dX12_bitTime_112 (by decide) ?_
  refine zw_sub (lv' := [(0, .ref a0), (2, .int (0 : Int32)), (3, .int (i3 + (1 : Int32)))]) (List.forall_mem_cons.mpr ⟨rfl, (List.forall_mem_cons.mpr ⟨rfl, (List.forall_mem_cons.mpr ⟨rfl, zs_nil⟩)⟩)⟩) ?_
  exact hrec _ _ _ h
set_option maxHeartbeats 4000000 in
set_option maxRecDepth 100000 in
theorem zt_X12_bitTime_L85 {p : Program} {l : Launch} {e : Env} {R : Room} {s : State} {m : MethodId} {args : Array Value} {below : List Frame} {meth : Method} {c : Code} {V : zm_V} {mc ms d rc rs : Nat} (hX : zm_X p R s m args meth c RX12 "bitTime" cX12_bitTime 4 zk_E V mc ms) (hr : meth.sig.returnType = none) (hR : R.frames = d ∧ R.locals = 64 * d) (hd : 5 ≤ d) {N : Nat} {res : (Unit × zm_S) ⊕ ((Int32) × zm_S)} {out : (Unit × zm_S)} (a0 : Nat) (hf : ∀ o, res = .inl o → o = out) (hk : ∀ (x2 : Int32) (S' : zm_S), res = .inr (x2, S') → zw p l e R s m args below meth c (vx_MQ below (zm_Qc zk_E V (zo_v out)) (zm_XC zk_E V zo_x) args s mc ms (fun q => V.2.2.2.1 ≤ q)) 4 zk_E V mc ms 115 [(0, .ref a0), (2, .int x2)] [] S' rc rs) : ∀ (n : Nat) (i2 : Int32) (i3 : Int32) (S : zm_S), zf_X12_bitTime_L85 N n a0 i2 i3 S = some res → zw p l e R s m args below meth c (vx_MQ below (zm_Qc zk_E V (zo_v out)) (zm_XC zk_E V zo_x) args s mc ms (fun q => V.2.2.2.1 ≤ q)) 4 zk_E V mc ms 85 [(0, .ref a0), (2, .int i2), (3, .int i3)] [] S rc rs := by
  intro n
  induction n with
  | zero => intro i2 i3 S h; cases h
  | succ n ih =>
    intro i2 i3 S h
    rw [zf_X12_bitTime_L85] at h
    refine zw_iload_n hX dX12_bitTime_85 rfl ?_
    refine zw_bipush (v := (8 : Int32)) hX dX12_bitTime_86 (by decide) ?_
    refine zw_icmp_ge (tgt := 115) hX dX12_bitTime_88 (by decide) (fun c88 => ?_) (fun c88 => ?_)
    · rw [if_pos c88] at h
      refine zw_sub (lv' := [(0, .ref a0), (2, .int i2)]) (List.forall_mem_cons.mpr ⟨rfl, (List.forall_mem_cons.mpr ⟨rfl, zs_nil⟩)⟩) ?_
      exact hk _ _ (Option.some.inj h).symm
    · rw [if_neg c88] at h
      refine zw_iload_n hX dX12_bitTime_91 rfl ?_
      refine zw_if_eq (tgt := 107) hX dX12_bitTime_92 (by decide) (fun c92 => ?_) (fun c92 => ?_)
      · rw [if_pos c92] at h
        refine zw_sub (lv' := [(0, .ref a0), (3, .int i3)]) (List.forall_mem_cons.mpr ⟨rfl, (List.forall_mem_cons.mpr ⟨rfl, zs_nil⟩)⟩) ?_
        exact zt_X12_bitTime_J107 hX hr hR hd hf hk ih h
      · rw [if_neg c92] at h
        refine zw_aload_n hX dX12_bitTime_95 rfl ?_
        refine zw_iload_n hX dX12_bitTime_96 rfl ?_
        obtain ⟨_, gi, h⟩ := zb_some h
        obtain ⟨r19, g, h⟩ := zb_some h
        refine zc_Vi (as := [.int i3]) hX gi (zt_X12_sendsOne (d := d - 1) (by omega) g) zl_X12_135 rfl dX12_bitTime_97 ⟨rfl, rfl, Nat.le_of_ble_eq_true rfl⟩ ⟨by omega, by omega⟩ ?_
        refine zw_if_eq (tgt := 107) hX dX12_bitTime_100 (by decide) (fun c100 => ?_) (fun c100 => ?_)
        · rw [if_pos c100] at h
          refine zw_sub (lv' := [(0, .ref a0), (3, .int i3)]) (List.forall_mem_cons.mpr ⟨rfl, (List.forall_mem_cons.mpr ⟨rfl, zs_nil⟩)⟩) ?_
          exact zt_X12_bitTime_J107 hX hr hR hd hf hk ih h
        · rw [if_neg c100] at h
          refine zw_iconst (v := (1 : Int32)) hX dX12_bitTime_103 (by decide) ?_
          refine zw_goto (tgt := 108) hX dX12_bitTime_104 (by decide) ?_
          refine zw_istore_n hX dX12_bitTime_108 (by decide) ?_
          refine zw_iinc (v := (i3 + (1 : Int32))) hX dX12_bitTime_109 rfl rfl (by decide) ?_
          refine zw_goto (tgt := 85) hX dX12_bitTime_112 (by decide) ?_
          refine zw_sub (lv' := [(0, .ref a0), (2, .int (1 : Int32)), (3, .int (i3 + (1 : Int32)))]) (List.forall_mem_cons.mpr ⟨rfl, (List.forall_mem_cons.mpr ⟨rfl, (List.forall_mem_cons.mpr ⟨rfl, zs_nil⟩)⟩)⟩) ?_
          exact ih _ _ _ h
set_option maxHeartbeats 4000000 in
set_option maxRecDepth 100000 in
theorem zt_X12_bitTime_L127 {p : Program} {l : Launch} {e : Env} {R : Room} {s : State} {m : MethodId} {args : Array Value} {below : List Frame} {meth : Method} {c : Code} {V : zm_V} {mc ms d rc rs : Nat} (hX : zm_X p R s m args meth c RX12 "bitTime" cX12_bitTime 4 zk_E V mc ms) (hr : meth.sig.returnType = none) (hR : R.frames = d ∧ R.locals = 64 * d) (hd : 5 ≤ d) {N : Nat} {res : (Unit × zm_S) ⊕ ((Unit) × zm_S)} {out : (Unit × zm_S)} (a0 : Nat) (hf : ∀ o, res = .inl o → o = out) (hk : ∀ (S' : zm_S), res = .inr ((), S') → zw p l e R s m args below meth c (vx_MQ below (zm_Qc zk_E V (zo_v out)) (zm_XC zk_E V zo_x) args s mc ms (fun q => V.2.2.2.1 ≤ q)) 4 zk_E V mc ms 144 [(0, .ref a0)] [] S' rc rs) : ∀ (n : Nat) (i3 : Int32) (S : zm_S), zf_X12_bitTime_L127 N n a0 i3 S = some res → zw p l e R s m args below meth c (vx_MQ below (zm_Qc zk_E V (zo_v out)) (zm_XC zk_E V zo_x) args s mc ms (fun q => V.2.2.2.1 ≤ q)) 4 zk_E V mc ms 127 [(0, .ref a0), (3, .int i3)] [] S rc rs := by
  intro n
  induction n with
  | zero => intro i3 S h; cases h
  | succ n ih =>
    intro i3 S h
    rw [zf_X12_bitTime_L127] at h
    refine zw_iload_n hX dX12_bitTime_127 rfl ?_
    refine zw_bipush (v := (8 : Int32)) hX dX12_bitTime_128 (by decide) ?_
    refine zw_icmp_ge (tgt := 144) hX dX12_bitTime_130 (by decide) (fun c130 => ?_) (fun c130 => ?_)
    · rw [if_pos c130] at h
      refine zw_sub (lv' := [(0, .ref a0)]) (List.forall_mem_cons.mpr ⟨rfl, zs_nil⟩) ?_
      exact hk  _ (Option.some.inj h).symm
    · rw [if_neg c130] at h
      refine zw_aload_n hX dX12_bitTime_133 rfl ?_
      refine zw_iload_n hX dX12_bitTime_134 rfl ?_
      obtain ⟨_, gi, h⟩ := zb_some h
      obtain ⟨r26, g, h⟩ := zb_some h
      refine zc_Vv (as := [.int i3]) hX gi (zt_X12_goOn (d := d - 1) (by omega) g) zl_X12_139 rfl dX12_bitTime_135 ⟨rfl, rfl, Nat.le_of_ble_eq_true rfl⟩ ⟨by omega, by omega⟩ ?_
      refine zw_iinc (v := (i3 + (1 : Int32))) hX dX12_bitTime_138 rfl rfl (by decide) ?_
      refine zw_goto (tgt := 127) hX dX12_bitTime_141 (by decide) ?_
      refine zw_sub (lv' := [(0, .ref a0), (3, .int (i3 + (1 : Int32)))]) (List.forall_mem_cons.mpr ⟨rfl, (List.forall_mem_cons.mpr ⟨rfl, zs_nil⟩)⟩) ?_
      exact ih _ _ h
set_option maxHeartbeats 4000000 in
set_option maxRecDepth 100000 in
theorem zt_X12_bitTime_L150 {p : Program} {l : Launch} {e : Env} {R : Room} {s : State} {m : MethodId} {args : Array Value} {below : List Frame} {meth : Method} {c : Code} {V : zm_V} {mc ms d rc rs : Nat} (hX : zm_X p R s m args meth c RX12 "bitTime" cX12_bitTime 4 zk_E V mc ms) (hr : meth.sig.returnType = none) (hR : R.frames = d ∧ R.locals = 64 * d) (hd : 5 ≤ d) {N : Nat} {res : (Unit × zm_S) ⊕ ((Unit) × zm_S)} {out : (Unit × zm_S)} (a0 : Nat) (hf : ∀ o, res = .inl o → o = out) (hk : ∀ (S' : zm_S), res = .inr ((), S') → zw p l e R s m args below meth c (vx_MQ below (zm_Qc zk_E V (zo_v out)) (zm_XC zk_E V zo_x) args s mc ms (fun q => V.2.2.2.1 ≤ q)) 4 zk_E V mc ms 167 [] [] S' rc rs) : ∀ (n : Nat) (i3 : Int32) (S : zm_S), zf_X12_bitTime_L150 N n a0 i3 S = some res → zw p l e R s m args below meth c (vx_MQ below (zm_Qc zk_E V (zo_v out)) (zm_XC zk_E V zo_x) args s mc ms (fun q => V.2.2.2.1 ≤ q)) 4 zk_E V mc ms 150 [(0, .ref a0), (3, .int i3)] [] S rc rs := by
  intro n
  induction n with
  | zero => intro i3 S h; cases h
  | succ n ih =>
    intro i3 S h
    rw [zf_X12_bitTime_L150] at h
    refine zw_iload_n hX dX12_bitTime_150 rfl ?_
    refine zw_bipush (v := (8 : Int32)) hX dX12_bitTime_151 (by decide) ?_
    refine zw_icmp_ge (tgt := 167) hX dX12_bitTime_153 (by decide) (fun c153 => ?_) (fun c153 => ?_)
    · rw [if_pos c153] at h
      refine zw_sub (lv' := []) zs_nil ?_
      exact hk  _ (Option.some.inj h).symm
    · rw [if_neg c153] at h
      refine zw_aload_n hX dX12_bitTime_156 rfl ?_
      refine zw_iload_n hX dX12_bitTime_157 rfl ?_
      obtain ⟨_, gi, h⟩ := zb_some h
      obtain ⟨r31, g, h⟩ := zb_some h
      refine zc_Vv (as := [.int i3]) hX gi (zt_X12_look (d := d - 1) (by omega) g) zl_X12_145 rfl dX12_bitTime_158 ⟨rfl, rfl, Nat.le_of_ble_eq_true rfl⟩ ⟨by omega, by omega⟩ ?_
      refine zw_iinc (v := (i3 + (1 : Int32))) hX dX12_bitTime_161 rfl rfl (by decide) ?_
      refine zw_goto (tgt := 150) hX dX12_bitTime_164 (by decide) ?_
      refine zw_sub (lv' := [(0, .ref a0), (3, .int (i3 + (1 : Int32)))]) (List.forall_mem_cons.mpr ⟨rfl, (List.forall_mem_cons.mpr ⟨rfl, zs_nil⟩)⟩) ?_
      exact ih _ _ h
set_option maxHeartbeats 4000000 in
set_option maxRecDepth 100000 in
theorem zt_X12_bitTime_J79 {p : Program} {l : Launch} {e : Env} {R : Room} {s : State} {m : MethodId} {args : Array Value} {below : List Frame} {meth : Method} {c : Code} {V : zm_V} {mc ms d rc rs : Nat} (hX : zm_X p R s m args meth c RX12 "bitTime" cX12_bitTime 4 zk_E V mc ms) (hr : meth.sig.returnType = none) (hR : R.frames = d ∧ R.locals = 64 * d) (hd : 5 ≤ d) {N : Nat} {a0 : Nat} {i2 : Int32} {t0 : Nat} {t1 : Int32} {t2 : Int32} {out : (Unit × zm_S)} {S : zm_S} (h : zf_X12_bitTime_J79 N a0 i2 t0 t1 t2 S = some out) : zw p l e R s m args below meth c (vx_MQ below (zm_Qc zk_E V (zo_v out)) (zm_XC zk_E V zo_x) args s mc ms (fun q => V.2.2.2.1 ≤ q)) 4 zk_E V mc ms 79 [(0, .ref a0), (2, .int i2)] [.int t2, .int t1, .ref t0] S rc rs := by
  unfold zf_X12_bitTime_J79 at h
  refine zw_isub hX dX12_bitTime_79 ?_
  obtain ⟨S17, g, h⟩ := zb_some h
  refine zw_putv hX zl_X12_72 zt_12_3 dX12_bitTime_80 rfl rfl g ?_
  refine zw_iconst (v := (0 : Int32)) hX dX12_bitTime_83 (by decide) ?_
  refine zw_istore_n hX dX12_bitTime_84 (by decide) ?_
  obtain ⟨r, g, h⟩ := zb_some h
  refine zw_sub (lv' := [(0, .ref a0), (2, .int i2), (3, .int (0 : Int32))]) (List.forall_mem_cons.mpr ⟨rfl, (List.forall_mem_cons.mpr ⟨rfl, (List.forall_mem_cons.mpr ⟨rfl, zs_nil⟩)⟩)⟩) ?_
  refine zt_X12_bitTime_L85 hX hr hR hd (res := r) (out := out) a0 ?_ ?_ N _ _ _ g
  · intro o ho
    subst ho
    exact Option.some.inj h
  · intro v21 S20 hx
    subst hx
    try dsimp only at h
    refine zw_aload_n hX dX12_bitTime_115 rfl ?_
    obtain ⟨b22, g, h⟩ := zb_some h
    refine zw_getr hX zl_X12_8 dX12_bitTime_116 g ?_
    refine zw_aload_n hX dX12_bitTime_119 rfl ?_
    obtain ⟨v23, g, h⟩ := zb_some h
    refine zw_geti hX zl_X12_75 dX12_bitTime_120 g ?_
    refine zw_iload_n hX dX12_bitTime_123 rfl ?_
    obtain ⟨S24, g, h⟩ := zb_some h
    refine zw_sz hX dX12_bitTime_124 g ?_
    refine zw_iconst (v := (0 : Int32)) hX dX12_bitTime_125 (by decide) ?_
    refine zw_istore_n hX dX12_bitTime_126 (by decide) ?_
    obtain ⟨r, g, h⟩ := zb_some h
    refine zw_sub (lv' := [(0, .ref a0), (3, .int (0 : Int32))]) (List.forall_mem_cons.mpr ⟨rfl, (List.forall_mem_cons.mpr ⟨rfl, zs_nil⟩)⟩) ?_
    refine zt_X12_bitTime_L127 hX hr hR hd (res := r) (out := out) a0 ?_ ?_ N _ _ g
    · intro o ho
      subst ho
      exact Option.some.inj h
    · intro  S27 hx
      subst hx
      try dsimp only at h
      refine zw_aload_n hX dX12_bitTime_144 rfl ?_
      obtain ⟨_, gi, h⟩ := zb_some h
      obtain ⟨r29, g, h⟩ := zb_some h
      refine zc_Vv (as := []) hX gi (zt_X12_hear (d := d - 1) (by omega) g) zl_X12_142 rfl dX12_bitTime_145 ⟨rfl, rfl, Nat.le_of_ble_eq_true rfl⟩ ⟨by omega, by omega⟩ ?_
      refine zw_iconst (v := (0 : Int32)) hX dX12_bitTime_148 (by decide) ?_
      refine zw_istore_n hX dX12_bitTime_149 (by decide) ?_
      obtain ⟨r, g, h⟩ := zb_some h
      refine zw_sub (lv' := [(0, .ref a0), (3, .int (0 : Int32))]) (List.forall_mem_cons.mpr ⟨rfl, (List.forall_mem_cons.mpr ⟨rfl, zs_nil⟩)⟩) ?_
      refine zt_X12_bitTime_L150 hX hr hR hd (res := r) (out := out) a0 ?_ ?_ N _ _ g
      · intro o ho
        subst ho
        exact Option.some.inj h
      · intro  S32 hx
        subst hx
        try dsimp only at h
        obtain rfl := Option.some.inj h
        exact zw_vret hX hr dX12_bitTime_167 ⟨rfl, rfl⟩
set_option maxHeartbeats 4000000 in
set_option maxRecDepth 100000 in
theorem zt_X12_bitTime_J56 {p : Program} {l : Launch} {e : Env} {R : Room} {s : State} {m : MethodId} {args : Array Value} {below : List Frame} {meth : Method} {c : Code} {V : zm_V} {mc ms d rc rs : Nat} (hX : zm_X p R s m args meth c RX12 "bitTime" cX12_bitTime 4 zk_E V mc ms) (hr : meth.sig.returnType = none) (hR : R.frames = d ∧ R.locals = 64 * d) (hd : 5 ≤ d) {N : Nat} {a0 : Nat} {t0 : Int32} {out : (Unit × zm_S)} {S : zm_S} (h : zf_X12_bitTime_J56 N a0 t0 S = some out) : zw p l e R s m args below meth c (vx_MQ below (zm_Qc zk_E V (zo_v out)) (zm_XC zk_E V zo_x) args s mc ms (fun q => V.2.2.2.1 ≤ q)) 4 zk_E V mc ms 56 [(0, .ref a0)] [.int t0] S rc rs := by
  unfold zf_X12_bitTime_J56 at h
  refine zw_istore_n hX dX12_bitTime_56 (by decide) ?_
  refine zw_aload_n hX dX12_bitTime_57 rfl ?_
  refine zw_dup hX dX12_bitTime_58 rfl ?_
  obtain ⟨v13, g, h⟩ := zb_some h
  refine zw_geti hX zl_X12_72 dX12_bitTime_59 g ?_
  refine zw_aload_n hX dX12_bitTime_62 rfl ?_
  obtain ⟨b14, g, h⟩ := zb_some h
  refine zw_getr hX zl_X12_15 dX12_bitTime_63 g ?_
  refine zw_aload_n hX dX12_bitTime_66 rfl ?_
  obtain ⟨v15, g, h⟩ := zb_some h
  refine zw_geti hX zl_X12_75 dX12_bitTime_67 g ?_
  obtain ⟨v16, g, h⟩ := zb_some h
  refine zw_xz hX dX12_bitTime_70 g ?_
  refine zw_if_eq (tgt := 78) hX dX12_bitTime_71 (by decide) (fun c71 => ?_) (fun c71 => ?_)
  · rw [if_pos c71] at h
    refine zw_iconst (v := (0 : Int32)) hX dX12_bitTime_78 (by decide) ?_
    refine zw_sub (lv' := [(0, .ref a0), (2, .int t0)]) (List.forall_mem_cons.mpr ⟨rfl, (List.forall_mem_cons.mpr ⟨rfl, zs_nil⟩)⟩) ?_
    exact zt_X12_bitTime_J79 hX hr hR hd h
  · rw [if_neg c71] at h
    refine zw_iconst (v := (1 : Int32)) hX dX12_bitTime_74 (by decide) ?_
    refine zw_goto (tgt := 79) hX dX12_bitTime_75 (by decide) ?_
    refine zw_sub (lv' := [(0, .ref a0), (2, .int t0)]) (List.forall_mem_cons.mpr ⟨rfl, (List.forall_mem_cons.mpr ⟨rfl, zs_nil⟩)⟩) ?_
    exact zt_X12_bitTime_J79 hX hr hR hd h
set_option maxHeartbeats 4000000 in
set_option maxRecDepth 100000 in
theorem zt_X12_bitTime {l : Launch} {V : zm_V} {N : Nat} {S : zm_S} {out : (Unit × zm_S)} {d : Nat} {a0 : Nat} (hd : 5 ≤ d) (h : zf_X12_bitTime N a0 S = some out) : zm_Met l zk_E V yX12_bitTime (.code yX12_bitTime cX12_bitTime 4 none) d [.ref a0] S 0 0 (zo_v out) zo_x := by
  refine zm_of (by decide +kernel) (Nat.le_of_ble_eq_true rfl) ?_
  intro p e R s m args below meth c hRR hX hr hxt
  have hR : R.frames = d ∧ R.locals = 64 * d := by rw [hRR]; exact ⟨rfl, rfl⟩
  have hX : zm_X p R s m args meth c RX12 "bitTime" cX12_bitTime 4 zk_E V 0 0 := hX
  unfold zf_X12_bitTime at h
  refine zw_sub (lv' := [(0, .ref a0)]) (List.forall_mem_cons.mpr ⟨rfl, zs_nil⟩) ?_
  refine zw_aload_n hX dX12_bitTime_0 rfl ?_
  refine zw_dup hX dX12_bitTime_1 rfl ?_
  obtain ⟨v1, g, h⟩ := zb_some h
  refine zw_geti hX zl_X12_75 dX12_bitTime_2 g ?_
  refine zw_iconst (v := (1 : Int32)) hX dX12_bitTime_5 (by decide) ?_
  refine zw_iadd hX dX12_bitTime_6 ?_
  obtain ⟨S2, g, h⟩ := zb_some h
  refine zw_putv hX zl_X12_75 zt_12_0 dX12_bitTime_7 rfl rfl g ?_
  refine zw_aload_n hX dX12_bitTime_10 rfl ?_
  obtain ⟨_, gi, h⟩ := zb_some h
  obtain ⟨r4, g, h⟩ := zb_some h
  refine zc_Vi (as := []) hX gi (zt_X12_idle (d := d - 1) (by omega) g) zl_X12_124 rfl dX12_bitTime_11 ⟨rfl, rfl, Nat.le_of_ble_eq_true rfl⟩ ⟨by omega, by omega⟩ ?_
  refine zw_istore_n hX dX12_bitTime_14 (by decide) ?_
  refine zw_iconst (v := (0 : Int32)) hX dX12_bitTime_15 (by decide) ?_
  refine zw_istore_n hX dX12_bitTime_16 (by decide) ?_
  obtain ⟨r, g, h⟩ := zb_some h
  refine zw_sub (lv' := [(0, .ref a0), (1, .int r4.1), (2, .int (0 : Int32))]) (List.forall_mem_cons.mpr ⟨rfl, (List.forall_mem_cons.mpr ⟨rfl, (List.forall_mem_cons.mpr ⟨rfl, zs_nil⟩)⟩)⟩) ?_
  refine zt_X12_bitTime_L17 hX hr hR hd (res := r) (out := out) a0 r4.1 ?_ ?_ N _ _ g
  · intro o ho
    subst ho
    exact Option.some.inj h
  · intro  S7 hx
    subst hx
    try dsimp only at h
    refine zw_aload_n hX dX12_bitTime_35 rfl ?_
    obtain ⟨_, gi, h⟩ := zb_some h
    obtain ⟨r9, g, h⟩ := zb_some h
    refine zc_Vv (as := []) hX gi (zt_X12_answers (d := d - 1) (by omega) g) zl_X12_132 rfl dX12_bitTime_36 ⟨rfl, rfl, Nat.le_of_ble_eq_true rfl⟩ ⟨by omega, by omega⟩ ?_
    refine zw_aload_n hX dX12_bitTime_39 rfl ?_
    obtain ⟨b10, g, h⟩ := zb_some h
    refine zw_getr hX zl_X12_15 dX12_bitTime_40 g ?_
    refine zw_aload_n hX dX12_bitTime_43 rfl ?_
    obtain ⟨v11, g, h⟩ := zb_some h
    refine zw_geti hX zl_X12_75 dX12_bitTime_44 g ?_
    obtain ⟨v12, g, h⟩ := zb_some h
    refine zw_xz hX dX12_bitTime_47 g ?_
    refine zw_if_ne (tgt := 55) hX dX12_bitTime_48 (by decide) (fun c48 => ?_) (fun c48 => ?_)
    · rw [if_neg c48] at h
      refine zw_iconst (v := (0 : Int32)) hX dX12_bitTime_55 (by decide) ?_
      refine zw_sub (lv' := [(0, .ref a0)]) (List.forall_mem_cons.mpr ⟨rfl, zs_nil⟩) ?_
      exact zt_X12_bitTime_J56 hX hr hR hd h
    · rw [if_pos c48] at h
      refine zw_iconst (v := (1 : Int32)) hX dX12_bitTime_51 (by decide) ?_
      refine zw_goto (tgt := 56) hX dX12_bitTime_52 (by decide) ?_
      refine zw_sub (lv' := [(0, .ref a0)]) (List.forall_mem_cons.mpr ⟨rfl, zs_nil⟩) ?_
      exact zt_X12_bitTime_J56 hX hr hR hd h
set_option maxHeartbeats 4000000 in
set_option maxRecDepth 100000 in
theorem zt_X12_station {l : Launch} {V : zm_V} {N : Nat} {S : zm_S} {out : (Int32 × zm_S)} {d : Nat} {a0 : Nat} {i1 : Int32} {i2 : Int32} (hd : 1 ≤ d) (h : zf_X12_station N a0 i1 i2 S = some out) : zm_Met l zk_E V yX12_station (.code yX12_station cX12_station 3 (some .int)) d [.ref a0, .int i1, .int i2] S 0 0 (zo_i out) zo_x := by
  refine zm_of (by decide +kernel) (Nat.le_of_ble_eq_true rfl) ?_
  intro p e R s m args below meth c hRR hX hr hxt
  have hR : R.frames = d ∧ R.locals = 64 * d := by rw [hRR]; exact ⟨rfl, rfl⟩
  have hX : zm_X p R s m args meth c RX12 "station" cX12_station 3 zk_E V 0 0 := hX
  unfold zf_X12_station at h
  refine zw_sub (lv' := [(0, .ref a0), (1, .int i1), (2, .int i2)]) (List.forall_mem_cons.mpr ⟨rfl, (List.forall_mem_cons.mpr ⟨rfl, (List.forall_mem_cons.mpr ⟨rfl, zs_nil⟩)⟩)⟩) ?_
  refine zw_iload_n hX dX12_station_0 rfl ?_
  by_cases c1_0 : (i2).toInt = 0
  · rw [if_pos c1_0] at h
    refine zw_tableIn (off := 35) (tgt := 36) hX dX12_station_1 (by rw [c1_0]; decide) (by rw [c1_0]; decide) (by rw [c1_0]; decide) (by decide) ?_
    refine zw_aload_n hX dX12_station_36 rfl ?_
    obtain ⟨b3, g, h⟩ := zb_some h
    refine zw_getr hX zl_X12_28 dX12_station_37 g ?_
    refine zw_iload_n hX dX12_station_40 rfl ?_
    obtain ⟨v4, g, h⟩ := zb_some h
    refine zw_xi hX dX12_station_41 g ?_
    obtain rfl := Option.some.inj h
    exact zw_iret hX hr dX12_station_42 rfl ⟨rfl, rfl⟩
  rw [if_neg c1_0] at h
  by_cases c1_1 : (i2).toInt = 1
  · rw [if_pos c1_1] at h
    refine zw_tableIn (off := 42) (tgt := 43) hX dX12_station_1 (by rw [c1_1]; decide) (by rw [c1_1]; decide) (by rw [c1_1]; decide) (by decide) ?_
    refine zw_aload_n hX dX12_station_43 rfl ?_
    obtain ⟨b5, g, h⟩ := zb_some h
    refine zw_getr hX zl_X12_34 dX12_station_44 g ?_
    refine zw_iload_n hX dX12_station_47 rfl ?_
    obtain ⟨v6, g, h⟩ := zb_some h
    refine zw_xi hX dX12_station_48 g ?_
    refine zw_if_lt (tgt := 56) hX dX12_station_49 (by decide) (fun c49 => ?_) (fun c49 => ?_)
    · rw [if_pos c49] at h
      refine zw_iconst (v := (0 : Int32)) hX dX12_station_56 (by decide) ?_
      obtain rfl := Option.some.inj h
      exact zw_iret hX hr dX12_station_57 rfl ⟨rfl, rfl⟩
    · rw [if_neg c49] at h
      refine zw_iconst (v := (1 : Int32)) hX dX12_station_52 (by decide) ?_
      refine zw_goto (tgt := 57) hX dX12_station_53 (by decide) ?_
      obtain rfl := Option.some.inj h
      exact zw_iret hX hr dX12_station_57 rfl ⟨rfl, rfl⟩
  rw [if_neg c1_1] at h
  by_cases c1_2 : (i2).toInt = 2
  · rw [if_pos c1_2] at h
    refine zw_tableIn (off := 57) (tgt := 58) hX dX12_station_1 (by rw [c1_2]; decide) (by rw [c1_2]; decide) (by rw [c1_2]; decide) (by decide) ?_
    refine zw_aload_n hX dX12_station_58 rfl ?_
    obtain ⟨b7, g, h⟩ := zb_some h
    refine zw_getr hX zl_X12_37 dX12_station_59 g ?_
    refine zw_iload_n hX dX12_station_62 rfl ?_
    obtain ⟨v8, g, h⟩ := zb_some h
    refine zw_xi hX dX12_station_63 g ?_
    refine zw_if_lt (tgt := 71) hX dX12_station_64 (by decide) (fun c64 => ?_) (fun c64 => ?_)
    · rw [if_pos c64] at h
      refine zw_iconst (v := (0 : Int32)) hX dX12_station_71 (by decide) ?_
      obtain rfl := Option.some.inj h
      exact zw_iret hX hr dX12_station_72 rfl ⟨rfl, rfl⟩
    · rw [if_neg c64] at h
      refine zw_iconst (v := (1 : Int32)) hX dX12_station_67 (by decide) ?_
      refine zw_goto (tgt := 72) hX dX12_station_68 (by decide) ?_
      obtain rfl := Option.some.inj h
      exact zw_iret hX hr dX12_station_72 rfl ⟨rfl, rfl⟩
  rw [if_neg c1_2] at h
  by_cases c1_3 : (i2).toInt = 3
  · rw [if_pos c1_3] at h
    refine zw_tableIn (off := 72) (tgt := 73) hX dX12_station_1 (by rw [c1_3]; decide) (by rw [c1_3]; decide) (by rw [c1_3]; decide) (by decide) ?_
    refine zw_aload_n hX dX12_station_73 rfl ?_
    obtain ⟨b9, g, h⟩ := zb_some h
    refine zw_getr hX zl_X12_46 dX12_station_74 g ?_
    refine zw_iload_n hX dX12_station_77 rfl ?_
    obtain ⟨v10, g, h⟩ := zb_some h
    refine zw_xi hX dX12_station_78 g ?_
    obtain rfl := Option.some.inj h
    exact zw_iret hX hr dX12_station_79 rfl ⟨rfl, rfl⟩
  rw [if_neg c1_3] at h
  by_cases c1_4 : (i2).toInt = 4
  · rw [if_pos c1_4] at h
    refine zw_tableIn (off := 79) (tgt := 80) hX dX12_station_1 (by rw [c1_4]; decide) (by rw [c1_4]; decide) (by rw [c1_4]; decide) (by decide) ?_
    refine zw_aload_n hX dX12_station_80 rfl ?_
    obtain ⟨b11, g, h⟩ := zb_some h
    refine zw_getr hX zl_X12_49 dX12_station_81 g ?_
    refine zw_iload_n hX dX12_station_84 rfl ?_
    obtain ⟨v12, g, h⟩ := zb_some h
    refine zw_xi hX dX12_station_85 g ?_
    obtain rfl := Option.some.inj h
    exact zw_iret hX hr dX12_station_86 rfl ⟨rfl, rfl⟩
  rw [if_neg c1_4] at h
  refine zw_tableOut (tgt := 87) hX dX12_station_1 (by omega) (by decide) ?_
  refine zw_aload_n hX dX12_station_87 rfl ?_
  obtain ⟨b1, g, h⟩ := zb_some h
  refine zw_getr hX zl_X12_52 dX12_station_88 g ?_
  refine zw_iload_n hX dX12_station_91 rfl ?_
  obtain ⟨v2, g, h⟩ := zb_some h
  refine zw_xi hX dX12_station_92 g ?_
  obtain rfl := Option.some.inj h
  exact zw_iret hX hr dX12_station_93 rfl ⟨rfl, rfl⟩
set_option maxHeartbeats 4000000 in
set_option maxRecDepth 100000 in
theorem zt_X13_init_L156 {p : Program} {l : Launch} {e : Env} {R : Room} {s : State} {m : MethodId} {args : Array Value} {below : List Frame} {meth : Method} {c : Code} {V : zm_V} {mc ms d rc rs : Nat} (hX : zm_X p R s m args meth c RX13 "<init>" cX13_init 2 zk_E V mc ms) (hr : meth.sig.returnType = none) (hR : R.frames = d ∧ R.locals = 64 * d) (hd : 2 ≤ d) {N : Nat} {res : (Unit × zm_S) ⊕ ((Unit) × zm_S)} {out : (Unit × zm_S)} (a0 : Nat) (hf : ∀ o, res = .inl o → o = out) (hk : ∀ (S' : zm_S), res = .inr ((), S') → zw p l e R s m args below meth c (vx_MQ below (zm_Qc zk_E V (zo_v out)) (zm_XC zk_E V zo_x) args s mc ms (fun q => V.2.2.2.1 ≤ q)) 2 zk_E V mc ms 176 [] [] S' rc rs) : ∀ (n : Nat) (i1 : Int32) (S : zm_S), zf_X13_init_L156 N n a0 i1 S = some res → zw p l e R s m args below meth c (vx_MQ below (zm_Qc zk_E V (zo_v out)) (zm_XC zk_E V zo_x) args s mc ms (fun q => V.2.2.2.1 ≤ q)) 2 zk_E V mc ms 156 [(0, .ref a0), (1, .int i1)] [] S rc rs := by
  intro n
  induction n with
  | zero => intro i1 S h; cases h
  | succ n ih =>
    intro i1 S h
    rw [zf_X13_init_L156] at h
    refine zw_iload_n hX dX13_init_156 rfl ?_
    refine zw_sipush (v := (400 : Int32)) hX dX13_init_157 (by decide) ?_
    refine zw_icmp_ge (tgt := 176) hX dX13_init_160 (by decide) (fun c160 => ?_) (fun c160 => ?_)
    · rw [if_pos c160] at h
      refine zw_sub (lv' := []) zs_nil ?_
      exact hk  _ (Option.some.inj h).symm
    · rw [if_neg c160] at h
      refine zw_aload_n hX dX13_init_163 rfl ?_
      obtain ⟨b37, g, h⟩ := zb_some h
      refine zw_getr hX zl_X13_54 dX13_init_164 g ?_
      refine zw_iload_n hX dX13_init_167 rfl ?_
      refine zw_iconst (v := (-1 : Int32)) hX dX13_init_168 (by decide) ?_
      obtain ⟨S38, g, h⟩ := zb_some h
      refine zw_si hX dX13_init_169 g ?_
      refine zw_iinc (v := (i1 + (1 : Int32))) hX dX13_init_170 rfl rfl (by decide) ?_
      refine zw_goto (tgt := 156) hX dX13_init_173 (by decide) ?_
      refine zw_sub (lv' := [(0, .ref a0), (1, .int (i1 + (1 : Int32)))]) (List.forall_mem_cons.mpr ⟨rfl, (List.forall_mem_cons.mpr ⟨rfl, zs_nil⟩)⟩) ?_
      exact ih _ _ h
set_option maxHeartbeats 4000000 in
set_option maxRecDepth 100000 in
theorem zt_X13_init {l : Launch} {V : zm_V} {N : Nat} {S : zm_S} {out : (Unit × zm_S)} {d : Nat} {a0 : Nat} (hd : 2 ≤ d) (h : zf_X13_init N a0 S = some out) : zm_Met l zk_E V yX13_init (.code yX13_init cX13_init 2 none) d [.ref a0] S 18 5424 (zo_v out) zo_x := by
  refine zm_of (by decide +kernel) (Nat.le_of_ble_eq_true rfl) ?_
  intro p e R s m args below meth c hRR hX hr hxt
  have hR : R.frames = d ∧ R.locals = 64 * d := by rw [hRR]; exact ⟨rfl, rfl⟩
  have hX : zm_X p R s m args meth c RX13 "<init>" cX13_init 2 zk_E V 18 5424 := hX
  unfold zf_X13_init at h
  refine zw_sub (lv' := [(0, .ref a0)]) (List.forall_mem_cons.mpr ⟨rfl, zs_nil⟩) ?_
  refine zw_aload_n hX dX13_init_0 rfl ?_
  refine zw_objInit hX zl_X13_1.1 zl_X13_1.2.1 zl_X13_1.2.2 dX13_init_1 (by omega) (by show 0 + 12 ≤ R.locals; omega) ?_
  refine zw_aload_n hX dX13_init_4 rfl ?_
  refine zw_iconst (v := (4 : Int32)) hX dX13_init_5 (by decide) ?_
  obtain ⟨S1, g, h⟩ := zb_some h
  refine zw_ni (b := 4) hX zk_ai dX13_init_6 (by omega) (by omega) (by decide) g ?_
  obtain ⟨S2, g, h⟩ := zb_some h
  refine zw_putvF hX zl_X13_7 zt_13_1 dX13_init_8 rfl rfl g ?_
  refine zw_aload_n hX dX13_init_11 rfl ?_
  refine zw_iconst (v := (4 : Int32)) hX dX13_init_12 (by decide) ?_
  obtain ⟨S3, g, h⟩ := zb_some h
  refine zw_ni (b := 4) hX zk_ai dX13_init_13 (by omega) (by omega) (by decide) g ?_
  obtain ⟨S4, g, h⟩ := zb_some h
  refine zw_putvF hX zl_X13_13 zt_13_2 dX13_init_15 rfl rfl g ?_
  refine zw_aload_n hX dX13_init_18 rfl ?_
  refine zw_iconst (v := (4 : Int32)) hX dX13_init_19 (by decide) ?_
  obtain ⟨S5, g, h⟩ := zb_some h
  refine zw_ni (b := 4) hX zk_ai dX13_init_20 (by omega) (by omega) (by decide) g ?_
  obtain ⟨S6, g, h⟩ := zb_some h
  refine zw_putvF hX zl_X13_16 zt_13_3 dX13_init_22 rfl rfl g ?_
  refine zw_aload_n hX dX13_init_25 rfl ?_
  refine zw_iconst (v := (4 : Int32)) hX dX13_init_26 (by decide) ?_
  obtain ⟨S7, g, h⟩ := zb_some h
  refine zw_ni (b := 4) hX zk_ai dX13_init_27 (by omega) (by omega) (by decide) g ?_
  obtain ⟨S8, g, h⟩ := zb_some h
  refine zw_putvF hX zl_X13_19 zt_13_4 dX13_init_29 rfl rfl g ?_
  refine zw_aload_n hX dX13_init_32 rfl ?_
  refine zw_iconst (v := (4 : Int32)) hX dX13_init_33 (by decide) ?_
  obtain ⟨S9, g, h⟩ := zb_some h
  refine zw_ni (b := 4) hX zk_ai dX13_init_34 (by omega) (by omega) (by decide) g ?_
  obtain ⟨S10, g, h⟩ := zb_some h
  refine zw_putvF hX zl_X13_22 zt_13_5 dX13_init_36 rfl rfl g ?_
  refine zw_aload_n hX dX13_init_39 rfl ?_
  refine zw_sipush (v := (400 : Int32)) hX dX13_init_40 (by decide) ?_
  obtain ⟨S11, g, h⟩ := zb_some h
  refine zw_ni (b := 400) hX zk_ai dX13_init_43 (by omega) (by omega) (by decide) g ?_
  obtain ⟨S12, g, h⟩ := zb_some h
  refine zw_putvF hX zl_X13_25 zt_13_7 dX13_init_45 rfl rfl g ?_
  refine zw_aload_n hX dX13_init_48 rfl ?_
  refine zw_sipush (v := (400 : Int32)) hX dX13_init_49 (by decide) ?_
  obtain ⟨S13, g, h⟩ := zb_some h
  refine zw_ni (b := 400) hX zk_ai dX13_init_52 (by omega) (by omega) (by decide) g ?_
  obtain ⟨S14, g, h⟩ := zb_some h
  refine zw_putvF hX zl_X13_28 zt_13_8 dX13_init_54 rfl rfl g ?_
  refine zw_aload_n hX dX13_init_57 rfl ?_
  refine zw_sipush (v := (400 : Int32)) hX dX13_init_58 (by decide) ?_
  obtain ⟨S15, g, h⟩ := zb_some h
  refine zw_ni (b := 400) hX zk_ai dX13_init_61 (by omega) (by omega) (by decide) g ?_
  obtain ⟨S16, g, h⟩ := zb_some h
  refine zw_putvF hX zl_X13_31 zt_13_9 dX13_init_63 rfl rfl g ?_
  refine zw_aload_n hX dX13_init_66 rfl ?_
  refine zw_sipush (v := (400 : Int32)) hX dX13_init_67 (by decide) ?_
  obtain ⟨S17, g, h⟩ := zb_some h
  refine zw_nb (b := 400) hX zk_ab dX13_init_70 (by omega) (by omega) (by decide) g ?_
  obtain ⟨S18, g, h⟩ := zb_some h
  refine zw_putvF hX zl_X13_34 zt_13_10 dX13_init_72 rfl rfl g ?_
  refine zw_aload_n hX dX13_init_75 rfl ?_
  refine zw_sipush (v := (400 : Int32)) hX dX13_init_76 (by decide) ?_
  obtain ⟨S19, g, h⟩ := zb_some h
  refine zw_ni (b := 400) hX zk_ai dX13_init_79 (by omega) (by omega) (by decide) g ?_
  obtain ⟨S20, g, h⟩ := zb_some h
  refine zw_putvF hX zl_X13_38 zt_13_11 dX13_init_81 rfl rfl g ?_
  refine zw_aload_n hX dX13_init_84 rfl ?_
  refine zw_bipush (v := (6 : Int32)) hX dX13_init_85 (by decide) ?_
  obtain ⟨S21, g, h⟩ := zb_some h
  refine zw_ni (b := 6) hX zk_ai dX13_init_87 (by omega) (by omega) (by decide) g ?_
  obtain ⟨S22, g, h⟩ := zb_some h
  refine zw_putvF hX zl_X13_41 zt_13_15 dX13_init_89 rfl rfl g ?_
  refine zw_aload_n hX dX13_init_92 rfl ?_
  refine zw_bipush (v := (6 : Int32)) hX dX13_init_93 (by decide) ?_
  obtain ⟨S23, g, h⟩ := zb_some h
  refine zw_ni (b := 6) hX zk_ai dX13_init_95 (by omega) (by omega) (by decide) g ?_
  obtain ⟨S24, g, h⟩ := zb_some h
  refine zw_putvF hX zl_X13_44 zt_13_17 dX13_init_97 rfl rfl g ?_
  refine zw_aload_n hX dX13_init_100 rfl ?_
  refine zw_sipush (v := (256 : Int32)) hX dX13_init_101 (by decide) ?_
  obtain ⟨S25, g, h⟩ := zb_some h
  refine zw_nl (b := 256) hX zk_al dX13_init_104 (by omega) (by omega) (by decide) g ?_
  obtain ⟨S26, g, h⟩ := zb_some h
  refine zw_putvF hX zl_X13_47 zt_13_18 dX13_init_106 rfl rfl g ?_
  refine zw_aload_n hX dX13_init_109 rfl ?_
  refine zw_sipush (v := (1536 : Int32)) hX dX13_init_110 (by decide) ?_
  obtain ⟨S27, g, h⟩ := zb_some h
  refine zw_ni (b := 1536) hX zk_ai dX13_init_113 (by omega) (by omega) (by decide) g ?_
  obtain ⟨S28, g, h⟩ := zb_some h
  refine zw_putvF hX zl_X13_51 zt_13_19 dX13_init_115 rfl rfl g ?_
  refine zw_aload_n hX dX13_init_118 rfl ?_
  refine zw_sipush (v := (400 : Int32)) hX dX13_init_119 (by decide) ?_
  obtain ⟨S29, g, h⟩ := zb_some h
  refine zw_ni (b := 400) hX zk_ai dX13_init_122 (by omega) (by omega) (by decide) g ?_
  obtain ⟨S30, g, h⟩ := zb_some h
  refine zw_putvF hX zl_X13_54 zt_13_20 dX13_init_124 rfl rfl g ?_
  refine zw_aload_n hX dX13_init_127 rfl ?_
  refine zw_sipush (v := (400 : Int32)) hX dX13_init_128 (by decide) ?_
  obtain ⟨S31, g, h⟩ := zb_some h
  refine zw_ni (b := 400) hX zk_ai dX13_init_131 (by omega) (by omega) (by decide) g ?_
  obtain ⟨S32, g, h⟩ := zb_some h
  refine zw_putvF hX zl_X13_57 zt_13_21 dX13_init_133 rfl rfl g ?_
  refine zw_aload_n hX dX13_init_136 rfl ?_
  refine zw_sipush (v := (400 : Int32)) hX dX13_init_137 (by decide) ?_
  obtain ⟨S33, g, h⟩ := zb_some h
  refine zw_ni (b := 400) hX zk_ai dX13_init_140 (by omega) (by omega) (by decide) g ?_
  obtain ⟨S34, g, h⟩ := zb_some h
  refine zw_putvF hX zl_X13_60 zt_13_22 dX13_init_142 rfl rfl g ?_
  refine zw_aload_n hX dX13_init_145 rfl ?_
  refine zw_sipush (v := (400 : Int32)) hX dX13_init_146 (by decide) ?_
  obtain ⟨S35, g, h⟩ := zb_some h
  refine zw_ni (b := 400) hX zk_ai dX13_init_149 (by omega) (by omega) (by decide) g ?_
  obtain ⟨S36, g, h⟩ := zb_some h
  refine zw_putvF hX zl_X13_63 zt_13_23 dX13_init_151 rfl rfl g ?_
  refine zw_iconst (v := (0 : Int32)) hX dX13_init_154 (by decide) ?_
  refine zw_istore_n hX dX13_init_155 (by decide) ?_
  obtain ⟨r, g, h⟩ := zb_some h
  refine zw_sub (lv' := [(0, .ref a0), (1, .int (0 : Int32))]) (List.forall_mem_cons.mpr ⟨rfl, (List.forall_mem_cons.mpr ⟨rfl, zs_nil⟩)⟩) ?_
  refine zt_X13_init_L156 hX hr hR hd (res := r) (out := out) a0 ?_ ?_ N _ _ g
  · intro o ho
    subst ho
    exact Option.some.inj h
  · intro  S39 hx
    subst hx
    try dsimp only at h
    obtain rfl := Option.some.inj h
    exact zw_vret hX hr dX13_init_176 ⟨rfl, rfl⟩
set_option maxHeartbeats 4000000 in
set_option maxRecDepth 100000 in
theorem zt_X13_isFloor {l : Launch} {V : zm_V} {N : Nat} {S : zm_S} {out : (Int32 × zm_S)} {d : Nat} {i0 : Int32} (hd : 1 ≤ d) (h : zf_X13_isFloor N i0 S = some out) : zm_Met l zk_E V yX13_isFloor (.code yX13_isFloor cX13_isFloor 1 (some .boolean)) d [.int i0] S 0 0 (zo_i out) zo_x := by
  refine zm_of (by decide +kernel) (Nat.le_of_ble_eq_true rfl) ?_
  intro p e R s m args below meth c hRR hX hr hxt
  have hR : R.frames = d ∧ R.locals = 64 * d := by rw [hRR]; exact ⟨rfl, rfl⟩
  have hX : zm_X p R s m args meth c RX13 "isFloor" cX13_isFloor 1 zk_E V 0 0 := hX
  unfold zf_X13_isFloor at h
  refine zw_sub (lv' := [(0, .int i0)]) (List.forall_mem_cons.mpr ⟨rfl, zs_nil⟩) ?_
  refine zw_iload_n hX dX13_isFloor_0 rfl ?_
  refine zw_if_lt (tgt := 14) hX dX13_isFloor_1 (by decide) (fun c1 => ?_) (fun c1 => ?_)
  · rw [if_pos c1] at h
    refine zw_iconst (v := (0 : Int32)) hX dX13_isFloor_14 (by decide) ?_
    obtain rfl := Option.some.inj h
    exact zw_iret hX hr dX13_isFloor_15 rfl ⟨rfl, rfl⟩
  · rw [if_neg c1] at h
    refine zw_iload_n hX dX13_isFloor_4 rfl ?_
    refine zw_bipush (v := (60 : Int32)) hX dX13_isFloor_5 (by decide) ?_
    refine zw_icmp_ge (tgt := 14) hX dX13_isFloor_7 (by decide) (fun c7 => ?_) (fun c7 => ?_)
    · rw [if_pos c7] at h
      refine zw_iconst (v := (0 : Int32)) hX dX13_isFloor_14 (by decide) ?_
      obtain rfl := Option.some.inj h
      exact zw_iret hX hr dX13_isFloor_15 rfl ⟨rfl, rfl⟩
    · rw [if_neg c7] at h
      refine zw_iconst (v := (1 : Int32)) hX dX13_isFloor_10 (by decide) ?_
      refine zw_goto (tgt := 15) hX dX13_isFloor_11 (by decide) ?_
      obtain rfl := Option.some.inj h
      exact zw_iret hX hr dX13_isFloor_15 rfl ⟨rfl, rfl⟩
set_option maxHeartbeats 4000000 in
set_option maxRecDepth 100000 in
theorem zt_X13_opens {l : Launch} {V : zm_V} {N : Nat} {S : zm_S} {out : (Int32 × zm_S)} {d : Nat} {a0 : Nat} {i1 : Int32} (hd : 1 ≤ d) (h : zf_X13_opens N a0 i1 S = some out) : zm_Met l zk_E V yX13_opens (.code yX13_opens cX13_opens 2 (some .boolean)) d [.ref a0, .int i1] S 0 0 (zo_i out) zo_x := by
  refine zm_of (by decide +kernel) (Nat.le_of_ble_eq_true rfl) ?_
  intro p e R s m args below meth c hRR hX hr hxt
  have hR : R.frames = d ∧ R.locals = 64 * d := by rw [hRR]; exact ⟨rfl, rfl⟩
  have hX : zm_X p R s m args meth c RX13 "opens" cX13_opens 2 zk_E V 0 0 := hX
  unfold zf_X13_opens at h
  refine zw_sub (lv' := [(0, .ref a0), (1, .int i1)]) (List.forall_mem_cons.mpr ⟨rfl, (List.forall_mem_cons.mpr ⟨rfl, zs_nil⟩)⟩) ?_
  refine zw_iload_n hX dX13_opens_0 rfl ?_
  refine zw_if_lt (tgt := 25) hX dX13_opens_1 (by decide) (fun c1 => ?_) (fun c1 => ?_)
  · rw [if_pos c1] at h
    refine zw_iconst (v := (0 : Int32)) hX dX13_opens_25 (by decide) ?_
    obtain rfl := Option.some.inj h
    exact zw_iret hX hr dX13_opens_26 rfl ⟨rfl, rfl⟩
  · rw [if_neg c1] at h
    refine zw_iload_n hX dX13_opens_4 rfl ?_
    refine zw_aload_n hX dX13_opens_5 rfl ?_
    obtain ⟨v1, g, h⟩ := zb_some h
    refine zw_geti hX zl_X13_66 dX13_opens_6 g ?_
    refine zw_icmp_ge (tgt := 25) hX dX13_opens_9 (by decide) (fun c9 => ?_) (fun c9 => ?_)
    · rw [if_pos c9] at h
      refine zw_iconst (v := (0 : Int32)) hX dX13_opens_25 (by decide) ?_
      obtain rfl := Option.some.inj h
      exact zw_iret hX hr dX13_opens_26 rfl ⟨rfl, rfl⟩
    · rw [if_neg c9] at h
      refine zw_aload_n hX dX13_opens_12 rfl ?_
      obtain ⟨b2, g, h⟩ := zb_some h
      refine zw_getr hX zl_X13_34 dX13_opens_13 g ?_
      refine zw_iload_n hX dX13_opens_16 rfl ?_
      obtain ⟨v3, g, h⟩ := zb_some h
      refine zw_xz hX dX13_opens_17 g ?_
      refine zw_if_eq (tgt := 25) hX dX13_opens_18 (by decide) (fun c18 => ?_) (fun c18 => ?_)
      · rw [if_pos c18] at h
        refine zw_iconst (v := (0 : Int32)) hX dX13_opens_25 (by decide) ?_
        obtain rfl := Option.some.inj h
        exact zw_iret hX hr dX13_opens_26 rfl ⟨rfl, rfl⟩
      · rw [if_neg c18] at h
        refine zw_iconst (v := (1 : Int32)) hX dX13_opens_21 (by decide) ?_
        refine zw_goto (tgt := 26) hX dX13_opens_22 (by decide) ?_
        obtain rfl := Option.some.inj h
        exact zw_iret hX hr dX13_opens_26 rfl ⟨rfl, rfl⟩
set_option maxHeartbeats 4000000 in
set_option maxRecDepth 100000 in
theorem zt_X13_many_J27 {p : Program} {l : Launch} {e : Env} {R : Room} {s : State} {m : MethodId} {args : Array Value} {below : List Frame} {meth : Method} {c : Code} {V : zm_V} {mc ms d rc rs : Nat} (hX : zm_X p R s m args meth c RX13 "many" cX13_many 3 zk_E V mc ms) (hr : meth.sig.returnType = (some .int)) (hR : R.frames = d ∧ R.locals = 64 * d) (hd : 1 ≤ d) {N : Nat} {k : Nat → Int32 → Int32 → zm_S → Option ((Int32 × zm_S) ⊕ ((Int32) × zm_S))} {a0 : Nat} {i2 : Int32} {t0 : Int32} {t1 : Int32} {res : (Int32 × zm_S) ⊕ ((Int32) × zm_S)} {out : (Int32 × zm_S)}   (hf : ∀ o, res = .inl o → o = out) (hk : ∀ (x1 : Int32) (S' : zm_S), res = .inr (x1, S') → zw p l e R s m args below meth c (vx_MQ below (zm_Qc zk_E V (zo_i out)) (zm_XC zk_E V zo_x) args s mc ms (fun q => V.2.2.2.1 ≤ q)) 3 zk_E V mc ms 35 [(1, .int x1)] [] S' rc rs) (hrec : ∀ (i1' : Int32) (i2' : Int32) (S : zm_S), k a0 i1' i2' S = some res → zw p l e R s m args below meth c (vx_MQ below (zm_Qc zk_E V (zo_i out)) (zm_XC zk_E V zo_x) args s mc ms (fun q => V.2.2.2.1 ≤ q)) 3 zk_E V mc ms 4 [(0, .ref a0), (1, .int i1'), (2, .int i2')] [] S rc rs) {S : zm_S} (h : zf_X13_many_J27 N k a0 i2 t0 t1 S = some res) : zw p l e R s m args below meth c (vx_MQ below (zm_Qc zk_E V (zo_i out)) (zm_XC zk_E V zo_x) args s mc ms (fun q => V.2.2.2.1 ≤ q)) 3 zk_E V mc ms 27 [(0, .ref a0), (2, .int i2)] [.int t1, .int t0] S rc rs := by
  unfold zf_X13_many_J27 at h
  refine zw_iadd hX dX13_many_27 ?_
  refine zw_istore_n hX dX13_many_28 (by decide) ?_
  refine zw_iinc (v := (i2 + (1 : Int32))) hX dX13_many_29 rfl rfl (by decide) ?_
  refine zw_goto (tgt := 4) hX dX13_many_32 (by decide) ?_
  refine zw_sub (lv' := [(0, .ref a0), (1, .int (t0 + t1)), (2, .int (i2 + (1 : Int32)))]) (List.forall_mem_cons.mpr ⟨rfl, (List.forall_mem_cons.mpr ⟨rfl, (List.forall_mem_cons.mpr ⟨rfl, zs_nil⟩)⟩)⟩) ?_
  exact hrec _ _ _ h
set_option maxHeartbeats 4000000 in
set_option maxRecDepth 100000 in
theorem zt_X13_many_L4 {p : Program} {l : Launch} {e : Env} {R : Room} {s : State} {m : MethodId} {args : Array Value} {below : List Frame} {meth : Method} {c : Code} {V : zm_V} {mc ms d rc rs : Nat} (hX : zm_X p R s m args meth c RX13 "many" cX13_many 3 zk_E V mc ms) (hr : meth.sig.returnType = (some .int)) (hR : R.frames = d ∧ R.locals = 64 * d) (hd : 1 ≤ d) {N : Nat} {res : (Int32 × zm_S) ⊕ ((Int32) × zm_S)} {out : (Int32 × zm_S)} (a0 : Nat) (hf : ∀ o, res = .inl o → o = out) (hk : ∀ (x1 : Int32) (S' : zm_S), res = .inr (x1, S') → zw p l e R s m args below meth c (vx_MQ below (zm_Qc zk_E V (zo_i out)) (zm_XC zk_E V zo_x) args s mc ms (fun q => V.2.2.2.1 ≤ q)) 3 zk_E V mc ms 35 [(1, .int x1)] [] S' rc rs) : ∀ (n : Nat) (i1 : Int32) (i2 : Int32) (S : zm_S), zf_X13_many_L4 N n a0 i1 i2 S = some res → zw p l e R s m args below meth c (vx_MQ below (zm_Qc zk_E V (zo_i out)) (zm_XC zk_E V zo_x) args s mc ms (fun q => V.2.2.2.1 ≤ q)) 3 zk_E V mc ms 4 [(0, .ref a0), (1, .int i1), (2, .int i2)] [] S rc rs := by
  intro n
  induction n with
  | zero => intro i1 i2 S h; cases h
  | succ n ih =>
    intro i1 i2 S h
    rw [zf_X13_many_L4] at h
    refine zw_iload_n hX dX13_many_4 rfl ?_
    refine zw_aload_n hX dX13_many_5 rfl ?_
    obtain ⟨v1, g, h⟩ := zb_some h
    refine zw_geti hX zl_X13_66 dX13_many_6 g ?_
    refine zw_icmp_ge (tgt := 35) hX dX13_many_9 (by decide) (fun c9 => ?_) (fun c9 => ?_)
    · rw [if_pos c9] at h
      refine zw_sub (lv' := [(1, .int i1)]) (List.forall_mem_cons.mpr ⟨rfl, zs_nil⟩) ?_
      exact hk _ _ (Option.some.inj h).symm
    · rw [if_neg c9] at h
      refine zw_iload_n hX dX13_many_12 rfl ?_
      refine zw_aload_n hX dX13_many_13 rfl ?_
      obtain ⟨b2, g, h⟩ := zb_some h
      refine zw_getr hX zl_X13_34 dX13_many_14 g ?_
      refine zw_iload_n hX dX13_many_17 rfl ?_
      obtain ⟨v3, g, h⟩ := zb_some h
      refine zw_xz hX dX13_many_18 g ?_
      refine zw_if_eq (tgt := 26) hX dX13_many_19 (by decide) (fun c19 => ?_) (fun c19 => ?_)
      · rw [if_pos c19] at h
        refine zw_iconst (v := (0 : Int32)) hX dX13_many_26 (by decide) ?_
        refine zw_sub (lv' := [(0, .ref a0), (2, .int i2)]) (List.forall_mem_cons.mpr ⟨rfl, (List.forall_mem_cons.mpr ⟨rfl, zs_nil⟩)⟩) ?_
        exact zt_X13_many_J27 hX hr hR hd hf hk ih h
      · rw [if_neg c19] at h
        refine zw_iconst (v := (1 : Int32)) hX dX13_many_22 (by decide) ?_
        refine zw_goto (tgt := 27) hX dX13_many_23 (by decide) ?_
        refine zw_sub (lv' := [(0, .ref a0), (2, .int i2)]) (List.forall_mem_cons.mpr ⟨rfl, (List.forall_mem_cons.mpr ⟨rfl, zs_nil⟩)⟩) ?_
        exact zt_X13_many_J27 hX hr hR hd hf hk ih h
set_option maxHeartbeats 4000000 in
set_option maxRecDepth 100000 in
theorem zt_X13_many {l : Launch} {V : zm_V} {N : Nat} {S : zm_S} {out : (Int32 × zm_S)} {d : Nat} {a0 : Nat} (hd : 1 ≤ d) (h : zf_X13_many N a0 S = some out) : zm_Met l zk_E V yX13_many (.code yX13_many cX13_many 3 (some .int)) d [.ref a0] S 0 0 (zo_i out) zo_x := by
  refine zm_of (by decide +kernel) (Nat.le_of_ble_eq_true rfl) ?_
  intro p e R s m args below meth c hRR hX hr hxt
  have hR : R.frames = d ∧ R.locals = 64 * d := by rw [hRR]; exact ⟨rfl, rfl⟩
  have hX : zm_X p R s m args meth c RX13 "many" cX13_many 3 zk_E V 0 0 := hX
  unfold zf_X13_many at h
  refine zw_sub (lv' := [(0, .ref a0)]) (List.forall_mem_cons.mpr ⟨rfl, zs_nil⟩) ?_
  refine zw_iconst (v := (0 : Int32)) hX dX13_many_0 (by decide) ?_
  refine zw_istore_n hX dX13_many_1 (by decide) ?_
  refine zw_iconst (v := (0 : Int32)) hX dX13_many_2 (by decide) ?_
  refine zw_istore_n hX dX13_many_3 (by decide) ?_
  obtain ⟨r, g, h⟩ := zb_some h
  refine zw_sub (lv' := [(0, .ref a0), (1, .int (0 : Int32)), (2, .int (0 : Int32))]) (List.forall_mem_cons.mpr ⟨rfl, (List.forall_mem_cons.mpr ⟨rfl, (List.forall_mem_cons.mpr ⟨rfl, zs_nil⟩)⟩)⟩) ?_
  refine zt_X13_many_L4 hX hr hR hd (res := r) (out := out) a0 ?_ ?_ N _ _ _ g
  · intro o ho
    subst ho
    exact Option.some.inj h
  · intro v5 S4 hx
    subst hx
    try dsimp only at h
    refine zw_iload_n hX dX13_many_35 rfl ?_
    obtain rfl := Option.some.inj h
    exact zw_iret hX hr dX13_many_36 rfl ⟨rfl, rfl⟩
set_option maxHeartbeats 4000000 in
set_option maxRecDepth 100000 in
theorem zt_X13_car {l : Launch} {V : zm_V} {N : Nat} {S : zm_S} {out : (Int32 × zm_S)} {d : Nat} {a0 : Nat} {i1 : Int32} {i2 : Int32} (hd : 1 ≤ d) (h : zf_X13_car N a0 i1 i2 S = some out) : zm_Met l zk_E V yX13_car (.code yX13_car cX13_car 3 (some .int)) d [.ref a0, .int i1, .int i2] S 0 0 (zo_i out) zo_x := by
  refine zm_of (by decide +kernel) (Nat.le_of_ble_eq_true rfl) ?_
  intro p e R s m args below meth c hRR hX hr hxt
  have hR : R.frames = d ∧ R.locals = 64 * d := by rw [hRR]; exact ⟨rfl, rfl⟩
  have hX : zm_X p R s m args meth c RX13 "car" cX13_car 3 zk_E V 0 0 := hX
  unfold zf_X13_car at h
  refine zw_sub (lv' := [(0, .ref a0), (1, .int i1), (2, .int i2)]) (List.forall_mem_cons.mpr ⟨rfl, (List.forall_mem_cons.mpr ⟨rfl, (List.forall_mem_cons.mpr ⟨rfl, zs_nil⟩)⟩)⟩) ?_
  refine zw_aload_n hX dX13_car_0 rfl ?_
  obtain ⟨b1, g, h⟩ := zb_some h
  refine zw_getr hX zl_X13_7 dX13_car_1 g ?_
  refine zw_aload_n hX dX13_car_4 rfl ?_
  obtain ⟨v2, g, h⟩ := zb_some h
  refine zw_geti hX zl_X13_70 dX13_car_5 g ?_
  refine zw_iload_n hX dX13_car_8 rfl ?_
  obtain ⟨S3, g, h⟩ := zb_some h
  refine zw_si hX dX13_car_9 g ?_
  refine zw_aload_n hX dX13_car_10 rfl ?_
  obtain ⟨b4, g, h⟩ := zb_some h
  refine zw_getr hX zl_X13_13 dX13_car_11 g ?_
  refine zw_aload_n hX dX13_car_14 rfl ?_
  obtain ⟨v5, g, h⟩ := zb_some h
  refine zw_geti hX zl_X13_70 dX13_car_15 g ?_
  refine zw_iload_n hX dX13_car_18 rfl ?_
  obtain ⟨S6, g, h⟩ := zb_some h
  refine zw_si hX dX13_car_19 g ?_
  refine zw_aload_n hX dX13_car_20 rfl ?_
  obtain ⟨b7, g, h⟩ := zb_some h
  refine zw_getr hX zl_X13_16 dX13_car_21 g ?_
  refine zw_aload_n hX dX13_car_24 rfl ?_
  obtain ⟨v8, g, h⟩ := zb_some h
  refine zw_geti hX zl_X13_70 dX13_car_25 g ?_
  refine zw_iconst (v := (0 : Int32)) hX dX13_car_28 (by decide) ?_
  obtain ⟨S9, g, h⟩ := zb_some h
  refine zw_si hX dX13_car_29 g ?_
  refine zw_aload_n hX dX13_car_30 rfl ?_
  obtain ⟨b10, g, h⟩ := zb_some h
  refine zw_getr hX zl_X13_19 dX13_car_31 g ?_
  refine zw_aload_n hX dX13_car_34 rfl ?_
  obtain ⟨v11, g, h⟩ := zb_some h
  refine zw_geti hX zl_X13_70 dX13_car_35 g ?_
  refine zw_iconst (v := (0 : Int32)) hX dX13_car_38 (by decide) ?_
  obtain ⟨S12, g, h⟩ := zb_some h
  refine zw_si hX dX13_car_39 g ?_
  refine zw_aload_n hX dX13_car_40 rfl ?_
  obtain ⟨b13, g, h⟩ := zb_some h
  refine zw_getr hX zl_X13_22 dX13_car_41 g ?_
  refine zw_aload_n hX dX13_car_44 rfl ?_
  obtain ⟨v14, g, h⟩ := zb_some h
  refine zw_geti hX zl_X13_70 dX13_car_45 g ?_
  refine zw_bipush (v := (59 : Int32)) hX dX13_car_48 (by decide) ?_
  obtain ⟨S15, g, h⟩ := zb_some h
  refine zw_si hX dX13_car_50 g ?_
  refine zw_aload_n hX dX13_car_51 rfl ?_
  refine zw_dup hX dX13_car_52 rfl ?_
  obtain ⟨v16, g, h⟩ := zb_some h
  refine zw_geti hX zl_X13_70 dX13_car_53 g ?_
  refine zw_iconst (v := (1 : Int32)) hX dX13_car_56 (by decide) ?_
  refine zw_iadd hX dX13_car_57 ?_
  obtain ⟨S17, g, h⟩ := zb_some h
  refine zw_putv hX zl_X13_70 zt_13_0 dX13_car_58 rfl rfl g ?_
  refine zw_aload_n hX dX13_car_61 rfl ?_
  obtain ⟨v18, g, h⟩ := zb_some h
  refine zw_geti hX zl_X13_70 dX13_car_62 g ?_
  refine zw_iconst (v := (1 : Int32)) hX dX13_car_65 (by decide) ?_
  refine zw_isub hX dX13_car_66 ?_
  obtain rfl := Option.some.inj h
  exact zw_iret hX hr dX13_car_67 rfl ⟨rfl, rfl⟩
set_option maxHeartbeats 4000000 in
set_option maxRecDepth 100000 in
theorem zt_X13_call {l : Launch} {V : zm_V} {N : Nat} {S : zm_S} {out : (Int32 × zm_S)} {d : Nat} {a0 : Nat} {i1 : Int32} {i2 : Int32} (hd : 1 ≤ d) (h : zf_X13_call N a0 i1 i2 S = some out) : zm_Met l zk_E V yX13_call (.code yX13_call cX13_call 3 (some .int)) d [.ref a0, .int i1, .int i2] S 0 0 (zo_i out) zo_x := by
  refine zm_of (by decide +kernel) (Nat.le_of_ble_eq_true rfl) ?_
  intro p e R s m args below meth c hRR hX hr hxt
  have hR : R.frames = d ∧ R.locals = 64 * d := by rw [hRR]; exact ⟨rfl, rfl⟩
  have hX : zm_X p R s m args meth c RX13 "call" cX13_call 3 zk_E V 0 0 := hX
  unfold zf_X13_call at h
  refine zw_sub (lv' := [(0, .ref a0), (1, .int i1), (2, .int i2)]) (List.forall_mem_cons.mpr ⟨rfl, (List.forall_mem_cons.mpr ⟨rfl, (List.forall_mem_cons.mpr ⟨rfl, zs_nil⟩)⟩)⟩) ?_
  refine zw_aload_n hX dX13_call_0 rfl ?_
  obtain ⟨b1, g, h⟩ := zb_some h
  refine zw_getr hX zl_X13_25 dX13_call_1 g ?_
  refine zw_aload_n hX dX13_call_4 rfl ?_
  obtain ⟨v2, g, h⟩ := zb_some h
  refine zw_geti hX zl_X13_66 dX13_call_5 g ?_
  refine zw_iload_n hX dX13_call_8 rfl ?_
  obtain ⟨S3, g, h⟩ := zb_some h
  refine zw_si hX dX13_call_9 g ?_
  refine zw_aload_n hX dX13_call_10 rfl ?_
  obtain ⟨b4, g, h⟩ := zb_some h
  refine zw_getr hX zl_X13_28 dX13_call_11 g ?_
  refine zw_aload_n hX dX13_call_14 rfl ?_
  obtain ⟨v5, g, h⟩ := zb_some h
  refine zw_geti hX zl_X13_66 dX13_call_15 g ?_
  refine zw_iload_n hX dX13_call_18 rfl ?_
  obtain ⟨S6, g, h⟩ := zb_some h
  refine zw_si hX dX13_call_19 g ?_
  refine zw_aload_n hX dX13_call_20 rfl ?_
  obtain ⟨b7, g, h⟩ := zb_some h
  refine zw_getr hX zl_X13_31 dX13_call_21 g ?_
  refine zw_aload_n hX dX13_call_24 rfl ?_
  obtain ⟨v8, g, h⟩ := zb_some h
  refine zw_geti hX zl_X13_66 dX13_call_25 g ?_
  refine zw_aload_n hX dX13_call_28 rfl ?_
  obtain ⟨v9, g, h⟩ := zb_some h
  refine zw_geti hX zl_X13_73 dX13_call_29 g ?_
  obtain ⟨S10, g, h⟩ := zb_some h
  refine zw_si hX dX13_call_32 g ?_
  refine zw_aload_n hX dX13_call_33 rfl ?_
  obtain ⟨b11, g, h⟩ := zb_some h
  refine zw_getr hX zl_X13_34 dX13_call_34 g ?_
  refine zw_aload_n hX dX13_call_37 rfl ?_
  obtain ⟨v12, g, h⟩ := zb_some h
  refine zw_geti hX zl_X13_66 dX13_call_38 g ?_
  refine zw_iconst (v := (1 : Int32)) hX dX13_call_41 (by decide) ?_
  obtain ⟨S13, g, h⟩ := zb_some h
  refine zw_sz hX dX13_call_42 g ?_
  refine zw_aload_n hX dX13_call_43 rfl ?_
  obtain ⟨b14, g, h⟩ := zb_some h
  refine zw_getr hX zl_X13_38 dX13_call_44 g ?_
  refine zw_aload_n hX dX13_call_47 rfl ?_
  obtain ⟨v15, g, h⟩ := zb_some h
  refine zw_geti hX zl_X13_66 dX13_call_48 g ?_
  refine zw_iconst (v := (-1 : Int32)) hX dX13_call_51 (by decide) ?_
  obtain ⟨S16, g, h⟩ := zb_some h
  refine zw_si hX dX13_call_52 g ?_
  refine zw_aload_n hX dX13_call_53 rfl ?_
  refine zw_dup hX dX13_call_54 rfl ?_
  obtain ⟨v17, g, h⟩ := zb_some h
  refine zw_geti hX zl_X13_66 dX13_call_55 g ?_
  refine zw_iconst (v := (1 : Int32)) hX dX13_call_58 (by decide) ?_
  refine zw_iadd hX dX13_call_59 ?_
  obtain ⟨S18, g, h⟩ := zb_some h
  refine zw_putv hX zl_X13_66 zt_13_6 dX13_call_60 rfl rfl g ?_
  refine zw_aload_n hX dX13_call_63 rfl ?_
  obtain ⟨v19, g, h⟩ := zb_some h
  refine zw_geti hX zl_X13_66 dX13_call_64 g ?_
  refine zw_iconst (v := (1 : Int32)) hX dX13_call_67 (by decide) ?_
  refine zw_isub hX dX13_call_68 ?_
  obtain rfl := Option.some.inj h
  exact zw_iret hX hr dX13_call_69 rfl ⟨rfl, rfl⟩
set_option maxHeartbeats 4000000 in
set_option maxRecDepth 100000 in
theorem zt_X13_reaches {l : Launch} {V : zm_V} {N : Nat} {S : zm_S} {out : (Int32 × zm_S)} {d : Nat} {a0 : Nat} {i1 : Int32} {i2 : Int32} (hd : 1 ≤ d) (h : zf_X13_reaches N a0 i1 i2 S = some out) : zm_Met l zk_E V yX13_reaches (.code yX13_reaches cX13_reaches 3 (some .boolean)) d [.ref a0, .int i1, .int i2] S 0 0 (zo_i out) zo_x := by
  refine zm_of (by decide +kernel) (Nat.le_of_ble_eq_true rfl) ?_
  intro p e R s m args below meth c hRR hX hr hxt
  have hR : R.frames = d ∧ R.locals = 64 * d := by rw [hRR]; exact ⟨rfl, rfl⟩
  have hX : zm_X p R s m args meth c RX13 "reaches" cX13_reaches 3 zk_E V 0 0 := hX
  unfold zf_X13_reaches at h
  refine zw_sub (lv' := [(0, .ref a0), (1, .int i1), (2, .int i2)]) (List.forall_mem_cons.mpr ⟨rfl, (List.forall_mem_cons.mpr ⟨rfl, (List.forall_mem_cons.mpr ⟨rfl, zs_nil⟩)⟩)⟩) ?_
  refine zw_aload_n hX dX13_reaches_0 rfl ?_
  obtain ⟨b1, g, h⟩ := zb_some h
  refine zw_getr hX zl_X13_25 dX13_reaches_1 g ?_
  refine zw_iload_n hX dX13_reaches_4 rfl ?_
  obtain ⟨v2, g, h⟩ := zb_some h
  refine zw_xi hX dX13_reaches_5 g ?_
  refine zw_aload_n hX dX13_reaches_6 rfl ?_
  obtain ⟨b3, g, h⟩ := zb_some h
  refine zw_getr hX zl_X13_19 dX13_reaches_7 g ?_
  refine zw_iload_n hX dX13_reaches_10 rfl ?_
  obtain ⟨v4, g, h⟩ := zb_some h
  refine zw_xi hX dX13_reaches_11 g ?_
  refine zw_icmp_lt (tgt := 64) hX dX13_reaches_12 (by decide) (fun c12 => ?_) (fun c12 => ?_)
  · rw [if_pos c12] at h
    refine zw_iconst (v := (0 : Int32)) hX dX13_reaches_64 (by decide) ?_
    obtain rfl := Option.some.inj h
    exact zw_iret hX hr dX13_reaches_65 rfl ⟨rfl, rfl⟩
  · rw [if_neg c12] at h
    refine zw_aload_n hX dX13_reaches_15 rfl ?_
    obtain ⟨b5, g, h⟩ := zb_some h
    refine zw_getr hX zl_X13_25 dX13_reaches_16 g ?_
    refine zw_iload_n hX dX13_reaches_19 rfl ?_
    obtain ⟨v6, g, h⟩ := zb_some h
    refine zw_xi hX dX13_reaches_20 g ?_
    refine zw_aload_n hX dX13_reaches_21 rfl ?_
    obtain ⟨b7, g, h⟩ := zb_some h
    refine zw_getr hX zl_X13_22 dX13_reaches_22 g ?_
    refine zw_iload_n hX dX13_reaches_25 rfl ?_
    obtain ⟨v8, g, h⟩ := zb_some h
    refine zw_xi hX dX13_reaches_26 g ?_
    refine zw_icmp_gt (tgt := 64) hX dX13_reaches_27 (by decide) (fun c27 => ?_) (fun c27 => ?_)
    · rw [if_pos c27] at h
      refine zw_iconst (v := (0 : Int32)) hX dX13_reaches_64 (by decide) ?_
      obtain rfl := Option.some.inj h
      exact zw_iret hX hr dX13_reaches_65 rfl ⟨rfl, rfl⟩
    · rw [if_neg c27] at h
      refine zw_aload_n hX dX13_reaches_30 rfl ?_
      obtain ⟨b9, g, h⟩ := zb_some h
      refine zw_getr hX zl_X13_28 dX13_reaches_31 g ?_
      refine zw_iload_n hX dX13_reaches_34 rfl ?_
      obtain ⟨v10, g, h⟩ := zb_some h
      refine zw_xi hX dX13_reaches_35 g ?_
      refine zw_aload_n hX dX13_reaches_36 rfl ?_
      obtain ⟨b11, g, h⟩ := zb_some h
      refine zw_getr hX zl_X13_19 dX13_reaches_37 g ?_
      refine zw_iload_n hX dX13_reaches_40 rfl ?_
      obtain ⟨v12, g, h⟩ := zb_some h
      refine zw_xi hX dX13_reaches_41 g ?_
      refine zw_icmp_lt (tgt := 64) hX dX13_reaches_42 (by decide) (fun c42 => ?_) (fun c42 => ?_)
      · rw [if_pos c42] at h
        refine zw_iconst (v := (0 : Int32)) hX dX13_reaches_64 (by decide) ?_
        obtain rfl := Option.some.inj h
        exact zw_iret hX hr dX13_reaches_65 rfl ⟨rfl, rfl⟩
      · rw [if_neg c42] at h
        refine zw_aload_n hX dX13_reaches_45 rfl ?_
        obtain ⟨b13, g, h⟩ := zb_some h
        refine zw_getr hX zl_X13_28 dX13_reaches_46 g ?_
        refine zw_iload_n hX dX13_reaches_49 rfl ?_
        obtain ⟨v14, g, h⟩ := zb_some h
        refine zw_xi hX dX13_reaches_50 g ?_
        refine zw_aload_n hX dX13_reaches_51 rfl ?_
        obtain ⟨b15, g, h⟩ := zb_some h
        refine zw_getr hX zl_X13_22 dX13_reaches_52 g ?_
        refine zw_iload_n hX dX13_reaches_55 rfl ?_
        obtain ⟨v16, g, h⟩ := zb_some h
        refine zw_xi hX dX13_reaches_56 g ?_
        refine zw_icmp_gt (tgt := 64) hX dX13_reaches_57 (by decide) (fun c57 => ?_) (fun c57 => ?_)
        · rw [if_pos c57] at h
          refine zw_iconst (v := (0 : Int32)) hX dX13_reaches_64 (by decide) ?_
          obtain rfl := Option.some.inj h
          exact zw_iret hX hr dX13_reaches_65 rfl ⟨rfl, rfl⟩
        · rw [if_neg c57] at h
          refine zw_iconst (v := (1 : Int32)) hX dX13_reaches_60 (by decide) ?_
          refine zw_goto (tgt := 65) hX dX13_reaches_61 (by decide) ?_
          obtain rfl := Option.some.inj h
          exact zw_iret hX hr dX13_reaches_65 rfl ⟨rfl, rfl⟩
set_option maxHeartbeats 4000000 in
set_option maxRecDepth 100000 in
theorem zt_X13_begin_J70 {p : Program} {l : Launch} {e : Env} {R : Room} {s : State} {m : MethodId} {args : Array Value} {below : List Frame} {meth : Method} {c : Code} {V : zm_V} {mc ms d rc rs : Nat} (hX : zm_X p R s m args meth c RX13 "begin" cX13_begin 5 zk_E V mc ms) (hr : meth.sig.returnType = (some .boolean)) (hR : R.frames = d ∧ R.locals = 64 * d) (hd : 2 ≤ d) {N : Nat} {k : Nat → Int32 → Int32 → Int32 → Int32 → zm_S → Option ((Int32 × zm_S) ⊕ ((Int32) × zm_S))} {a0 : Nat} {i1 : Int32} {i2 : Int32} {i4 : Int32} {res : (Int32 × zm_S) ⊕ ((Int32) × zm_S)} {out : (Int32 × zm_S)}   (hf : ∀ o, res = .inl o → o = out) (hk : ∀ (x3 : Int32) (S' : zm_S), res = .inr (x3, S') → zw p l e R s m args below meth c (vx_MQ below (zm_Qc zk_E V (zo_i out)) (zm_XC zk_E V zo_x) args s mc ms (fun q => V.2.2.2.1 ≤ q)) 5 zk_E V mc ms 78 [(0, .ref a0), (1, .int i1), (2, .int i2), (3, .int x3)] [] S' rc rs) (hrec : ∀ (i3' : Int32) (i4' : Int32) (S : zm_S), k a0 i1 i2 i3' i4' S = some res → zw p l e R s m args below meth c (vx_MQ below (zm_Qc zk_E V (zo_i out)) (zm_XC zk_E V zo_x) args s mc ms (fun q => V.2.2.2.1 ≤ q)) 5 zk_E V mc ms 22 [(0, .ref a0), (1, .int i1), (2, .int i2), (3, .int i3'), (4, .int i4')] [] S rc rs) {S : zm_S} (h : zf_X13_begin_J70 N k a0 i1 i2 i4 S = some res) : zw p l e R s m args below meth c (vx_MQ below (zm_Qc zk_E V (zo_i out)) (zm_XC zk_E V zo_x) args s mc ms (fun q => V.2.2.2.1 ≤ q)) 5 zk_E V mc ms 70 [(0, .ref a0), (1, .int i1), (2, .int i2), (4, .int i4)] [] S rc rs := by
  unfold zf_X13_begin_J70 at h
  refine zw_iconst (v := (0 : Int32)) hX dX13_begin_70 (by decide) ?_
  refine zw_istore_n hX dX13_begin_71 (by decide) ?_
  refine zw_iinc (v := (i4 + (1 : Int32))) hX dX13_begin_72 rfl rfl (by decide) ?_
  refine zw_goto (tgt := 22) hX dX13_begin_75 (by decide) ?_
  refine zw_sub (lv' := [(0, .ref a0), (1, .int i1), (2, .int i2), (3, .int (0 : Int32)), (4, .int (i4 + (1 : Int32)))]) (List.forall_mem_cons.mpr ⟨rfl, (List.forall_mem_cons.mpr ⟨rfl, (List.forall_mem_cons.mpr ⟨rfl, (List.forall_mem_cons.mpr ⟨rfl, (List.forall_mem_cons.mpr ⟨rfl, zs_nil⟩)⟩)⟩)⟩)⟩) ?_
  exact hrec _ _ _ h
set_option maxHeartbeats 4000000 in
set_option maxRecDepth 100000 in
theorem zt_X13_begin_J66 {p : Program} {l : Launch} {e : Env} {R : Room} {s : State} {m : MethodId} {args : Array Value} {below : List Frame} {meth : Method} {c : Code} {V : zm_V} {mc ms d rc rs : Nat} (hX : zm_X p R s m args meth c RX13 "begin" cX13_begin 5 zk_E V mc ms) (hr : meth.sig.returnType = (some .boolean)) (hR : R.frames = d ∧ R.locals = 64 * d) (hd : 2 ≤ d) {N : Nat} {k : Nat → Int32 → Int32 → Int32 → Int32 → zm_S → Option ((Int32 × zm_S) ⊕ ((Int32) × zm_S))} {a0 : Nat} {i1 : Int32} {i2 : Int32} {i4 : Int32} {res : (Int32 × zm_S) ⊕ ((Int32) × zm_S)} {out : (Int32 × zm_S)}   (hf : ∀ o, res = .inl o → o = out) (hk : ∀ (x3 : Int32) (S' : zm_S), res = .inr (x3, S') → zw p l e R s m args below meth c (vx_MQ below (zm_Qc zk_E V (zo_i out)) (zm_XC zk_E V zo_x) args s mc ms (fun q => V.2.2.2.1 ≤ q)) 5 zk_E V mc ms 78 [(0, .ref a0), (1, .int i1), (2, .int i2), (3, .int x3)] [] S' rc rs) (hrec : ∀ (i3' : Int32) (i4' : Int32) (S : zm_S), k a0 i1 i2 i3' i4' S = some res → zw p l e R s m args below meth c (vx_MQ below (zm_Qc zk_E V (zo_i out)) (zm_XC zk_E V zo_x) args s mc ms (fun q => V.2.2.2.1 ≤ q)) 5 zk_E V mc ms 22 [(0, .ref a0), (1, .int i1), (2, .int i2), (3, .int i3'), (4, .int i4')] [] S rc rs) {S : zm_S} (h : zf_X13_begin_J66 N k a0 i1 i2 i4 S = some res) : zw p l e R s m args below meth c (vx_MQ below (zm_Qc zk_E V (zo_i out)) (zm_XC zk_E V zo_x) args s mc ms (fun q => V.2.2.2.1 ≤ q)) 5 zk_E V mc ms 66 [(0, .ref a0), (1, .int i1), (2, .int i2), (4, .int i4)] [] S rc rs := by
  unfold zf_X13_begin_J66 at h
  refine zw_iconst (v := (1 : Int32)) hX dX13_begin_66 (by decide) ?_
  refine zw_goto (tgt := 71) hX dX13_begin_67 (by decide) ?_
  refine zw_istore_n hX dX13_begin_71 (by decide) ?_
  refine zw_iinc (v := (i4 + (1 : Int32))) hX dX13_begin_72 rfl rfl (by decide) ?_
  refine zw_goto (tgt := 22) hX dX13_begin_75 (by decide) ?_
  refine zw_sub (lv' := [(0, .ref a0), (1, .int i1), (2, .int i2), (3, .int (1 : Int32)), (4, .int (i4 + (1 : Int32)))]) (List.forall_mem_cons.mpr ⟨rfl, (List.forall_mem_cons.mpr ⟨rfl, (List.forall_mem_cons.mpr ⟨rfl, (List.forall_mem_cons.mpr ⟨rfl, (List.forall_mem_cons.mpr ⟨rfl, zs_nil⟩)⟩)⟩)⟩)⟩) ?_
  exact hrec _ _ _ h
set_option maxHeartbeats 4000000 in
set_option maxRecDepth 100000 in
theorem zt_X13_begin_L22 {p : Program} {l : Launch} {e : Env} {R : Room} {s : State} {m : MethodId} {args : Array Value} {below : List Frame} {meth : Method} {c : Code} {V : zm_V} {mc ms d rc rs : Nat} (hX : zm_X p R s m args meth c RX13 "begin" cX13_begin 5 zk_E V mc ms) (hr : meth.sig.returnType = (some .boolean)) (hR : R.frames = d ∧ R.locals = 64 * d) (hd : 2 ≤ d) {N : Nat} {res : (Int32 × zm_S) ⊕ ((Int32) × zm_S)} {out : (Int32 × zm_S)} (a0 : Nat) (i1 : Int32) (i2 : Int32) (hf : ∀ o, res = .inl o → o = out) (hk : ∀ (x3 : Int32) (S' : zm_S), res = .inr (x3, S') → zw p l e R s m args below meth c (vx_MQ below (zm_Qc zk_E V (zo_i out)) (zm_XC zk_E V zo_x) args s mc ms (fun q => V.2.2.2.1 ≤ q)) 5 zk_E V mc ms 78 [(0, .ref a0), (1, .int i1), (2, .int i2), (3, .int x3)] [] S' rc rs) : ∀ (n : Nat) (i3 : Int32) (i4 : Int32) (S : zm_S), zf_X13_begin_L22 N n a0 i1 i2 i3 i4 S = some res → zw p l e R s m args below meth c (vx_MQ below (zm_Qc zk_E V (zo_i out)) (zm_XC zk_E V zo_x) args s mc ms (fun q => V.2.2.2.1 ≤ q)) 5 zk_E V mc ms 22 [(0, .ref a0), (1, .int i1), (2, .int i2), (3, .int i3), (4, .int i4)] [] S rc rs := by
  intro n
  induction n with
  | zero => intro i3 i4 S h; cases h
  | succ n ih =>
    intro i3 i4 S h
    rw [zf_X13_begin_L22] at h
    refine zw_iload hX dX13_begin_22 rfl ?_
    refine zw_aload_n hX dX13_begin_24 rfl ?_
    obtain ⟨v1, g, h⟩ := zb_some h
    refine zw_geti hX zl_X13_66 dX13_begin_25 g ?_
    refine zw_icmp_ge (tgt := 78) hX dX13_begin_28 (by decide) (fun c28 => ?_) (fun c28 => ?_)
    · rw [if_pos c28] at h
      refine zw_sub (lv' := [(0, .ref a0), (1, .int i1), (2, .int i2), (3, .int i3)]) (List.forall_mem_cons.mpr ⟨rfl, (List.forall_mem_cons.mpr ⟨rfl, (List.forall_mem_cons.mpr ⟨rfl, (List.forall_mem_cons.mpr ⟨rfl, zs_nil⟩)⟩)⟩)⟩) ?_
      exact hk _ _ (Option.some.inj h).symm
    · rw [if_neg c28] at h
      refine zw_iload_n hX dX13_begin_31 rfl ?_
      refine zw_if_eq (tgt := 70) hX dX13_begin_32 (by decide) (fun c32 => ?_) (fun c32 => ?_)
      · rw [if_pos c32] at h
        refine zw_sub (lv' := [(0, .ref a0), (1, .int i1), (2, .int i2), (4, .int i4)]) (List.forall_mem_cons.mpr ⟨rfl, (List.forall_mem_cons.mpr ⟨rfl, (List.forall_mem_cons.mpr ⟨rfl, (List.forall_mem_cons.mpr ⟨rfl, zs_nil⟩)⟩)⟩)⟩) ?_
        exact zt_X13_begin_J70 hX hr hR hd hf hk ih h
      · rw [if_neg c32] at h
        refine zw_iload_n hX dX13_begin_35 rfl ?_
        refine zw_if_lt (tgt := 66) hX dX13_begin_36 (by decide) (fun c36 => ?_) (fun c36 => ?_)
        · rw [if_pos c36] at h
          refine zw_sub (lv' := [(0, .ref a0), (1, .int i1), (2, .int i2), (4, .int i4)]) (List.forall_mem_cons.mpr ⟨rfl, (List.forall_mem_cons.mpr ⟨rfl, (List.forall_mem_cons.mpr ⟨rfl, (List.forall_mem_cons.mpr ⟨rfl, zs_nil⟩)⟩)⟩)⟩) ?_
          exact zt_X13_begin_J66 hX hr hR hd hf hk ih h
        · rw [if_neg c36] at h
          refine zw_iload hX dX13_begin_39 rfl ?_
          refine zw_iload_n hX dX13_begin_41 rfl ?_
          refine zw_icmp_eq (tgt := 66) hX dX13_begin_42 (by decide) (fun c42 => ?_) (fun c42 => ?_)
          · rw [if_pos c42] at h
            refine zw_sub (lv' := [(0, .ref a0), (1, .int i1), (2, .int i2), (4, .int i4)]) (List.forall_mem_cons.mpr ⟨rfl, (List.forall_mem_cons.mpr ⟨rfl, (List.forall_mem_cons.mpr ⟨rfl, (List.forall_mem_cons.mpr ⟨rfl, zs_nil⟩)⟩)⟩)⟩) ?_
            exact zt_X13_begin_J66 hX hr hR hd hf hk ih h
          · rw [if_neg c42] at h
            refine zw_aload_n hX dX13_begin_45 rfl ?_
            obtain ⟨b2, g, h⟩ := zb_some h
            refine zw_getr hX zl_X13_34 dX13_begin_46 g ?_
            refine zw_iload hX dX13_begin_49 rfl ?_
            obtain ⟨v3, g, h⟩ := zb_some h
            refine zw_xz hX dX13_begin_51 g ?_
            refine zw_if_eq (tgt := 66) hX dX13_begin_52 (by decide) (fun c52 => ?_) (fun c52 => ?_)
            · rw [if_pos c52] at h
              refine zw_sub (lv' := [(0, .ref a0), (1, .int i1), (2, .int i2), (4, .int i4)]) (List.forall_mem_cons.mpr ⟨rfl, (List.forall_mem_cons.mpr ⟨rfl, (List.forall_mem_cons.mpr ⟨rfl, (List.forall_mem_cons.mpr ⟨rfl, zs_nil⟩)⟩)⟩)⟩) ?_
              exact zt_X13_begin_J66 hX hr hR hd hf hk ih h
            · rw [if_neg c52] at h
              refine zw_aload_n hX dX13_begin_55 rfl ?_
              obtain ⟨b4, g, h⟩ := zb_some h
              refine zw_getr hX zl_X13_38 dX13_begin_56 g ?_
              refine zw_iload hX dX13_begin_59 rfl ?_
              obtain ⟨v5, g, h⟩ := zb_some h
              refine zw_xi hX dX13_begin_61 g ?_
              refine zw_iload_n hX dX13_begin_62 rfl ?_
              refine zw_icmp_eq (tgt := 70) hX dX13_begin_63 (by decide) (fun c63 => ?_) (fun c63 => ?_)
              · rw [if_pos c63] at h
                refine zw_sub (lv' := [(0, .ref a0), (1, .int i1), (2, .int i2), (4, .int i4)]) (List.forall_mem_cons.mpr ⟨rfl, (List.forall_mem_cons.mpr ⟨rfl, (List.forall_mem_cons.mpr ⟨rfl, (List.forall_mem_cons.mpr ⟨rfl, zs_nil⟩)⟩)⟩)⟩) ?_
                exact zt_X13_begin_J70 hX hr hR hd hf hk ih h
              · rw [if_neg c63] at h
                refine zw_sub (lv' := [(0, .ref a0), (1, .int i1), (2, .int i2), (4, .int i4)]) (List.forall_mem_cons.mpr ⟨rfl, (List.forall_mem_cons.mpr ⟨rfl, (List.forall_mem_cons.mpr ⟨rfl, (List.forall_mem_cons.mpr ⟨rfl, zs_nil⟩)⟩)⟩)⟩) ?_
                exact zt_X13_begin_J66 hX hr hR hd hf hk ih h
set_option maxHeartbeats 4000000 in
set_option maxRecDepth 100000 in
theorem zt_X13_begin_J18 {p : Program} {l : Launch} {e : Env} {R : Room} {s : State} {m : MethodId} {args : Array Value} {below : List Frame} {meth : Method} {c : Code} {V : zm_V} {mc ms d rc rs : Nat} (hX : zm_X p R s m args meth c RX13 "begin" cX13_begin 5 zk_E V mc ms) (hr : meth.sig.returnType = (some .boolean)) (hR : R.frames = d ∧ R.locals = 64 * d) (hd : 2 ≤ d) {N : Nat} {a0 : Nat} {i1 : Int32} {i2 : Int32} {t0 : Int32} {out : (Int32 × zm_S)} {S : zm_S} (h : zf_X13_begin_J18 N a0 i1 i2 t0 S = some out) : zw p l e R s m args below meth c (vx_MQ below (zm_Qc zk_E V (zo_i out)) (zm_XC zk_E V zo_x) args s mc ms (fun q => V.2.2.2.1 ≤ q)) 5 zk_E V mc ms 18 [(0, .ref a0), (1, .int i1), (2, .int i2)] [.int t0] S rc rs := by
  unfold zf_X13_begin_J18 at h
  refine zw_istore_n hX dX13_begin_18 (by decide) ?_
  refine zw_iconst (v := (0 : Int32)) hX dX13_begin_19 (by decide) ?_
  refine zw_istore hX dX13_begin_20 (by decide) ?_
  obtain ⟨r, g, h⟩ := zb_some h
  refine zw_sub (lv' := [(0, .ref a0), (1, .int i1), (2, .int i2), (3, .int t0), (4, .int (0 : Int32))]) (List.forall_mem_cons.mpr ⟨rfl, (List.forall_mem_cons.mpr ⟨rfl, (List.forall_mem_cons.mpr ⟨rfl, (List.forall_mem_cons.mpr ⟨rfl, (List.forall_mem_cons.mpr ⟨rfl, zs_nil⟩)⟩)⟩)⟩)⟩) ?_
  refine zt_X13_begin_L22 hX hr hR hd (res := r) (out := out) a0 i1 i2 ?_ ?_ N _ _ _ g
  · intro o ho
    subst ho
    exact Option.some.inj h
  · intro v7 S6 hx
    subst hx
    try dsimp only at h
    refine zw_aload_n hX dX13_begin_78 rfl ?_
    obtain ⟨b8, g, h⟩ := zb_some h
    refine zw_getr hX zl_X13_38 dX13_begin_79 g ?_
    refine zw_iload_n hX dX13_begin_82 rfl ?_
    refine zw_iload_n hX dX13_begin_83 rfl ?_
    refine zw_if_eq (tgt := 91) hX dX13_begin_84 (by decide) (fun c84 => ?_) (fun c84 => ?_)
    · rw [if_pos c84] at h
      refine zw_aload_n hX dX13_begin_91 rfl ?_
      obtain ⟨b9, g, h⟩ := zb_some h
      refine zw_getr hX zl_X13_38 dX13_begin_92 g ?_
      refine zw_iload_n hX dX13_begin_95 rfl ?_
      obtain ⟨v10, g, h⟩ := zb_some h
      refine zw_xi hX dX13_begin_96 g ?_
      obtain ⟨S11, g, h⟩ := zb_some h
      refine zw_si hX dX13_begin_97 g ?_
      refine zw_iload_n hX dX13_begin_98 rfl ?_
      by_cases cz : v7 = 0 ∨ v7 = 1
      · rw [if_pos cz] at h
        obtain rfl := Option.some.inj h
        exact zw_iret hX hr dX13_begin_99 (zn_z cz) ⟨rfl, rfl⟩
      · rw [if_neg cz] at h
        cases h
    · rw [if_neg c84] at h
      refine zw_iload_n hX dX13_begin_87 rfl ?_
      refine zw_goto (tgt := 97) hX dX13_begin_88 (by decide) ?_
      obtain ⟨S12, g, h⟩ := zb_some h
      refine zw_si hX dX13_begin_97 g ?_
      refine zw_iload_n hX dX13_begin_98 rfl ?_
      by_cases cz : v7 = 0 ∨ v7 = 1
      · rw [if_pos cz] at h
        obtain rfl := Option.some.inj h
        exact zw_iret hX hr dX13_begin_99 (zn_z cz) ⟨rfl, rfl⟩
      · rw [if_neg cz] at h
        cases h
set_option maxHeartbeats 4000000 in
set_option maxRecDepth 100000 in
theorem zt_X13_begin_J13 {p : Program} {l : Launch} {e : Env} {R : Room} {s : State} {m : MethodId} {args : Array Value} {below : List Frame} {meth : Method} {c : Code} {V : zm_V} {mc ms d rc rs : Nat} (hX : zm_X p R s m args meth c RX13 "begin" cX13_begin 5 zk_E V mc ms) (hr : meth.sig.returnType = (some .boolean)) (hR : R.frames = d ∧ R.locals = 64 * d) (hd : 2 ≤ d) {N : Nat} {a0 : Nat} {i1 : Int32} {i2 : Int32} {out : (Int32 × zm_S)} {S : zm_S} (h : zf_X13_begin_J13 N a0 i1 i2 S = some out) : zw p l e R s m args below meth c (vx_MQ below (zm_Qc zk_E V (zo_i out)) (zm_XC zk_E V zo_x) args s mc ms (fun q => V.2.2.2.1 ≤ q)) 5 zk_E V mc ms 13 [(0, .ref a0), (1, .int i1), (2, .int i2)] [] S rc rs := by
  unfold zf_X13_begin_J13 at h
  refine zw_iconst (v := (1 : Int32)) hX dX13_begin_13 (by decide) ?_
  refine zw_goto (tgt := 18) hX dX13_begin_14 (by decide) ?_
  refine zw_sub (lv' := [(0, .ref a0), (1, .int i1), (2, .int i2)]) (List.forall_mem_cons.mpr ⟨rfl, (List.forall_mem_cons.mpr ⟨rfl, (List.forall_mem_cons.mpr ⟨rfl, zs_nil⟩)⟩)⟩) ?_
  exact zt_X13_begin_J18 hX hr hR hd h
set_option maxHeartbeats 4000000 in
set_option maxRecDepth 100000 in
theorem zt_X13_begin {l : Launch} {V : zm_V} {N : Nat} {S : zm_S} {out : (Int32 × zm_S)} {d : Nat} {a0 : Nat} {i1 : Int32} {i2 : Int32} (hd : 2 ≤ d) (h : zf_X13_begin N a0 i1 i2 S = some out) : zm_Met l zk_E V yX13_begin (.code yX13_begin cX13_begin 5 (some .boolean)) d [.ref a0, .int i1, .int i2] S 0 0 (zo_i out) zo_x := by
  refine zm_of (by decide +kernel) (Nat.le_of_ble_eq_true rfl) ?_
  intro p e R s m args below meth c hRR hX hr hxt
  have hR : R.frames = d ∧ R.locals = 64 * d := by rw [hRR]; exact ⟨rfl, rfl⟩
  have hX : zm_X p R s m args meth c RX13 "begin" cX13_begin 5 zk_E V 0 0 := hX
  unfold zf_X13_begin at h
  refine zw_sub (lv' := [(0, .ref a0), (1, .int i1), (2, .int i2)]) (List.forall_mem_cons.mpr ⟨rfl, (List.forall_mem_cons.mpr ⟨rfl, (List.forall_mem_cons.mpr ⟨rfl, zs_nil⟩)⟩)⟩) ?_
  refine zw_iload_n hX dX13_begin_0 rfl ?_
  refine zw_if_lt (tgt := 13) hX dX13_begin_1 (by decide) (fun c1 => ?_) (fun c1 => ?_)
  · rw [if_pos c1] at h
    refine zw_sub (lv' := [(0, .ref a0), (1, .int i1), (2, .int i2)]) (List.forall_mem_cons.mpr ⟨rfl, (List.forall_mem_cons.mpr ⟨rfl, (List.forall_mem_cons.mpr ⟨rfl, zs_nil⟩)⟩)⟩) ?_
    exact zt_X13_begin_J13 hX hr hR hd h
  · rw [if_neg c1] at h
    refine zw_aload_n hX dX13_begin_4 rfl ?_
    refine zw_iload_n hX dX13_begin_5 rfl ?_
    refine zw_iload_n hX dX13_begin_6 rfl ?_
    obtain ⟨_, gi, h⟩ := zb_some h
    obtain ⟨r14, g, h⟩ := zb_some h
    refine zc_Vi (as := [.int i2, .int i1]) hX gi (zt_X13_reaches (d := d - 1) (by omega) g) zl_X13_76 rfl dX13_begin_7 ⟨rfl, rfl, Nat.le_of_ble_eq_true rfl⟩ ⟨by omega, by omega⟩ ?_
    refine zw_if_eq (tgt := 17) hX dX13_begin_10 (by decide) (fun c10 => ?_) (fun c10 => ?_)
    · rw [if_pos c10] at h
      refine zw_iconst (v := (0 : Int32)) hX dX13_begin_17 (by decide) ?_
      refine zw_sub (lv' := [(0, .ref a0), (1, .int i1), (2, .int i2)]) (List.forall_mem_cons.mpr ⟨rfl, (List.forall_mem_cons.mpr ⟨rfl, (List.forall_mem_cons.mpr ⟨rfl, zs_nil⟩)⟩)⟩) ?_
      exact zt_X13_begin_J18 hX hr hR hd h
    · rw [if_neg c10] at h
      refine zw_sub (lv' := [(0, .ref a0), (1, .int i1), (2, .int i2)]) (List.forall_mem_cons.mpr ⟨rfl, (List.forall_mem_cons.mpr ⟨rfl, (List.forall_mem_cons.mpr ⟨rfl, zs_nil⟩)⟩)⟩) ?_
      exact zt_X13_begin_J13 hX hr hR hd h
set_option maxHeartbeats 4000000 in
set_option maxRecDepth 100000 in
theorem zt_X13_carsOf_J55 {p : Program} {l : Launch} {e : Env} {R : Room} {s : State} {m : MethodId} {args : Array Value} {below : List Frame} {meth : Method} {c : Code} {V : zm_V} {mc ms d rc rs : Nat} (hX : zm_X p R s m args meth c RX13 "carsOf" cX13_carsOf 4 zk_E V mc ms) (hr : meth.sig.returnType = (some .int)) (hR : R.frames = d ∧ R.locals = 64 * d) (hd : 2 ≤ d) {N : Nat} {k : Nat → Int32 → Int32 → Int32 → zm_S → Option ((Int32 × zm_S) ⊕ ((Int32) × zm_S))} {a0 : Nat} {i1 : Int32} {i3 : Int32} {t0 : Int32} {t1 : Int32} {res : (Int32 × zm_S) ⊕ ((Int32) × zm_S)} {out : (Int32 × zm_S)}   (hf : ∀ o, res = .inl o → o = out) (hk : ∀ (x2 : Int32) (S' : zm_S), res = .inr (x2, S') → zw p l e R s m args below meth c (vx_MQ below (zm_Qc zk_E V (zo_i out)) (zm_XC zk_E V zo_x) args s mc ms (fun q => V.2.2.2.1 ≤ q)) 4 zk_E V mc ms 63 [(2, .int x2)] [] S' rc rs) (hrec : ∀ (i2' : Int32) (i3' : Int32) (S : zm_S), k a0 i1 i2' i3' S = some res → zw p l e R s m args below meth c (vx_MQ below (zm_Qc zk_E V (zo_i out)) (zm_XC zk_E V zo_x) args s mc ms (fun q => V.2.2.2.1 ≤ q)) 4 zk_E V mc ms 4 [(0, .ref a0), (1, .int i1), (2, .int i2'), (3, .int i3')] [] S rc rs) {S : zm_S} (h : zf_X13_carsOf_J55 N k a0 i1 i3 t0 t1 S = some res) : zw p l e R s m args below meth c (vx_MQ below (zm_Qc zk_E V (zo_i out)) (zm_XC zk_E V zo_x) args s mc ms (fun q => V.2.2.2.1 ≤ q)) 4 zk_E V mc ms 55 [(0, .ref a0), (1, .int i1), (3, .int i3)] [.int t1, .int t0] S rc rs := by
  unfold zf_X13_carsOf_J55 at h
  refine zw_ior hX dX13_carsOf_55 ?_
  refine zw_istore_n hX dX13_carsOf_56 (by decide) ?_
  refine zw_iinc (v := (i3 + (1 : Int32))) hX dX13_carsOf_57 rfl rfl (by decide) ?_
  refine zw_goto (tgt := 4) hX dX13_carsOf_60 (by decide) ?_
  refine zw_sub (lv' := [(0, .ref a0), (1, .int i1), (2, .int (t0 ||| t1)), (3, .int (i3 + (1 : Int32)))]) (List.forall_mem_cons.mpr ⟨rfl, (List.forall_mem_cons.mpr ⟨rfl, (List.forall_mem_cons.mpr ⟨rfl, (List.forall_mem_cons.mpr ⟨rfl, zs_nil⟩)⟩)⟩)⟩) ?_
  exact hrec _ _ _ h
set_option maxHeartbeats 4000000 in
set_option maxRecDepth 100000 in
theorem zt_X13_carsOf_J54 {p : Program} {l : Launch} {e : Env} {R : Room} {s : State} {m : MethodId} {args : Array Value} {below : List Frame} {meth : Method} {c : Code} {V : zm_V} {mc ms d rc rs : Nat} (hX : zm_X p R s m args meth c RX13 "carsOf" cX13_carsOf 4 zk_E V mc ms) (hr : meth.sig.returnType = (some .int)) (hR : R.frames = d ∧ R.locals = 64 * d) (hd : 2 ≤ d) {N : Nat} {k : Nat → Int32 → Int32 → Int32 → zm_S → Option ((Int32 × zm_S) ⊕ ((Int32) × zm_S))} {a0 : Nat} {i1 : Int32} {i3 : Int32} {t0 : Int32} {res : (Int32 × zm_S) ⊕ ((Int32) × zm_S)} {out : (Int32 × zm_S)}   (hf : ∀ o, res = .inl o → o = out) (hk : ∀ (x2 : Int32) (S' : zm_S), res = .inr (x2, S') → zw p l e R s m args below meth c (vx_MQ below (zm_Qc zk_E V (zo_i out)) (zm_XC zk_E V zo_x) args s mc ms (fun q => V.2.2.2.1 ≤ q)) 4 zk_E V mc ms 63 [(2, .int x2)] [] S' rc rs) (hrec : ∀ (i2' : Int32) (i3' : Int32) (S : zm_S), k a0 i1 i2' i3' S = some res → zw p l e R s m args below meth c (vx_MQ below (zm_Qc zk_E V (zo_i out)) (zm_XC zk_E V zo_x) args s mc ms (fun q => V.2.2.2.1 ≤ q)) 4 zk_E V mc ms 4 [(0, .ref a0), (1, .int i1), (2, .int i2'), (3, .int i3')] [] S rc rs) {S : zm_S} (h : zf_X13_carsOf_J54 N k a0 i1 i3 t0 S = some res) : zw p l e R s m args below meth c (vx_MQ below (zm_Qc zk_E V (zo_i out)) (zm_XC zk_E V zo_x) args s mc ms (fun q => V.2.2.2.1 ≤ q)) 4 zk_E V mc ms 54 [(0, .ref a0), (1, .int i1), (3, .int i3)] [.int t0] S rc rs := by
  unfold zf_X13_carsOf_J54 at h
  refine zw_iconst (v := (0 : Int32)) hX dX13_carsOf_54 (by decide) ?_
  refine zw_sub (lv' := [(0, .ref a0), (1, .int i1), (3, .int i3)]) (List.forall_mem_cons.mpr ⟨rfl, (List.forall_mem_cons.mpr ⟨rfl, (List.forall_mem_cons.mpr ⟨rfl, zs_nil⟩)⟩)⟩) ?_
  exact zt_X13_carsOf_J55 hX hr hR hd hf hk hrec h
set_option maxHeartbeats 4000000 in
set_option maxRecDepth 100000 in
theorem zt_X13_carsOf_J48 {p : Program} {l : Launch} {e : Env} {R : Room} {s : State} {m : MethodId} {args : Array Value} {below : List Frame} {meth : Method} {c : Code} {V : zm_V} {mc ms d rc rs : Nat} (hX : zm_X p R s m args meth c RX13 "carsOf" cX13_carsOf 4 zk_E V mc ms) (hr : meth.sig.returnType = (some .int)) (hR : R.frames = d ∧ R.locals = 64 * d) (hd : 2 ≤ d) {N : Nat} {k : Nat → Int32 → Int32 → Int32 → zm_S → Option ((Int32 × zm_S) ⊕ ((Int32) × zm_S))} {a0 : Nat} {i1 : Int32} {i3 : Int32} {t0 : Int32} {res : (Int32 × zm_S) ⊕ ((Int32) × zm_S)} {out : (Int32 × zm_S)}   (hf : ∀ o, res = .inl o → o = out) (hk : ∀ (x2 : Int32) (S' : zm_S), res = .inr (x2, S') → zw p l e R s m args below meth c (vx_MQ below (zm_Qc zk_E V (zo_i out)) (zm_XC zk_E V zo_x) args s mc ms (fun q => V.2.2.2.1 ≤ q)) 4 zk_E V mc ms 63 [(2, .int x2)] [] S' rc rs) (hrec : ∀ (i2' : Int32) (i3' : Int32) (S : zm_S), k a0 i1 i2' i3' S = some res → zw p l e R s m args below meth c (vx_MQ below (zm_Qc zk_E V (zo_i out)) (zm_XC zk_E V zo_x) args s mc ms (fun q => V.2.2.2.1 ≤ q)) 4 zk_E V mc ms 4 [(0, .ref a0), (1, .int i1), (2, .int i2'), (3, .int i3')] [] S rc rs) {S : zm_S} (h : zf_X13_carsOf_J48 N k a0 i1 i3 t0 S = some res) : zw p l e R s m args below meth c (vx_MQ below (zm_Qc zk_E V (zo_i out)) (zm_XC zk_E V zo_x) args s mc ms (fun q => V.2.2.2.1 ≤ q)) 4 zk_E V mc ms 48 [(0, .ref a0), (1, .int i1), (3, .int i3)] [.int t0] S rc rs := by
  unfold zf_X13_carsOf_J48 at h
  refine zw_iconst (v := (1 : Int32)) hX dX13_carsOf_48 (by decide) ?_
  refine zw_iload_n hX dX13_carsOf_49 rfl ?_
  refine zw_ishl hX dX13_carsOf_50 ?_
  refine zw_goto (tgt := 55) hX dX13_carsOf_51 (by decide) ?_
  refine zw_sub (lv' := [(0, .ref a0), (1, .int i1), (3, .int i3)]) (List.forall_mem_cons.mpr ⟨rfl, (List.forall_mem_cons.mpr ⟨rfl, (List.forall_mem_cons.mpr ⟨rfl, zs_nil⟩)⟩)⟩) ?_
  exact zt_X13_carsOf_J55 hX hr hR hd hf hk hrec h
set_option maxHeartbeats 4000000 in
set_option maxRecDepth 100000 in
theorem zt_X13_carsOf_L4 {p : Program} {l : Launch} {e : Env} {R : Room} {s : State} {m : MethodId} {args : Array Value} {below : List Frame} {meth : Method} {c : Code} {V : zm_V} {mc ms d rc rs : Nat} (hX : zm_X p R s m args meth c RX13 "carsOf" cX13_carsOf 4 zk_E V mc ms) (hr : meth.sig.returnType = (some .int)) (hR : R.frames = d ∧ R.locals = 64 * d) (hd : 2 ≤ d) {N : Nat} {res : (Int32 × zm_S) ⊕ ((Int32) × zm_S)} {out : (Int32 × zm_S)} (a0 : Nat) (i1 : Int32) (hf : ∀ o, res = .inl o → o = out) (hk : ∀ (x2 : Int32) (S' : zm_S), res = .inr (x2, S') → zw p l e R s m args below meth c (vx_MQ below (zm_Qc zk_E V (zo_i out)) (zm_XC zk_E V zo_x) args s mc ms (fun q => V.2.2.2.1 ≤ q)) 4 zk_E V mc ms 63 [(2, .int x2)] [] S' rc rs) : ∀ (n : Nat) (i2 : Int32) (i3 : Int32) (S : zm_S), zf_X13_carsOf_L4 N n a0 i1 i2 i3 S = some res → zw p l e R s m args below meth c (vx_MQ below (zm_Qc zk_E V (zo_i out)) (zm_XC zk_E V zo_x) args s mc ms (fun q => V.2.2.2.1 ≤ q)) 4 zk_E V mc ms 4 [(0, .ref a0), (1, .int i1), (2, .int i2), (3, .int i3)] [] S rc rs := by
  intro n
  induction n with
  | zero => intro i2 i3 S h; cases h
  | succ n ih =>
    intro i2 i3 S h
    rw [zf_X13_carsOf_L4] at h
    refine zw_iload_n hX dX13_carsOf_4 rfl ?_
    refine zw_aload_n hX dX13_carsOf_5 rfl ?_
    obtain ⟨v1, g, h⟩ := zb_some h
    refine zw_geti hX zl_X13_70 dX13_carsOf_6 g ?_
    refine zw_icmp_ge (tgt := 63) hX dX13_carsOf_9 (by decide) (fun c9 => ?_) (fun c9 => ?_)
    · rw [if_pos c9] at h
      refine zw_sub (lv' := [(2, .int i2)]) (List.forall_mem_cons.mpr ⟨rfl, zs_nil⟩) ?_
      exact hk _ _ (Option.some.inj h).symm
    · rw [if_neg c9] at h
      refine zw_aload_n hX dX13_carsOf_12 rfl ?_
      obtain ⟨v2, g, h⟩ := zb_some h
      refine zw_geti hX zl_X13_80 dX13_carsOf_13 g ?_
      refine zw_if_ne (tgt := 63) hX dX13_carsOf_16 (by decide) (fun c16 => ?_) (fun c16 => ?_)
      · rw [if_neg c16] at h
        refine zw_sub (lv' := [(2, .int i2)]) (List.forall_mem_cons.mpr ⟨rfl, zs_nil⟩) ?_
        exact hk _ _ (Option.some.inj h).symm
      · rw [if_pos c16] at h
        refine zw_iload_n hX dX13_carsOf_19 rfl ?_
        refine zw_aload_n hX dX13_carsOf_20 rfl ?_
        refine zw_iload_n hX dX13_carsOf_21 rfl ?_
        refine zw_iload_n hX dX13_carsOf_22 rfl ?_
        obtain ⟨_, gi, h⟩ := zb_some h
        obtain ⟨r4, g, h⟩ := zb_some h
        refine zc_Vi (as := [.int i3, .int i1]) hX gi (zt_X13_reaches (d := d - 1) (by omega) g) zl_X13_76 rfl dX13_carsOf_23 ⟨rfl, rfl, Nat.le_of_ble_eq_true rfl⟩ ⟨by omega, by omega⟩ ?_
        refine zw_if_eq (tgt := 54) hX dX13_carsOf_26 (by decide) (fun c26 => ?_) (fun c26 => ?_)
        · rw [if_pos c26] at h
          refine zw_sub (lv' := [(0, .ref a0), (1, .int i1), (3, .int i3)]) (List.forall_mem_cons.mpr ⟨rfl, (List.forall_mem_cons.mpr ⟨rfl, (List.forall_mem_cons.mpr ⟨rfl, zs_nil⟩)⟩)⟩) ?_
          exact zt_X13_carsOf_J54 hX hr hR hd hf hk ih h
        · rw [if_neg c26] at h
          refine zw_aload_n hX dX13_carsOf_29 rfl ?_
          obtain ⟨b5, g, h⟩ := zb_some h
          refine zw_getr hX zl_X13_38 dX13_carsOf_30 g ?_
          refine zw_iload_n hX dX13_carsOf_33 rfl ?_
          obtain ⟨v6, g, h⟩ := zb_some h
          refine zw_xi hX dX13_carsOf_34 g ?_
          refine zw_if_lt (tgt := 48) hX dX13_carsOf_35 (by decide) (fun c35 => ?_) (fun c35 => ?_)
          · rw [if_pos c35] at h
            refine zw_sub (lv' := [(0, .ref a0), (1, .int i1), (3, .int i3)]) (List.forall_mem_cons.mpr ⟨rfl, (List.forall_mem_cons.mpr ⟨rfl, (List.forall_mem_cons.mpr ⟨rfl, zs_nil⟩)⟩)⟩) ?_
            exact zt_X13_carsOf_J48 hX hr hR hd hf hk ih h
          · rw [if_neg c35] at h
            refine zw_aload_n hX dX13_carsOf_38 rfl ?_
            obtain ⟨b7, g, h⟩ := zb_some h
            refine zw_getr hX zl_X13_38 dX13_carsOf_39 g ?_
            refine zw_iload_n hX dX13_carsOf_42 rfl ?_
            obtain ⟨v8, g, h⟩ := zb_some h
            refine zw_xi hX dX13_carsOf_43 g ?_
            refine zw_iload_n hX dX13_carsOf_44 rfl ?_
            refine zw_icmp_ne (tgt := 54) hX dX13_carsOf_45 (by decide) (fun c45 => ?_) (fun c45 => ?_)
            · rw [if_neg c45] at h
              refine zw_sub (lv' := [(0, .ref a0), (1, .int i1), (3, .int i3)]) (List.forall_mem_cons.mpr ⟨rfl, (List.forall_mem_cons.mpr ⟨rfl, (List.forall_mem_cons.mpr ⟨rfl, zs_nil⟩)⟩)⟩) ?_
              exact zt_X13_carsOf_J54 hX hr hR hd hf hk ih h
            · rw [if_pos c45] at h
              refine zw_sub (lv' := [(0, .ref a0), (1, .int i1), (3, .int i3)]) (List.forall_mem_cons.mpr ⟨rfl, (List.forall_mem_cons.mpr ⟨rfl, (List.forall_mem_cons.mpr ⟨rfl, zs_nil⟩)⟩)⟩) ?_
              exact zt_X13_carsOf_J48 hX hr hR hd hf hk ih h
set_option maxHeartbeats 4000000 in
set_option maxRecDepth 100000 in
theorem zt_X13_carsOf {l : Launch} {V : zm_V} {N : Nat} {S : zm_S} {out : (Int32 × zm_S)} {d : Nat} {a0 : Nat} {i1 : Int32} (hd : 2 ≤ d) (h : zf_X13_carsOf N a0 i1 S = some out) : zm_Met l zk_E V yX13_carsOf (.code yX13_carsOf cX13_carsOf 4 (some .int)) d [.ref a0, .int i1] S 0 0 (zo_i out) zo_x := by
  refine zm_of (by decide +kernel) (Nat.le_of_ble_eq_true rfl) ?_
  intro p e R s m args below meth c hRR hX hr hxt
  have hR : R.frames = d ∧ R.locals = 64 * d := by rw [hRR]; exact ⟨rfl, rfl⟩
  have hX : zm_X p R s m args meth c RX13 "carsOf" cX13_carsOf 4 zk_E V 0 0 := hX
  unfold zf_X13_carsOf at h
  refine zw_sub (lv' := [(0, .ref a0), (1, .int i1)]) (List.forall_mem_cons.mpr ⟨rfl, (List.forall_mem_cons.mpr ⟨rfl, zs_nil⟩)⟩) ?_
  refine zw_iconst (v := (0 : Int32)) hX dX13_carsOf_0 (by decide) ?_
  refine zw_istore_n hX dX13_carsOf_1 (by decide) ?_
  refine zw_iconst (v := (0 : Int32)) hX dX13_carsOf_2 (by decide) ?_
  refine zw_istore_n hX dX13_carsOf_3 (by decide) ?_
  obtain ⟨r, g, h⟩ := zb_some h
  refine zw_sub (lv' := [(0, .ref a0), (1, .int i1), (2, .int (0 : Int32)), (3, .int (0 : Int32))]) (List.forall_mem_cons.mpr ⟨rfl, (List.forall_mem_cons.mpr ⟨rfl, (List.forall_mem_cons.mpr ⟨rfl, (List.forall_mem_cons.mpr ⟨rfl, zs_nil⟩)⟩)⟩)⟩) ?_
  refine zt_X13_carsOf_L4 hX hr hR hd (res := r) (out := out) a0 i1 ?_ ?_ N _ _ _ g
  · intro o ho
    subst ho
    exact Option.some.inj h
  · intro v10 S9 hx
    subst hx
    try dsimp only at h
    refine zw_iload_n hX dX13_carsOf_63 rfl ?_
    obtain rfl := Option.some.inj h
    exact zw_iret hX hr dX13_carsOf_64 rfl ⟨rfl, rfl⟩
set_option maxHeartbeats 4000000 in
set_option maxRecDepth 100000 in
theorem zt_X13_weightOf {l : Launch} {V : zm_V} {N : Nat} {S : zm_S} {out : (Int32 × zm_S)} {d : Nat} {a0 : Nat} {i1 : Int32} (hd : 1 ≤ d) (h : zf_X13_weightOf N a0 i1 S = some out) : zm_Met l zk_E V yX13_weightOf (.code yX13_weightOf cX13_weightOf 2 (some .int)) d [.ref a0, .int i1] S 0 0 (zo_i out) zo_x := by
  refine zm_of (by decide +kernel) (Nat.le_of_ble_eq_true rfl) ?_
  intro p e R s m args below meth c hRR hX hr hxt
  have hR : R.frames = d ∧ R.locals = 64 * d := by rw [hRR]; exact ⟨rfl, rfl⟩
  have hX : zm_X p R s m args meth c RX13 "weightOf" cX13_weightOf 2 zk_E V 0 0 := hX
  unfold zf_X13_weightOf at h
  refine zw_sub (lv' := [(0, .ref a0), (1, .int i1)]) (List.forall_mem_cons.mpr ⟨rfl, (List.forall_mem_cons.mpr ⟨rfl, zs_nil⟩)⟩) ?_
  refine zw_iconst (v := (1 : Int32)) hX dX13_weightOf_0 (by decide) ?_
  refine zw_aload_n hX dX13_weightOf_1 rfl ?_
  obtain ⟨v1, g, h⟩ := zb_some h
  refine zw_geti hX zl_X13_73 dX13_weightOf_2 g ?_
  refine zw_aload_n hX dX13_weightOf_5 rfl ?_
  obtain ⟨b2, g, h⟩ := zb_some h
  refine zw_getr hX zl_X13_31 dX13_weightOf_6 g ?_
  refine zw_iload_n hX dX13_weightOf_9 rfl ?_
  obtain ⟨v3, g, h⟩ := zb_some h
  refine zw_xi hX dX13_weightOf_10 g ?_
  refine zw_isub hX dX13_weightOf_11 ?_
  refine zw_bipush (v := (30 : Int32)) hX dX13_weightOf_12 (by decide) ?_
  refine zw_idiv hX dX13_weightOf_14 (by decide) ?_
  refine zw_iadd hX dX13_weightOf_15 ?_
  obtain rfl := Option.some.inj h
  exact zw_iret hX hr dX13_weightOf_16 rfl ⟨rfl, rfl⟩
set_option maxHeartbeats 4000000 in
set_option maxRecDepth 100000 in
theorem zt_X13_choose_L7 {p : Program} {l : Launch} {e : Env} {R : Room} {s : State} {m : MethodId} {args : Array Value} {below : List Frame} {meth : Method} {c : Code} {V : zm_V} {mc ms d rc rs : Nat} (hX : zm_X p R s m args meth c RX13 "choose" cX13_choose 2 zk_E V mc ms) (hr : meth.sig.returnType = none) (hR : R.frames = d ∧ R.locals = 64 * d) (hd : 3 ≤ d) {N : Nat} {res : (Unit × zm_S) ⊕ ((Unit) × zm_S)} {out : (Unit × zm_S)} (a0 : Nat) (hf : ∀ o, res = .inl o → o = out) (hk : ∀ (S' : zm_S), res = .inr ((), S') → zw p l e R s m args below meth c (vx_MQ below (zm_Qc zk_E V (zo_v out)) (zm_XC zk_E V zo_x) args s mc ms (fun q => V.2.2.2.1 ≤ q)) 2 zk_E V mc ms 58 [] [] S' rc rs) : ∀ (n : Nat) (i1 : Int32) (S : zm_S), zf_X13_choose_L7 N n a0 i1 S = some res → zw p l e R s m args below meth c (vx_MQ below (zm_Qc zk_E V (zo_v out)) (zm_XC zk_E V zo_x) args s mc ms (fun q => V.2.2.2.1 ≤ q)) 2 zk_E V mc ms 7 [(0, .ref a0), (1, .int i1)] [] S rc rs := by
  intro n
  induction n with
  | zero => intro i1 S h; cases h
  | succ n ih =>
    intro i1 S h
    rw [zf_X13_choose_L7] at h
    refine zw_iload_n hX dX13_choose_7 rfl ?_
    refine zw_aload_n hX dX13_choose_8 rfl ?_
    obtain ⟨v2, g, h⟩ := zb_some h
    refine zw_geti hX zl_X13_66 dX13_choose_9 g ?_
    refine zw_icmp_ge (tgt := 58) hX dX13_choose_12 (by decide) (fun c12 => ?_) (fun c12 => ?_)
    · rw [if_pos c12] at h
      refine zw_sub (lv' := []) zs_nil ?_
      exact hk  _ (Option.some.inj h).symm
    · rw [if_neg c12] at h
      refine zw_aload_n hX dX13_choose_15 rfl ?_
      obtain ⟨b3, g, h⟩ := zb_some h
      refine zw_getr hX zl_X13_34 dX13_choose_16 g ?_
      refine zw_iload_n hX dX13_choose_19 rfl ?_
      obtain ⟨v4, g, h⟩ := zb_some h
      refine zw_xz hX dX13_choose_20 g ?_
      refine zw_if_eq (tgt := 52) hX dX13_choose_21 (by decide) (fun c21 => ?_) (fun c21 => ?_)
      · rw [if_pos c21] at h
        refine zw_iinc (v := (i1 + (1 : Int32))) hX dX13_choose_52 rfl rfl (by decide) ?_
        refine zw_goto (tgt := 7) hX dX13_choose_55 (by decide) ?_
        refine zw_sub (lv' := [(0, .ref a0), (1, .int (i1 + (1 : Int32)))]) (List.forall_mem_cons.mpr ⟨rfl, (List.forall_mem_cons.mpr ⟨rfl, zs_nil⟩)⟩) ?_
        exact ih _ _ h
      · rw [if_neg c21] at h
        refine zw_aload_n hX dX13_choose_24 rfl ?_
        refine zw_iload_n hX dX13_choose_25 rfl ?_
        obtain ⟨_, gi, h⟩ := zb_some h
        obtain ⟨r6, g, h⟩ := zb_some h
        refine zc_Vi (as := [.int i1]) hX gi (zt_X13_carsOf (d := d - 1) (by omega) g) zl_X13_87 rfl dX13_choose_26 ⟨rfl, rfl, Nat.le_of_ble_eq_true rfl⟩ ⟨by omega, by omega⟩ ?_
        refine zw_if_le (tgt := 52) hX dX13_choose_29 (by decide) (fun c29 => ?_) (fun c29 => ?_)
        · rw [if_pos c29] at h
          refine zw_iinc (v := (i1 + (1 : Int32))) hX dX13_choose_52 rfl rfl (by decide) ?_
          refine zw_goto (tgt := 7) hX dX13_choose_55 (by decide) ?_
          refine zw_sub (lv' := [(0, .ref a0), (1, .int (i1 + (1 : Int32)))]) (List.forall_mem_cons.mpr ⟨rfl, (List.forall_mem_cons.mpr ⟨rfl, zs_nil⟩)⟩) ?_
          exact ih _ _ h
        · rw [if_neg c29] at h
          refine zw_aload_n hX dX13_choose_32 rfl ?_
          obtain ⟨b7, g, h⟩ := zb_some h
          refine zw_getr hX zl_X13_41 dX13_choose_33 g ?_
          refine zw_aload_n hX dX13_choose_36 rfl ?_
          obtain ⟨v8, g, h⟩ := zb_some h
          refine zw_geti hX zl_X13_84 dX13_choose_37 g ?_
          refine zw_iload_n hX dX13_choose_40 rfl ?_
          obtain ⟨S9, g, h⟩ := zb_some h
          refine zw_si hX dX13_choose_41 g ?_
          refine zw_aload_n hX dX13_choose_42 rfl ?_
          refine zw_dup hX dX13_choose_43 rfl ?_
          obtain ⟨v10, g, h⟩ := zb_some h
          refine zw_geti hX zl_X13_84 dX13_choose_44 g ?_
          refine zw_iconst (v := (1 : Int32)) hX dX13_choose_47 (by decide) ?_
          refine zw_iadd hX dX13_choose_48 ?_
          obtain ⟨S11, g, h⟩ := zb_some h
          refine zw_putv hX zl_X13_84 zt_13_14 dX13_choose_49 rfl rfl g ?_
          refine zw_iinc (v := (i1 + (1 : Int32))) hX dX13_choose_52 rfl rfl (by decide) ?_
          refine zw_goto (tgt := 7) hX dX13_choose_55 (by decide) ?_
          refine zw_sub (lv' := [(0, .ref a0), (1, .int (i1 + (1 : Int32)))]) (List.forall_mem_cons.mpr ⟨rfl, (List.forall_mem_cons.mpr ⟨rfl, zs_nil⟩)⟩) ?_
          exact ih _ _ h
set_option maxHeartbeats 4000000 in
set_option maxRecDepth 100000 in
theorem zt_X13_choose {l : Launch} {V : zm_V} {N : Nat} {S : zm_S} {out : (Unit × zm_S)} {d : Nat} {a0 : Nat} (hd : 3 ≤ d) (h : zf_X13_choose N a0 S = some out) : zm_Met l zk_E V yX13_choose (.code yX13_choose cX13_choose 2 none) d [.ref a0] S 0 0 (zo_v out) zo_x := by
  refine zm_of (by decide +kernel) (Nat.le_of_ble_eq_true rfl) ?_
  intro p e R s m args below meth c hRR hX hr hxt
  have hR : R.frames = d ∧ R.locals = 64 * d := by rw [hRR]; exact ⟨rfl, rfl⟩
  have hX : zm_X p R s m args meth c RX13 "choose" cX13_choose 2 zk_E V 0 0 := hX
  unfold zf_X13_choose at h
  refine zw_sub (lv' := [(0, .ref a0)]) (List.forall_mem_cons.mpr ⟨rfl, zs_nil⟩) ?_
  refine zw_aload_n hX dX13_choose_0 rfl ?_
  refine zw_iconst (v := (0 : Int32)) hX dX13_choose_1 (by decide) ?_
  obtain ⟨S1, g, h⟩ := zb_some h
  refine zw_putv hX zl_X13_84 zt_13_14 dX13_choose_2 rfl rfl g ?_
  refine zw_iconst (v := (0 : Int32)) hX dX13_choose_5 (by decide) ?_
  refine zw_istore_n hX dX13_choose_6 (by decide) ?_
  obtain ⟨r, g, h⟩ := zb_some h
  refine zw_sub (lv' := [(0, .ref a0), (1, .int (0 : Int32))]) (List.forall_mem_cons.mpr ⟨rfl, (List.forall_mem_cons.mpr ⟨rfl, zs_nil⟩)⟩) ?_
  refine zt_X13_choose_L7 hX hr hR hd (res := r) (out := out) a0 ?_ ?_ N _ _ g
  · intro o ho
    subst ho
    exact Option.some.inj h
  · intro  S12 hx
    subst hx
    try dsimp only at h
    obtain rfl := Option.some.inj h
    exact zw_vret hX hr dX13_choose_58 ⟨rfl, rfl⟩
set_option maxHeartbeats 4000000 in
set_option maxRecDepth 100000 in
theorem zt_X13_way {l : Launch} {V : zm_V} {N : Nat} {S : zm_S} {out : (Int32 × zm_S)} {d : Nat} {a0 : Nat} {i1 : Int32} {i2 : Int32} {i3 : Int32} (hd : 1 ≤ d) (h : zf_X13_way N a0 i1 i2 i3 S = some out) : zm_Met l zk_E V yX13_way (.code yX13_way cX13_way 4 (some .int)) d [.ref a0, .int i1, .int i2, .int i3] S 0 0 (zo_i out) zo_x := by
  refine zm_of (by decide +kernel) (Nat.le_of_ble_eq_true rfl) ?_
  intro p e R s m args below meth c hRR hX hr hxt
  have hR : R.frames = d ∧ R.locals = 64 * d := by rw [hRR]; exact ⟨rfl, rfl⟩
  have hX : zm_X p R s m args meth c RX13 "way" cX13_way 4 zk_E V 0 0 := hX
  unfold zf_X13_way at h
  refine zw_sub (lv' := [(0, .ref a0), (1, .int i1), (2, .int i2), (3, .int i3)]) (List.forall_mem_cons.mpr ⟨rfl, (List.forall_mem_cons.mpr ⟨rfl, (List.forall_mem_cons.mpr ⟨rfl, (List.forall_mem_cons.mpr ⟨rfl, zs_nil⟩)⟩)⟩)⟩) ?_
  refine zw_aload_n hX dX13_way_0 rfl ?_
  obtain ⟨b1, g, h⟩ := zb_some h
  refine zw_getr hX zl_X13_7 dX13_way_1 g ?_
  refine zw_iload_n hX dX13_way_4 rfl ?_
  obtain ⟨v2, g, h⟩ := zb_some h
  refine zw_xi hX dX13_way_5 g ?_
  refine zw_iload_n hX dX13_way_6 rfl ?_
  refine zw_iload_n hX dX13_way_7 rfl ?_
  refine zw_icmp_ge (tgt := 17) hX dX13_way_8 (by decide) (fun c8 => ?_) (fun c8 => ?_)
  · rw [if_pos c8] at h
    refine zw_iload_n hX dX13_way_17 rfl ?_
    refine zw_iload_n hX dX13_way_18 rfl ?_
    refine zw_isub hX dX13_way_19 ?_
    refine zw_imul hX dX13_way_20 ?_
    obtain rfl := Option.some.inj h
    exact zw_iret hX hr dX13_way_21 rfl ⟨rfl, rfl⟩
  · rw [if_neg c8] at h
    refine zw_iload_n hX dX13_way_11 rfl ?_
    refine zw_iload_n hX dX13_way_12 rfl ?_
    refine zw_isub hX dX13_way_13 ?_
    refine zw_goto (tgt := 20) hX dX13_way_14 (by decide) ?_
    refine zw_imul hX dX13_way_20 ?_
    obtain rfl := Option.some.inj h
    exact zw_iret hX hr dX13_way_21 rfl ⟨rfl, rfl⟩
set_option maxHeartbeats 4000000 in
set_option maxRecDepth 100000 in
theorem zt_X13_begins {l : Launch} {V : zm_V} {N : Nat} {S : zm_S} {out : (Int32 × zm_S)} {d : Nat} {a0 : Nat} {i1 : Int32} (hd : 1 ≤ d) (h : zf_X13_begins N a0 i1 S = some out) : zm_Met l zk_E V yX13_begins (.code yX13_begins cX13_begins 2 (some .int)) d [.ref a0, .int i1] S 0 0 (zo_i out) zo_x := by
  refine zm_of (by decide +kernel) (Nat.le_of_ble_eq_true rfl) ?_
  intro p e R s m args below meth c hRR hX hr hxt
  have hR : R.frames = d ∧ R.locals = 64 * d := by rw [hRR]; exact ⟨rfl, rfl⟩
  have hX : zm_X p R s m args meth c RX13 "begins" cX13_begins 2 zk_E V 0 0 := hX
  unfold zf_X13_begins at h
  refine zw_sub (lv' := [(0, .ref a0), (1, .int i1)]) (List.forall_mem_cons.mpr ⟨rfl, (List.forall_mem_cons.mpr ⟨rfl, zs_nil⟩)⟩) ?_
  refine zw_aload_n hX dX13_begins_0 rfl ?_
  obtain ⟨b1, g, h⟩ := zb_some h
  refine zw_getr hX zl_X13_16 dX13_begins_1 g ?_
  refine zw_iload_n hX dX13_begins_4 rfl ?_
  obtain ⟨v2, g, h⟩ := zb_some h
  refine zw_xi hX dX13_begins_5 g ?_
  refine zw_aload_n hX dX13_begins_6 rfl ?_
  obtain ⟨v3, g, h⟩ := zb_some h
  refine zw_geti hX zl_X13_73 dX13_begins_7 g ?_
  refine zw_icmp_le (tgt := 27) hX dX13_begins_10 (by decide) (fun c10 => ?_) (fun c10 => ?_)
  · rw [if_pos c10] at h
    refine zw_iconst (v := (0 : Int32)) hX dX13_begins_27 (by decide) ?_
    obtain rfl := Option.some.inj h
    exact zw_iret hX hr dX13_begins_28 rfl ⟨rfl, rfl⟩
  · rw [if_neg c10] at h
    refine zw_aload_n hX dX13_begins_13 rfl ?_
    obtain ⟨b4, g, h⟩ := zb_some h
    refine zw_getr hX zl_X13_16 dX13_begins_14 g ?_
    refine zw_iload_n hX dX13_begins_17 rfl ?_
    obtain ⟨v5, g, h⟩ := zb_some h
    refine zw_xi hX dX13_begins_18 g ?_
    refine zw_aload_n hX dX13_begins_19 rfl ?_
    obtain ⟨v6, g, h⟩ := zb_some h
    refine zw_geti hX zl_X13_73 dX13_begins_20 g ?_
    refine zw_isub hX dX13_begins_23 ?_
    refine zw_goto (tgt := 28) hX dX13_begins_24 (by decide) ?_
    obtain rfl := Option.some.inj h
    exact zw_iret hX hr dX13_begins_28 rfl ⟨rfl, rfl⟩
set_option maxHeartbeats 4000000 in
set_option maxRecDepth 100000 in
theorem zt_X13_costOf_L20 {p : Program} {l : Launch} {e : Env} {R : Room} {s : State} {m : MethodId} {args : Array Value} {below : List Frame} {meth : Method} {c : Code} {V : zm_V} {mc ms d rc rs : Nat} (hX : zm_X p R s m args meth c RX13 "costOf" cX13_costOf 8 zk_E V mc ms) (hr : meth.sig.returnType = (some .long)) (hR : R.frames = d ∧ R.locals = 64 * d) (hd : 2 ≤ d) {N : Nat} {res : (Int64 × zm_S) ⊕ ((Int64) × zm_S)} {out : (Int64 × zm_S)} (a0 : Nat) (i1 : Int32) (hf : ∀ o, res = .inl o → o = out) (hk : ∀ (x2 : Int64) (S' : zm_S), res = .inr (x2, S') → zw p l e R s m args below meth c (vx_MQ below (zm_Qc zk_E V (zo_l out)) (zm_XC zk_E V zo_x) args s mc ms (fun q => V.2.2.2.1 ≤ q)) 8 zk_E V mc ms 121 [(2, .long x2)] [] S' rc rs) : ∀ (n : Nat) (j2 : Int64) (i4 : Int32) (i5 : Int32) (i6 : Int32) (S : zm_S), zf_X13_costOf_L20 N n a0 i1 j2 i4 i5 i6 S = some res → zw p l e R s m args below meth c (vx_MQ below (zm_Qc zk_E V (zo_l out)) (zm_XC zk_E V zo_x) args s mc ms (fun q => V.2.2.2.1 ≤ q)) 8 zk_E V mc ms 20 [(0, .ref a0), (1, .int i1), (2, .long j2), (4, .int i4), (5, .int i5), (6, .int i6)] [] S rc rs := by
  intro n
  induction n with
  | zero => intro j2 i4 i5 i6 S h; cases h
  | succ n ih =>
    intro j2 i4 i5 i6 S h
    rw [zf_X13_costOf_L20] at h
    refine zw_iload hX dX13_costOf_20 rfl ?_
    refine zw_aload_n hX dX13_costOf_22 rfl ?_
    obtain ⟨v5, g, h⟩ := zb_some h
    refine zw_geti hX zl_X13_94 dX13_costOf_23 g ?_
    refine zw_icmp_ge (tgt := 121) hX dX13_costOf_26 (by decide) (fun c26 => ?_) (fun c26 => ?_)
    · rw [if_pos c26] at h
      refine zw_sub (lv' := [(2, .long j2)]) (List.forall_mem_cons.mpr ⟨rfl, zs_nil⟩) ?_
      exact hk _ _ (Option.some.inj h).symm
    · rw [if_neg c26] at h
      refine zw_aload_n hX dX13_costOf_29 rfl ?_
      obtain ⟨b6, g, h⟩ := zb_some h
      refine zw_getr hX zl_X13_44 dX13_costOf_30 g ?_
      refine zw_iload hX dX13_costOf_33 rfl ?_
      obtain ⟨v7, g, h⟩ := zb_some h
      refine zw_xi hX dX13_costOf_35 g ?_
      refine zw_istore hX dX13_costOf_36 (by decide) ?_
      refine zw_iload hX dX13_costOf_38 rfl ?_
      refine zw_aload_n hX dX13_costOf_40 rfl ?_
      refine zw_iload_n hX dX13_costOf_41 rfl ?_
      refine zw_iload hX dX13_costOf_42 rfl ?_
      refine zw_aload_n hX dX13_costOf_44 rfl ?_
      obtain ⟨b8, g, h⟩ := zb_some h
      refine zw_getr hX zl_X13_25 dX13_costOf_45 g ?_
      refine zw_iload hX dX13_costOf_48 rfl ?_
      obtain ⟨v9, g, h⟩ := zb_some h
      refine zw_xi hX dX13_costOf_50 g ?_
      obtain ⟨_, gi, h⟩ := zb_some h
      obtain ⟨r11, g, h⟩ := zb_some h
      refine zc_Vi (as := [.int i1, .int i5, .int v9]) hX gi (zt_X13_way (d := d - 1) (by omega) g) zl_X13_97 rfl dX13_costOf_51 ⟨rfl, rfl, Nat.le_of_ble_eq_true rfl⟩ ⟨by omega, by omega⟩ ?_
      refine zw_iadd hX dX13_costOf_54 ?_
      refine zw_istore hX dX13_costOf_55 (by decide) ?_
      refine zw_lload_n hX dX13_costOf_57 rfl ?_
      refine zw_aload_n hX dX13_costOf_58 rfl ?_
      refine zw_iload hX dX13_costOf_59 rfl ?_
      obtain ⟨_, gi, h⟩ := zb_some h
      obtain ⟨r13, g, h⟩ := zb_some h
      refine zc_Vi (as := [.int v7]) hX gi (zt_X13_weightOf (d := d - 1) (by omega) g) zl_X13_101 rfl dX13_costOf_61 ⟨rfl, rfl, Nat.le_of_ble_eq_true rfl⟩ ⟨by omega, by omega⟩ ?_
      refine zw_i2l hX dX13_costOf_64 ?_
      refine zw_iload hX dX13_costOf_65 rfl ?_
      refine zw_i2l hX dX13_costOf_67 ?_
      refine zw_lmul hX dX13_costOf_68 ?_
      refine zw_ladd hX dX13_costOf_69 ?_
      refine zw_lstore_n hX dX13_costOf_70 (by decide) ?_
      refine zw_iload hX dX13_costOf_71 rfl ?_
      refine zw_iconst (v := (3 : Int32)) hX dX13_costOf_73 (by decide) ?_
      refine zw_aload_n hX dX13_costOf_74 rfl ?_
      refine zw_iload_n hX dX13_costOf_75 rfl ?_
      refine zw_aload_n hX dX13_costOf_76 rfl ?_
      obtain ⟨b14, g, h⟩ := zb_some h
      refine zw_getr hX zl_X13_25 dX13_costOf_77 g ?_
      refine zw_iload hX dX13_costOf_80 rfl ?_
      obtain ⟨v15, g, h⟩ := zb_some h
      refine zw_xi hX dX13_costOf_82 g ?_
      refine zw_aload_n hX dX13_costOf_83 rfl ?_
      obtain ⟨b16, g, h⟩ := zb_some h
      refine zw_getr hX zl_X13_28 dX13_costOf_84 g ?_
      refine zw_iload hX dX13_costOf_87 rfl ?_
      obtain ⟨v17, g, h⟩ := zb_some h
      refine zw_xi hX dX13_costOf_89 g ?_
      obtain ⟨_, gi, h⟩ := zb_some h
      obtain ⟨r19, g, h⟩ := zb_some h
      refine zc_Vi (as := [.int i1, .int v15, .int v17]) hX gi (zt_X13_way (d := d - 1) (by omega) g) zl_X13_97 rfl dX13_costOf_90 ⟨rfl, rfl, Nat.le_of_ble_eq_true rfl⟩ ⟨by omega, by omega⟩ ?_
      refine zw_iadd hX dX13_costOf_93 ?_
      refine zw_iadd hX dX13_costOf_94 ?_
      refine zw_istore hX dX13_costOf_95 (by decide) ?_
      refine zw_lload_n hX dX13_costOf_97 rfl ?_
      refine zw_iload hX dX13_costOf_98 rfl ?_
      refine zw_i2l hX dX13_costOf_100 ?_
      refine zw_ladd hX dX13_costOf_101 ?_
      refine zw_lstore_n hX dX13_costOf_102 (by decide) ?_
      refine zw_iinc (v := (((i4 + r11.1) + ((3 : Int32) + r19.1)) + (3 : Int32))) hX dX13_costOf_103 rfl rfl (by decide) ?_
      refine zw_aload_n hX dX13_costOf_106 rfl ?_
      obtain ⟨b20, g, h⟩ := zb_some h
      refine zw_getr hX zl_X13_28 dX13_costOf_107 g ?_
      refine zw_iload hX dX13_costOf_110 rfl ?_
      obtain ⟨v21, g, h⟩ := zb_some h
      refine zw_xi hX dX13_costOf_112 g ?_
      refine zw_istore hX dX13_costOf_113 (by decide) ?_
      refine zw_iinc (v := (i6 + (1 : Int32))) hX dX13_costOf_115 rfl rfl (by decide) ?_
      refine zw_goto (tgt := 20) hX dX13_costOf_118 (by decide) ?_
      refine zw_sub (lv' := [(0, .ref a0), (1, .int i1), (2, .long ((j2 + ((r13.1).toInt64 * ((i4 + r11.1)).toInt64)) + (((i4 + r11.1) + ((3 : Int32) + r19.1))).toInt64)), (4, .int (((i4 + r11.1) + ((3 : Int32) + r19.1)) + (3 : Int32))), (5, .int v21), (6, .int (i6 + (1 : Int32)))]) (List.forall_mem_cons.mpr ⟨rfl, (List.forall_mem_cons.mpr ⟨rfl, (List.forall_mem_cons.mpr ⟨rfl, (List.forall_mem_cons.mpr ⟨rfl, (List.forall_mem_cons.mpr ⟨rfl, (List.forall_mem_cons.mpr ⟨rfl, zs_nil⟩)⟩)⟩)⟩)⟩)⟩) ?_
      exact ih _ _ _ _ _ h
set_option maxHeartbeats 4000000 in
set_option maxRecDepth 100000 in
theorem zt_X13_costOf {l : Launch} {V : zm_V} {N : Nat} {S : zm_S} {out : (Int64 × zm_S)} {d : Nat} {a0 : Nat} {i1 : Int32} (hd : 2 ≤ d) (h : zf_X13_costOf N a0 i1 S = some out) : zm_Met l zk_E V yX13_costOf (.code yX13_costOf cX13_costOf 8 (some .long)) d [.ref a0, .int i1] S 0 0 (zo_l out) zo_x := by
  refine zm_of (by decide +kernel) (Nat.le_of_ble_eq_true rfl) ?_
  intro p e R s m args below meth c hRR hX hr hxt
  have hR : R.frames = d ∧ R.locals = 64 * d := by rw [hRR]; exact ⟨rfl, rfl⟩
  have hX : zm_X p R s m args meth c RX13 "costOf" cX13_costOf 8 zk_E V 0 0 := hX
  unfold zf_X13_costOf at h
  refine zw_sub (lv' := [(0, .ref a0), (1, .int i1)]) (List.forall_mem_cons.mpr ⟨rfl, (List.forall_mem_cons.mpr ⟨rfl, zs_nil⟩)⟩) ?_
  refine zw_lconst (v := (0 : Int64)) hX dX13_costOf_0 (by decide) ?_
  refine zw_lstore_n hX dX13_costOf_1 (by decide) ?_
  refine zw_aload_n hX dX13_costOf_2 rfl ?_
  refine zw_iload_n hX dX13_costOf_3 rfl ?_
  obtain ⟨_, gi, h⟩ := zb_some h
  obtain ⟨r2, g, h⟩ := zb_some h
  refine zc_Vi (as := [.int i1]) hX gi (zt_X13_begins (d := d - 1) (by omega) g) zl_X13_91 rfl dX13_costOf_4 ⟨rfl, rfl, Nat.le_of_ble_eq_true rfl⟩ ⟨by omega, by omega⟩ ?_
  refine zw_istore hX dX13_costOf_7 (by decide) ?_
  refine zw_aload_n hX dX13_costOf_9 rfl ?_
  obtain ⟨b3, g, h⟩ := zb_some h
  refine zw_getr hX zl_X13_13 dX13_costOf_10 g ?_
  refine zw_iload_n hX dX13_costOf_13 rfl ?_
  obtain ⟨v4, g, h⟩ := zb_some h
  refine zw_xi hX dX13_costOf_14 g ?_
  refine zw_istore hX dX13_costOf_15 (by decide) ?_
  refine zw_iconst (v := (0 : Int32)) hX dX13_costOf_17 (by decide) ?_
  refine zw_istore hX dX13_costOf_18 (by decide) ?_
  obtain ⟨r, g, h⟩ := zb_some h
  refine zw_sub (lv' := [(0, .ref a0), (1, .int i1), (2, .long (0 : Int64)), (4, .int r2.1), (5, .int v4), (6, .int (0 : Int32))]) (List.forall_mem_cons.mpr ⟨rfl, (List.forall_mem_cons.mpr ⟨rfl, (List.forall_mem_cons.mpr ⟨rfl, (List.forall_mem_cons.mpr ⟨rfl, (List.forall_mem_cons.mpr ⟨rfl, (List.forall_mem_cons.mpr ⟨rfl, zs_nil⟩)⟩)⟩)⟩)⟩)⟩) ?_
  refine zt_X13_costOf_L20 hX hr hR hd (res := r) (out := out) a0 i1 ?_ ?_ N _ _ _ _ _ g
  · intro o ho
    subst ho
    exact Option.some.inj h
  · intro w23 S22 hx
    subst hx
    try dsimp only at h
    refine zw_lload_n hX dX13_costOf_121 rfl ?_
    obtain rfl := Option.some.inj h
    exact zw_lret hX hr dX13_costOf_122 ⟨rfl, rfl⟩
set_option maxHeartbeats 4000000 in
set_option maxRecDepth 100000 in
theorem zt_X13_nextRow_L7 {p : Program} {l : Launch} {e : Env} {R : Room} {s : State} {m : MethodId} {args : Array Value} {below : List Frame} {meth : Method} {c : Code} {V : zm_V} {mc ms d rc rs : Nat} (hX : zm_X p R s m args meth c RX13 "nextRow" cX13_nextRow 6 zk_E V mc ms) (hr : meth.sig.returnType = (some .boolean)) (hR : R.frames = d ∧ R.locals = 64 * d) (hd : 1 ≤ d) {N : Nat} {res : (Int32 × zm_S) ⊕ ((Int32) × zm_S)} {out : (Int32 × zm_S)} (a0 : Nat) (hf : ∀ o, res = .inl o → o = out) (hk : ∀ (x1 : Int32) (S' : zm_S), res = .inr (x1, S') → zw p l e R s m args below meth c (vx_MQ below (zm_Qc zk_E V (zo_i out)) (zm_XC zk_E V zo_x) args s mc ms (fun q => V.2.2.2.1 ≤ q)) 6 zk_E V mc ms 34 [(0, .ref a0), (1, .int x1)] [] S' rc rs) : ∀ (n : Nat) (i1 : Int32) (S : zm_S), zf_X13_nextRow_L7 N n a0 i1 S = some res → zw p l e R s m args below meth c (vx_MQ below (zm_Qc zk_E V (zo_i out)) (zm_XC zk_E V zo_x) args s mc ms (fun q => V.2.2.2.1 ≤ q)) 6 zk_E V mc ms 7 [(0, .ref a0), (1, .int i1)] [] S rc rs := by
  intro n
  induction n with
  | zero => intro i1 S h; cases h
  | succ n ih =>
    intro i1 S h
    rw [zf_X13_nextRow_L7] at h
    refine zw_iload_n hX dX13_nextRow_7 rfl ?_
    refine zw_if_lt (tgt := 34) hX dX13_nextRow_8 (by decide) (fun c8 => ?_) (fun c8 => ?_)
    · rw [if_pos c8] at h
      refine zw_sub (lv' := [(0, .ref a0), (1, .int i1)]) (List.forall_mem_cons.mpr ⟨rfl, (List.forall_mem_cons.mpr ⟨rfl, zs_nil⟩)⟩) ?_
      exact hk _ _ (Option.some.inj h).symm
    · rw [if_neg c8] at h
      refine zw_aload_n hX dX13_nextRow_11 rfl ?_
      obtain ⟨b2, g, h⟩ := zb_some h
      refine zw_getr hX zl_X13_44 dX13_nextRow_12 g ?_
      refine zw_iload_n hX dX13_nextRow_15 rfl ?_
      obtain ⟨v3, g, h⟩ := zb_some h
      refine zw_xi hX dX13_nextRow_16 g ?_
      refine zw_aload_n hX dX13_nextRow_17 rfl ?_
      obtain ⟨b4, g, h⟩ := zb_some h
      refine zw_getr hX zl_X13_44 dX13_nextRow_18 g ?_
      refine zw_iload_n hX dX13_nextRow_21 rfl ?_
      refine zw_iconst (v := (1 : Int32)) hX dX13_nextRow_22 (by decide) ?_
      refine zw_iadd hX dX13_nextRow_23 ?_
      obtain ⟨v5, g, h⟩ := zb_some h
      refine zw_xi hX dX13_nextRow_24 g ?_
      refine zw_icmp_le (tgt := 34) hX dX13_nextRow_25 (by decide) (fun c25 => ?_) (fun c25 => ?_)
      · rw [if_pos c25] at h
        refine zw_sub (lv' := [(0, .ref a0), (1, .int i1)]) (List.forall_mem_cons.mpr ⟨rfl, (List.forall_mem_cons.mpr ⟨rfl, zs_nil⟩)⟩) ?_
        exact hk _ _ (Option.some.inj h).symm
      · rw [if_neg c25] at h
        refine zw_iinc (v := (i1 + (-1 : Int32))) hX dX13_nextRow_28 rfl rfl (by decide) ?_
        refine zw_goto (tgt := 7) hX dX13_nextRow_31 (by decide) ?_
        refine zw_sub (lv' := [(0, .ref a0), (1, .int (i1 + (-1 : Int32)))]) (List.forall_mem_cons.mpr ⟨rfl, (List.forall_mem_cons.mpr ⟨rfl, zs_nil⟩)⟩) ?_
        exact ih _ _ h
set_option maxHeartbeats 4000000 in
set_option maxRecDepth 100000 in
theorem zt_X13_nextRow_L47 {p : Program} {l : Launch} {e : Env} {R : Room} {s : State} {m : MethodId} {args : Array Value} {below : List Frame} {meth : Method} {c : Code} {V : zm_V} {mc ms d rc rs : Nat} (hX : zm_X p R s m args meth c RX13 "nextRow" cX13_nextRow 6 zk_E V mc ms) (hr : meth.sig.returnType = (some .boolean)) (hR : R.frames = d ∧ R.locals = 64 * d) (hd : 1 ≤ d) {N : Nat} {res : (Int32 × zm_S) ⊕ ((Int32) × zm_S)} {out : (Int32 × zm_S)} (a0 : Nat) (i1 : Int32) (hf : ∀ o, res = .inl o → o = out) (hk : ∀ (x2 : Int32) (S' : zm_S), res = .inr (x2, S') → zw p l e R s m args below meth c (vx_MQ below (zm_Qc zk_E V (zo_i out)) (zm_XC zk_E V zo_x) args s mc ms (fun q => V.2.2.2.1 ≤ q)) 6 zk_E V mc ms 68 [(0, .ref a0), (1, .int i1), (2, .int x2)] [] S' rc rs) : ∀ (n : Nat) (i2 : Int32) (S : zm_S), zf_X13_nextRow_L47 N n a0 i1 i2 S = some res → zw p l e R s m args below meth c (vx_MQ below (zm_Qc zk_E V (zo_i out)) (zm_XC zk_E V zo_x) args s mc ms (fun q => V.2.2.2.1 ≤ q)) 6 zk_E V mc ms 47 [(0, .ref a0), (1, .int i1), (2, .int i2)] [] S rc rs := by
  intro n
  induction n with
  | zero => intro i2 S h; cases h
  | succ n ih =>
    intro i2 S h
    rw [zf_X13_nextRow_L47] at h
    refine zw_aload_n hX dX13_nextRow_47 rfl ?_
    obtain ⟨b9, g, h⟩ := zb_some h
    refine zw_getr hX zl_X13_44 dX13_nextRow_48 g ?_
    refine zw_iload_n hX dX13_nextRow_51 rfl ?_
    obtain ⟨v10, g, h⟩ := zb_some h
    refine zw_xi hX dX13_nextRow_52 g ?_
    refine zw_aload_n hX dX13_nextRow_53 rfl ?_
    obtain ⟨b11, g, h⟩ := zb_some h
    refine zw_getr hX zl_X13_44 dX13_nextRow_54 g ?_
    refine zw_iload_n hX dX13_nextRow_57 rfl ?_
    obtain ⟨v12, g, h⟩ := zb_some h
    refine zw_xi hX dX13_nextRow_58 g ?_
    refine zw_icmp_ge (tgt := 68) hX dX13_nextRow_59 (by decide) (fun c59 => ?_) (fun c59 => ?_)
    · rw [if_pos c59] at h
      refine zw_sub (lv' := [(0, .ref a0), (1, .int i1), (2, .int i2)]) (List.forall_mem_cons.mpr ⟨rfl, (List.forall_mem_cons.mpr ⟨rfl, (List.forall_mem_cons.mpr ⟨rfl, zs_nil⟩)⟩)⟩) ?_
      exact hk _ _ (Option.some.inj h).symm
    · rw [if_neg c59] at h
      refine zw_iinc (v := (i2 + (-1 : Int32))) hX dX13_nextRow_62 rfl rfl (by decide) ?_
      refine zw_goto (tgt := 47) hX dX13_nextRow_65 (by decide) ?_
      refine zw_sub (lv' := [(0, .ref a0), (1, .int i1), (2, .int (i2 + (-1 : Int32)))]) (List.forall_mem_cons.mpr ⟨rfl, (List.forall_mem_cons.mpr ⟨rfl, (List.forall_mem_cons.mpr ⟨rfl, zs_nil⟩)⟩)⟩) ?_
      exact ih _ _ h
set_option maxHeartbeats 4000000 in
set_option maxRecDepth 100000 in
theorem zt_X13_nextRow_L107 {p : Program} {l : Launch} {e : Env} {R : Room} {s : State} {m : MethodId} {args : Array Value} {below : List Frame} {meth : Method} {c : Code} {V : zm_V} {mc ms d rc rs : Nat} (hX : zm_X p R s m args meth c RX13 "nextRow" cX13_nextRow 6 zk_E V mc ms) (hr : meth.sig.returnType = (some .boolean)) (hR : R.frames = d ∧ R.locals = 64 * d) (hd : 1 ≤ d) {N : Nat} {res : (Int32 × zm_S) ⊕ ((Unit) × zm_S)} {out : (Int32 × zm_S)} (a0 : Nat) (hf : ∀ o, res = .inl o → o = out) (hk : ∀ (S' : zm_S), res = .inr ((), S') → zw p l e R s m args below meth c (vx_MQ below (zm_Qc zk_E V (zo_i out)) (zm_XC zk_E V zo_x) args s mc ms (fun q => V.2.2.2.1 ≤ q)) 6 zk_E V mc ms 153 [] [] S' rc rs) : ∀ (n : Nat) (i4 : Int32) (i5 : Int32) (S : zm_S), zf_X13_nextRow_L107 N n a0 i4 i5 S = some res → zw p l e R s m args below meth c (vx_MQ below (zm_Qc zk_E V (zo_i out)) (zm_XC zk_E V zo_x) args s mc ms (fun q => V.2.2.2.1 ≤ q)) 6 zk_E V mc ms 107 [(0, .ref a0), (4, .int i4), (5, .int i5)] [] S rc rs := by
  intro n
  induction n with
  | zero => intro i4 i5 S h; cases h
  | succ n ih =>
    intro i4 i5 S h
    rw [zf_X13_nextRow_L107] at h
    refine zw_iload hX dX13_nextRow_107 rfl ?_
    refine zw_iload hX dX13_nextRow_109 rfl ?_
    refine zw_icmp_ge (tgt := 153) hX dX13_nextRow_111 (by decide) (fun c111 => ?_) (fun c111 => ?_)
    · rw [if_pos c111] at h
      refine zw_sub (lv' := []) zs_nil ?_
      exact hk  _ (Option.some.inj h).symm
    · rw [if_neg c111] at h
      refine zw_aload_n hX dX13_nextRow_114 rfl ?_
      obtain ⟨b24, g, h⟩ := zb_some h
      refine zw_getr hX zl_X13_44 dX13_nextRow_115 g ?_
      refine zw_iload hX dX13_nextRow_118 rfl ?_
      obtain ⟨v25, g, h⟩ := zb_some h
      refine zw_xi hX dX13_nextRow_120 g ?_
      refine zw_istore_n hX dX13_nextRow_121 (by decide) ?_
      refine zw_aload_n hX dX13_nextRow_122 rfl ?_
      obtain ⟨b26, g, h⟩ := zb_some h
      refine zw_getr hX zl_X13_44 dX13_nextRow_123 g ?_
      refine zw_iload hX dX13_nextRow_126 rfl ?_
      refine zw_aload_n hX dX13_nextRow_128 rfl ?_
      obtain ⟨b27, g, h⟩ := zb_some h
      refine zw_getr hX zl_X13_44 dX13_nextRow_129 g ?_
      refine zw_iload hX dX13_nextRow_132 rfl ?_
      obtain ⟨v28, g, h⟩ := zb_some h
      refine zw_xi hX dX13_nextRow_134 g ?_
      obtain ⟨S29, g, h⟩ := zb_some h
      refine zw_si hX dX13_nextRow_135 g ?_
      refine zw_aload_n hX dX13_nextRow_136 rfl ?_
      obtain ⟨b30, g, h⟩ := zb_some h
      refine zw_getr hX zl_X13_44 dX13_nextRow_137 g ?_
      refine zw_iload hX dX13_nextRow_140 rfl ?_
      refine zw_iload_n hX dX13_nextRow_142 rfl ?_
      obtain ⟨S31, g, h⟩ := zb_some h
      refine zw_si hX dX13_nextRow_143 g ?_
      refine zw_iinc (v := (i4 + (1 : Int32))) hX dX13_nextRow_144 rfl rfl (by decide) ?_
      refine zw_iinc (v := (i5 + (-1 : Int32))) hX dX13_nextRow_147 rfl rfl (by decide) ?_
      refine zw_goto (tgt := 107) hX dX13_nextRow_150 (by decide) ?_
      refine zw_sub (lv' := [(0, .ref a0), (4, .int (i4 + (1 : Int32))), (5, .int (i5 + (-1 : Int32)))]) (List.forall_mem_cons.mpr ⟨rfl, (List.forall_mem_cons.mpr ⟨rfl, (List.forall_mem_cons.mpr ⟨rfl, zs_nil⟩)⟩)⟩) ?_
      exact ih _ _ _ h
set_option maxHeartbeats 4000000 in
set_option maxRecDepth 100000 in
theorem zt_X13_nextRow_J34 {p : Program} {l : Launch} {e : Env} {R : Room} {s : State} {m : MethodId} {args : Array Value} {below : List Frame} {meth : Method} {c : Code} {V : zm_V} {mc ms d rc rs : Nat} (hX : zm_X p R s m args meth c RX13 "nextRow" cX13_nextRow 6 zk_E V mc ms) (hr : meth.sig.returnType = (some .boolean)) (hR : R.frames = d ∧ R.locals = 64 * d) (hd : 1 ≤ d) {N : Nat} {a0 : Nat} {i1 : Int32} {out : (Int32 × zm_S)} {S : zm_S} (h : zf_X13_nextRow_J34 N a0 i1 S = some out) : zw p l e R s m args below meth c (vx_MQ below (zm_Qc zk_E V (zo_i out)) (zm_XC zk_E V zo_x) args s mc ms (fun q => V.2.2.2.1 ≤ q)) 6 zk_E V mc ms 34 [(0, .ref a0), (1, .int i1)] [] S rc rs := by
  unfold zf_X13_nextRow_J34 at h
  refine zw_iload_n hX dX13_nextRow_34 rfl ?_
  refine zw_if_ge (tgt := 40) hX dX13_nextRow_35 (by decide) (fun c35 => ?_) (fun c35 => ?_)
  · rw [if_pos c35] at h
    refine zw_aload_n hX dX13_nextRow_40 rfl ?_
    obtain ⟨v8, g, h⟩ := zb_some h
    refine zw_geti hX zl_X13_94 dX13_nextRow_41 g ?_
    refine zw_iconst (v := (1 : Int32)) hX dX13_nextRow_44 (by decide) ?_
    refine zw_isub hX dX13_nextRow_45 ?_
    refine zw_istore_n hX dX13_nextRow_46 (by decide) ?_
    obtain ⟨r, g, h⟩ := zb_some h
    refine zw_sub (lv' := [(0, .ref a0), (1, .int i1), (2, .int (v8 - (1 : Int32)))]) (List.forall_mem_cons.mpr ⟨rfl, (List.forall_mem_cons.mpr ⟨rfl, (List.forall_mem_cons.mpr ⟨rfl, zs_nil⟩)⟩)⟩) ?_
    refine zt_X13_nextRow_L47 hX hr hR hd (res := r) (out := out) a0 i1 ?_ ?_ N _ _ g
    · intro o ho
      subst ho
      exact Option.some.inj h
    · intro v14 S13 hx
      subst hx
      try dsimp only at h
      refine zw_aload_n hX dX13_nextRow_68 rfl ?_
      obtain ⟨b15, g, h⟩ := zb_some h
      refine zw_getr hX zl_X13_44 dX13_nextRow_69 g ?_
      refine zw_iload_n hX dX13_nextRow_72 rfl ?_
      obtain ⟨v16, g, h⟩ := zb_some h
      refine zw_xi hX dX13_nextRow_73 g ?_
      refine zw_istore_n hX dX13_nextRow_74 (by decide) ?_
      refine zw_aload_n hX dX13_nextRow_75 rfl ?_
      obtain ⟨b17, g, h⟩ := zb_some h
      refine zw_getr hX zl_X13_44 dX13_nextRow_76 g ?_
      refine zw_iload_n hX dX13_nextRow_79 rfl ?_
      refine zw_aload_n hX dX13_nextRow_80 rfl ?_
      obtain ⟨b18, g, h⟩ := zb_some h
      refine zw_getr hX zl_X13_44 dX13_nextRow_81 g ?_
      refine zw_iload_n hX dX13_nextRow_84 rfl ?_
      obtain ⟨v19, g, h⟩ := zb_some h
      refine zw_xi hX dX13_nextRow_85 g ?_
      obtain ⟨S20, g, h⟩ := zb_some h
      refine zw_si hX dX13_nextRow_86 g ?_
      refine zw_aload_n hX dX13_nextRow_87 rfl ?_
      obtain ⟨b21, g, h⟩ := zb_some h
      refine zw_getr hX zl_X13_44 dX13_nextRow_88 g ?_
      refine zw_iload_n hX dX13_nextRow_91 rfl ?_
      refine zw_iload_n hX dX13_nextRow_92 rfl ?_
      obtain ⟨S22, g, h⟩ := zb_some h
      refine zw_si hX dX13_nextRow_93 g ?_
      refine zw_iload_n hX dX13_nextRow_94 rfl ?_
      refine zw_iconst (v := (1 : Int32)) hX dX13_nextRow_95 (by decide) ?_
      refine zw_iadd hX dX13_nextRow_96 ?_
      refine zw_istore hX dX13_nextRow_97 (by decide) ?_
      refine zw_aload_n hX dX13_nextRow_99 rfl ?_
      obtain ⟨v23, g, h⟩ := zb_some h
      refine zw_geti hX zl_X13_94 dX13_nextRow_100 g ?_
      refine zw_iconst (v := (1 : Int32)) hX dX13_nextRow_103 (by decide) ?_
      refine zw_isub hX dX13_nextRow_104 ?_
      refine zw_istore hX dX13_nextRow_105 (by decide) ?_
      obtain ⟨r, g, h⟩ := zb_some h
      refine zw_sub (lv' := [(0, .ref a0), (4, .int (i1 + (1 : Int32))), (5, .int (v23 - (1 : Int32)))]) (List.forall_mem_cons.mpr ⟨rfl, (List.forall_mem_cons.mpr ⟨rfl, (List.forall_mem_cons.mpr ⟨rfl, zs_nil⟩)⟩)⟩) ?_
      refine zt_X13_nextRow_L107 hX hr hR hd (res := r) (out := out) a0 ?_ ?_ N _ _ _ g
      · intro o ho
        subst ho
        exact Option.some.inj h
      · intro  S32 hx
        subst hx
        try dsimp only at h
        refine zw_iconst (v := (1 : Int32)) hX dX13_nextRow_153 (by decide) ?_
        obtain rfl := Option.some.inj h
        exact zw_iret hX hr dX13_nextRow_154 rfl ⟨rfl, rfl⟩
  · rw [if_neg c35] at h
    refine zw_iconst (v := (0 : Int32)) hX dX13_nextRow_38 (by decide) ?_
    obtain rfl := Option.some.inj h
    exact zw_iret hX hr dX13_nextRow_39 rfl ⟨rfl, rfl⟩
set_option maxHeartbeats 4000000 in
set_option maxRecDepth 100000 in
theorem zt_X13_nextRow {l : Launch} {V : zm_V} {N : Nat} {S : zm_S} {out : (Int32 × zm_S)} {d : Nat} {a0 : Nat} (hd : 1 ≤ d) (h : zf_X13_nextRow N a0 S = some out) : zm_Met l zk_E V yX13_nextRow (.code yX13_nextRow cX13_nextRow 6 (some .boolean)) d [.ref a0] S 0 0 (zo_i out) zo_x := by
  refine zm_of (by decide +kernel) (Nat.le_of_ble_eq_true rfl) ?_
  intro p e R s m args below meth c hRR hX hr hxt
  have hR : R.frames = d ∧ R.locals = 64 * d := by rw [hRR]; exact ⟨rfl, rfl⟩
  have hX : zm_X p R s m args meth c RX13 "nextRow" cX13_nextRow 6 zk_E V 0 0 := hX
  unfold zf_X13_nextRow at h
  refine zw_sub (lv' := [(0, .ref a0)]) (List.forall_mem_cons.mpr ⟨rfl, zs_nil⟩) ?_
  refine zw_aload_n hX dX13_nextRow_0 rfl ?_
  obtain ⟨v1, g, h⟩ := zb_some h
  refine zw_geti hX zl_X13_94 dX13_nextRow_1 g ?_
  refine zw_iconst (v := (2 : Int32)) hX dX13_nextRow_4 (by decide) ?_
  refine zw_isub hX dX13_nextRow_5 ?_
  refine zw_istore_n hX dX13_nextRow_6 (by decide) ?_
  obtain ⟨r, g, h⟩ := zb_some h
  refine zw_sub (lv' := [(0, .ref a0), (1, .int (v1 - (2 : Int32)))]) (List.forall_mem_cons.mpr ⟨rfl, (List.forall_mem_cons.mpr ⟨rfl, zs_nil⟩)⟩) ?_
  refine zt_X13_nextRow_L7 hX hr hR hd (res := r) (out := out) a0 ?_ ?_ N _ _ g
  · intro o ho
    subst ho
    exact Option.some.inj h
  · intro v7 S6 hx
    subst hx
    try dsimp only at h
    refine zw_sub (lv' := [(0, .ref a0), (1, .int v7)]) (List.forall_mem_cons.mpr ⟨rfl, (List.forall_mem_cons.mpr ⟨rfl, zs_nil⟩)⟩) ?_
    exact zt_X13_nextRow_J34 hX hr hR hd h
set_option maxHeartbeats 4000000 in
set_option maxRecDepth 100000 in
theorem zt_X13_isRight_J35 {p : Program} {l : Launch} {e : Env} {R : Room} {s : State} {m : MethodId} {args : Array Value} {below : List Frame} {meth : Method} {c : Code} {V : zm_V} {mc ms d rc rs : Nat} (hX : zm_X p R s m args meth c RX13 "isRight" cX13_isRight 4 zk_E V mc ms) (hr : meth.sig.returnType = (some .boolean)) (hR : R.frames = d ∧ R.locals = 64 * d) (hd : 1 ≤ d) {N : Nat} {k : Nat → Int32 → Int32 → Int32 → zm_S → Option ((Int32 × zm_S) ⊕ ((Int32) × zm_S))} {a0 : Nat} {i1 : Int32} {i3 : Int32} {res : (Int32 × zm_S) ⊕ ((Int32) × zm_S)} {out : (Int32 × zm_S)}   (hf : ∀ o, res = .inl o → o = out) (hk : ∀ (x2 : Int32) (S' : zm_S), res = .inr (x2, S') → zw p l e R s m args below meth c (vx_MQ below (zm_Qc zk_E V (zo_i out)) (zm_XC zk_E V zo_x) args s mc ms (fun q => V.2.2.2.1 ≤ q)) 4 zk_E V mc ms 43 [(2, .int x2)] [] S' rc rs) (hrec : ∀ (i2' : Int32) (i3' : Int32) (S : zm_S), k a0 i1 i2' i3' S = some res → zw p l e R s m args below meth c (vx_MQ below (zm_Qc zk_E V (zo_i out)) (zm_XC zk_E V zo_x) args s mc ms (fun q => V.2.2.2.1 ≤ q)) 4 zk_E V mc ms 4 [(0, .ref a0), (1, .int i1), (2, .int i2'), (3, .int i3')] [] S rc rs) {S : zm_S} (h : zf_X13_isRight_J35 N k a0 i1 i3 S = some res) : zw p l e R s m args below meth c (vx_MQ below (zm_Qc zk_E V (zo_i out)) (zm_XC zk_E V zo_x) args s mc ms (fun q => V.2.2.2.1 ≤ q)) 4 zk_E V mc ms 35 [(0, .ref a0), (1, .int i1), (3, .int i3)] [] S rc rs := by
  unfold zf_X13_isRight_J35 at h
  refine zw_iconst (v := (0 : Int32)) hX dX13_isRight_35 (by decide) ?_
  refine zw_istore_n hX dX13_isRight_36 (by decide) ?_
  refine zw_iinc (v := (i3 + (1 : Int32))) hX dX13_isRight_37 rfl rfl (by decide) ?_
  refine zw_goto (tgt := 4) hX dX13_isRight_40 (by decide) ?_
  refine zw_sub (lv' := [(0, .ref a0), (1, .int i1), (2, .int (0 : Int32)), (3, .int (i3 + (1 : Int32)))]) (List.forall_mem_cons.mpr ⟨rfl, (List.forall_mem_cons.mpr ⟨rfl, (List.forall_mem_cons.mpr ⟨rfl, (List.forall_mem_cons.mpr ⟨rfl, zs_nil⟩)⟩)⟩)⟩) ?_
  exact hrec _ _ _ h
set_option maxHeartbeats 4000000 in
set_option maxRecDepth 100000 in
theorem zt_X13_isRight_L4 {p : Program} {l : Launch} {e : Env} {R : Room} {s : State} {m : MethodId} {args : Array Value} {below : List Frame} {meth : Method} {c : Code} {V : zm_V} {mc ms d rc rs : Nat} (hX : zm_X p R s m args meth c RX13 "isRight" cX13_isRight 4 zk_E V mc ms) (hr : meth.sig.returnType = (some .boolean)) (hR : R.frames = d ∧ R.locals = 64 * d) (hd : 1 ≤ d) {N : Nat} {res : (Int32 × zm_S) ⊕ ((Int32) × zm_S)} {out : (Int32 × zm_S)} (a0 : Nat) (i1 : Int32) (hf : ∀ o, res = .inl o → o = out) (hk : ∀ (x2 : Int32) (S' : zm_S), res = .inr (x2, S') → zw p l e R s m args below meth c (vx_MQ below (zm_Qc zk_E V (zo_i out)) (zm_XC zk_E V zo_x) args s mc ms (fun q => V.2.2.2.1 ≤ q)) 4 zk_E V mc ms 43 [(2, .int x2)] [] S' rc rs) : ∀ (n : Nat) (i2 : Int32) (i3 : Int32) (S : zm_S), zf_X13_isRight_L4 N n a0 i1 i2 i3 S = some res → zw p l e R s m args below meth c (vx_MQ below (zm_Qc zk_E V (zo_i out)) (zm_XC zk_E V zo_x) args s mc ms (fun q => V.2.2.2.1 ≤ q)) 4 zk_E V mc ms 4 [(0, .ref a0), (1, .int i1), (2, .int i2), (3, .int i3)] [] S rc rs := by
  intro n
  induction n with
  | zero => intro i2 i3 S h; cases h
  | succ n ih =>
    intro i2 i3 S h
    rw [zf_X13_isRight_L4] at h
    refine zw_iload_n hX dX13_isRight_4 rfl ?_
    refine zw_aload_n hX dX13_isRight_5 rfl ?_
    obtain ⟨v1, g, h⟩ := zb_some h
    refine zw_geti hX zl_X13_94 dX13_isRight_6 g ?_
    refine zw_icmp_ge (tgt := 43) hX dX13_isRight_9 (by decide) (fun c9 => ?_) (fun c9 => ?_)
    · rw [if_pos c9] at h
      refine zw_sub (lv' := [(2, .int i2)]) (List.forall_mem_cons.mpr ⟨rfl, zs_nil⟩) ?_
      exact hk _ _ (Option.some.inj h).symm
    · rw [if_neg c9] at h
      refine zw_iload_n hX dX13_isRight_12 rfl ?_
      refine zw_if_eq (tgt := 35) hX dX13_isRight_13 (by decide) (fun c13 => ?_) (fun c13 => ?_)
      · rw [if_pos c13] at h
        refine zw_sub (lv' := [(0, .ref a0), (1, .int i1), (3, .int i3)]) (List.forall_mem_cons.mpr ⟨rfl, (List.forall_mem_cons.mpr ⟨rfl, (List.forall_mem_cons.mpr ⟨rfl, zs_nil⟩)⟩)⟩) ?_
        exact zt_X13_isRight_J35 hX hr hR hd hf hk ih h
      · rw [if_neg c13] at h
        refine zw_aload_n hX dX13_isRight_16 rfl ?_
        obtain ⟨b2, g, h⟩ := zb_some h
        refine zw_getr hX zl_X13_38 dX13_isRight_17 g ?_
        refine zw_aload_n hX dX13_isRight_20 rfl ?_
        obtain ⟨b3, g, h⟩ := zb_some h
        refine zw_getr hX zl_X13_44 dX13_isRight_21 g ?_
        refine zw_iload_n hX dX13_isRight_24 rfl ?_
        obtain ⟨v4, g, h⟩ := zb_some h
        refine zw_xi hX dX13_isRight_25 g ?_
        obtain ⟨v5, g, h⟩ := zb_some h
        refine zw_xi hX dX13_isRight_26 g ?_
        refine zw_iload_n hX dX13_isRight_27 rfl ?_
        refine zw_icmp_eq (tgt := 35) hX dX13_isRight_28 (by decide) (fun c28 => ?_) (fun c28 => ?_)
        · rw [if_pos c28] at h
          refine zw_sub (lv' := [(0, .ref a0), (1, .int i1), (3, .int i3)]) (List.forall_mem_cons.mpr ⟨rfl, (List.forall_mem_cons.mpr ⟨rfl, (List.forall_mem_cons.mpr ⟨rfl, zs_nil⟩)⟩)⟩) ?_
          exact zt_X13_isRight_J35 hX hr hR hd hf hk ih h
        · rw [if_neg c28] at h
          refine zw_iconst (v := (1 : Int32)) hX dX13_isRight_31 (by decide) ?_
          refine zw_goto (tgt := 36) hX dX13_isRight_32 (by decide) ?_
          refine zw_istore_n hX dX13_isRight_36 (by decide) ?_
          refine zw_iinc (v := (i3 + (1 : Int32))) hX dX13_isRight_37 rfl rfl (by decide) ?_
          refine zw_goto (tgt := 4) hX dX13_isRight_40 (by decide) ?_
          refine zw_sub (lv' := [(0, .ref a0), (1, .int i1), (2, .int (1 : Int32)), (3, .int (i3 + (1 : Int32)))]) (List.forall_mem_cons.mpr ⟨rfl, (List.forall_mem_cons.mpr ⟨rfl, (List.forall_mem_cons.mpr ⟨rfl, (List.forall_mem_cons.mpr ⟨rfl, zs_nil⟩)⟩)⟩)⟩) ?_
          exact ih _ _ _ h
set_option maxHeartbeats 4000000 in
set_option maxRecDepth 100000 in
theorem zt_X13_isRight {l : Launch} {V : zm_V} {N : Nat} {S : zm_S} {out : (Int32 × zm_S)} {d : Nat} {a0 : Nat} {i1 : Int32} (hd : 1 ≤ d) (h : zf_X13_isRight N a0 i1 S = some out) : zm_Met l zk_E V yX13_isRight (.code yX13_isRight cX13_isRight 4 (some .boolean)) d [.ref a0, .int i1] S 0 0 (zo_i out) zo_x := by
  refine zm_of (by decide +kernel) (Nat.le_of_ble_eq_true rfl) ?_
  intro p e R s m args below meth c hRR hX hr hxt
  have hR : R.frames = d ∧ R.locals = 64 * d := by rw [hRR]; exact ⟨rfl, rfl⟩
  have hX : zm_X p R s m args meth c RX13 "isRight" cX13_isRight 4 zk_E V 0 0 := hX
  unfold zf_X13_isRight at h
  refine zw_sub (lv' := [(0, .ref a0), (1, .int i1)]) (List.forall_mem_cons.mpr ⟨rfl, (List.forall_mem_cons.mpr ⟨rfl, zs_nil⟩)⟩) ?_
  refine zw_iconst (v := (1 : Int32)) hX dX13_isRight_0 (by decide) ?_
  refine zw_istore_n hX dX13_isRight_1 (by decide) ?_
  refine zw_iconst (v := (1 : Int32)) hX dX13_isRight_2 (by decide) ?_
  refine zw_istore_n hX dX13_isRight_3 (by decide) ?_
  obtain ⟨r, g, h⟩ := zb_some h
  refine zw_sub (lv' := [(0, .ref a0), (1, .int i1), (2, .int (1 : Int32)), (3, .int (1 : Int32))]) (List.forall_mem_cons.mpr ⟨rfl, (List.forall_mem_cons.mpr ⟨rfl, (List.forall_mem_cons.mpr ⟨rfl, (List.forall_mem_cons.mpr ⟨rfl, zs_nil⟩)⟩)⟩)⟩) ?_
  refine zt_X13_isRight_L4 hX hr hR hd (res := r) (out := out) a0 i1 ?_ ?_ N _ _ _ g
  · intro o ho
    subst ho
    exact Option.some.inj h
  · intro v7 S6 hx
    subst hx
    try dsimp only at h
    refine zw_iload_n hX dX13_isRight_43 rfl ?_
    by_cases cz : v7 = 0 ∨ v7 = 1
    · rw [if_pos cz] at h
      obtain rfl := Option.some.inj h
      exact zw_iret hX hr dX13_isRight_44 (zn_z cz) ⟨rfl, rfl⟩
    · rw [if_neg cz] at h
      cases h
set_option maxHeartbeats 4000000 in
set_option maxRecDepth 100000 in
theorem zt_X13_findRow_L24 {p : Program} {l : Launch} {e : Env} {R : Room} {s : State} {m : MethodId} {args : Array Value} {below : List Frame} {meth : Method} {c : Code} {V : zm_V} {mc ms d rc rs : Nat} (hX : zm_X p R s m args meth c RX13 "findRow" cX13_findRow 8 zk_E V mc ms) (hr : meth.sig.returnType = none) (hR : R.frames = d ∧ R.locals = 64 * d) (hd : 3 ≤ d) {N : Nat} {res : (Unit × zm_S) ⊕ ((Unit) × zm_S)} {out : (Unit × zm_S)} (a0 : Nat) (i1 : Int32) (i2 : Int32) (i3 : Int32) (hf : ∀ o, res = .inl o → o = out) (hk : ∀ (S' : zm_S), res = .inr ((), S') → zw p l e R s m args below meth c (vx_MQ below (zm_Qc zk_E V (zo_v out)) (zm_XC zk_E V zo_x) args s mc ms (fun q => V.2.2.2.1 ≤ q)) 8 zk_E V mc ms 94 [(0, .ref a0), (1, .int i1), (3, .int i3)] [] S' rc rs) : ∀ (n : Nat) (i4 : Int32) (S : zm_S), zf_X13_findRow_L24 N n a0 i1 i2 i3 i4 S = some res → zw p l e R s m args below meth c (vx_MQ below (zm_Qc zk_E V (zo_v out)) (zm_XC zk_E V zo_x) args s mc ms (fun q => V.2.2.2.1 ≤ q)) 8 zk_E V mc ms 24 [(0, .ref a0), (1, .int i1), (2, .int i2), (3, .int i3), (4, .int i4)] [] S rc rs := by
  intro n
  induction n with
  | zero => intro i4 S h; cases h
  | succ n ih =>
    intro i4 S h
    rw [zf_X13_findRow_L24] at h
    refine zw_iload hX dX13_findRow_24 rfl ?_
    refine zw_aload_n hX dX13_findRow_26 rfl ?_
    obtain ⟨v4, g, h⟩ := zb_some h
    refine zw_geti hX zl_X13_84 dX13_findRow_27 g ?_
    refine zw_icmp_ge (tgt := 94) hX dX13_findRow_30 (by decide) (fun c30 => ?_) (fun c30 => ?_)
    · rw [if_pos c30] at h
      refine zw_sub (lv' := [(0, .ref a0), (1, .int i1), (3, .int i3)]) (List.forall_mem_cons.mpr ⟨rfl, (List.forall_mem_cons.mpr ⟨rfl, (List.forall_mem_cons.mpr ⟨rfl, zs_nil⟩)⟩)⟩) ?_
      exact hk  _ (Option.some.inj h).symm
    · rw [if_neg c30] at h
      refine zw_iload_n hX dX13_findRow_33 rfl ?_
      refine zw_iload hX dX13_findRow_34 rfl ?_
      refine zw_ishr hX dX13_findRow_36 ?_
      refine zw_iconst (v := (1 : Int32)) hX dX13_findRow_37 (by decide) ?_
      refine zw_iand hX dX13_findRow_38 ?_
      refine zw_iconst (v := (1 : Int32)) hX dX13_findRow_39 (by decide) ?_
      refine zw_icmp_ne (tgt := 88) hX dX13_findRow_40 (by decide) (fun c40 => ?_) (fun c40 => ?_)
      · rw [if_neg c40] at h
        refine zw_iinc (v := (i4 + (1 : Int32))) hX dX13_findRow_88 rfl rfl (by decide) ?_
        refine zw_goto (tgt := 24) hX dX13_findRow_91 (by decide) ?_
        refine zw_sub (lv' := [(0, .ref a0), (1, .int i1), (2, .int i2), (3, .int i3), (4, .int (i4 + (1 : Int32)))]) (List.forall_mem_cons.mpr ⟨rfl, (List.forall_mem_cons.mpr ⟨rfl, (List.forall_mem_cons.mpr ⟨rfl, (List.forall_mem_cons.mpr ⟨rfl, (List.forall_mem_cons.mpr ⟨rfl, zs_nil⟩)⟩)⟩)⟩)⟩) ?_
        exact ih _ _ h
      · rw [if_pos c40] at h
        refine zw_aload_n hX dX13_findRow_43 rfl ?_
        obtain ⟨b5, g, h⟩ := zb_some h
        refine zw_getr hX zl_X13_44 dX13_findRow_44 g ?_
        refine zw_aload_n hX dX13_findRow_47 rfl ?_
        obtain ⟨v6, g, h⟩ := zb_some h
        refine zw_geti hX zl_X13_94 dX13_findRow_48 g ?_
        refine zw_aload_n hX dX13_findRow_51 rfl ?_
        obtain ⟨b7, g, h⟩ := zb_some h
        refine zw_getr hX zl_X13_41 dX13_findRow_52 g ?_
        refine zw_iload hX dX13_findRow_55 rfl ?_
        obtain ⟨v8, g, h⟩ := zb_some h
        refine zw_xi hX dX13_findRow_57 g ?_
        obtain ⟨S9, g, h⟩ := zb_some h
        refine zw_si hX dX13_findRow_58 g ?_
        refine zw_aload_n hX dX13_findRow_59 rfl ?_
        refine zw_dup hX dX13_findRow_60 rfl ?_
        obtain ⟨v10, g, h⟩ := zb_some h
        refine zw_geti hX zl_X13_94 dX13_findRow_61 g ?_
        refine zw_iconst (v := (1 : Int32)) hX dX13_findRow_64 (by decide) ?_
        refine zw_iadd hX dX13_findRow_65 ?_
        obtain ⟨S11, g, h⟩ := zb_some h
        refine zw_putv hX zl_X13_94 zt_13_16 dX13_findRow_66 rfl rfl g ?_
        refine zw_aload_n hX dX13_findRow_69 rfl ?_
        refine zw_aload_n hX dX13_findRow_70 rfl ?_
        obtain ⟨b12, g, h⟩ := zb_some h
        refine zw_getr hX zl_X13_41 dX13_findRow_71 g ?_
        refine zw_iload hX dX13_findRow_74 rfl ?_
        obtain ⟨v13, g, h⟩ := zb_some h
        refine zw_xi hX dX13_findRow_76 g ?_
        obtain ⟨_, gi, h⟩ := zb_some h
        obtain ⟨r15, g, h⟩ := zb_some h
        refine zc_Vi (as := [.int v13]) hX gi (zt_X13_carsOf (d := d - 1) (by omega) g) zl_X13_87 rfl dX13_findRow_77 ⟨rfl, rfl, Nat.le_of_ble_eq_true rfl⟩ ⟨by omega, by omega⟩ ?_
        refine zw_iload_n hX dX13_findRow_80 rfl ?_
        refine zw_ishr hX dX13_findRow_81 ?_
        refine zw_iconst (v := (1 : Int32)) hX dX13_findRow_82 (by decide) ?_
        refine zw_iand hX dX13_findRow_83 ?_
        refine zw_if_ne (tgt := 88) hX dX13_findRow_84 (by decide) (fun c84 => ?_) (fun c84 => ?_)
        · rw [if_neg c84] at h
          refine zw_iinc (v := (i4 + (1 : Int32))) hX dX13_findRow_88 rfl rfl (by decide) ?_
          refine zw_goto (tgt := 24) hX dX13_findRow_91 (by decide) ?_
          refine zw_sub (lv' := [(0, .ref a0), (1, .int i1), (2, .int i2), (3, .int i3), (4, .int (i4 + (1 : Int32)))]) (List.forall_mem_cons.mpr ⟨rfl, (List.forall_mem_cons.mpr ⟨rfl, (List.forall_mem_cons.mpr ⟨rfl, (List.forall_mem_cons.mpr ⟨rfl, (List.forall_mem_cons.mpr ⟨rfl, zs_nil⟩)⟩)⟩)⟩)⟩) ?_
          exact ih _ _ h
        · rw [if_pos c84] at h
          have hz := hf _ (Option.some.inj h).symm
          subst hz
          exact zw_vret hX hr dX13_findRow_87 ⟨rfl, rfl⟩
set_option maxHeartbeats 4000000 in
set_option maxRecDepth 100000 in
theorem zt_X13_findRow_J174 {p : Program} {l : Launch} {e : Env} {R : Room} {s : State} {m : MethodId} {args : Array Value} {below : List Frame} {meth : Method} {c : Code} {V : zm_V} {mc ms d rc rs : Nat} (hX : zm_X p R s m args meth c RX13 "findRow" cX13_findRow 8 zk_E V mc ms) (hr : meth.sig.returnType = none) (hR : R.frames = d ∧ R.locals = 64 * d) (hd : 3 ≤ d) {N : Nat} {k : Nat → Int32 → Int32 → Int32 → zm_S → Option ((Unit × zm_S) ⊕ ((Unit) × zm_S))} {a0 : Nat} {i1 : Int32} {i3 : Int32} {res : (Unit × zm_S) ⊕ ((Unit) × zm_S)} {out : (Unit × zm_S)}   (hf : ∀ o, res = .inl o → o = out) (hk : ∀ (S' : zm_S), res = .inr ((), S') → zw p l e R s m args below meth c (vx_MQ below (zm_Qc zk_E V (zo_v out)) (zm_XC zk_E V zo_x) args s mc ms (fun q => V.2.2.2.1 ≤ q)) 8 zk_E V mc ms 183 [] [] S' rc rs) (hrec : ∀ (i4' : Int32) (S : zm_S), k a0 i1 i3 i4' S = some res → zw p l e R s m args below meth c (vx_MQ below (zm_Qc zk_E V (zo_v out)) (zm_XC zk_E V zo_x) args s mc ms (fun q => V.2.2.2.1 ≤ q)) 8 zk_E V mc ms 97 [(0, .ref a0), (1, .int i1), (3, .int i3), (4, .int i4')] [] S rc rs) {S : zm_S} (h : zf_X13_findRow_J174 N k a0 i1 i3 S = some res) : zw p l e R s m args below meth c (vx_MQ below (zm_Qc zk_E V (zo_v out)) (zm_XC zk_E V zo_x) args s mc ms (fun q => V.2.2.2.1 ≤ q)) 8 zk_E V mc ms 174 [(0, .ref a0), (1, .int i1), (3, .int i3)] [] S rc rs := by
  unfold zf_X13_findRow_J174 at h
  refine zw_aload_n hX dX13_findRow_174 rfl ?_
  obtain ⟨_, gi, h⟩ := zb_some h
  obtain ⟨r22, g, h⟩ := zb_some h
  refine zc_Vi (as := []) hX gi (zt_X13_nextRow (d := d - 1) (by omega) g) zl_X13_114 rfl dX13_findRow_175 ⟨rfl, rfl, Nat.le_of_ble_eq_true rfl⟩ ⟨by omega, by omega⟩ ?_
  refine zw_istore hX dX13_findRow_178 (by decide) ?_
  refine zw_goto (tgt := 97) hX dX13_findRow_180 (by decide) ?_
  refine zw_sub (lv' := [(0, .ref a0), (1, .int i1), (3, .int i3), (4, .int r22.1)]) (List.forall_mem_cons.mpr ⟨rfl, (List.forall_mem_cons.mpr ⟨rfl, (List.forall_mem_cons.mpr ⟨rfl, (List.forall_mem_cons.mpr ⟨rfl, zs_nil⟩)⟩)⟩)⟩) ?_
  exact hrec _ _ h
set_option maxHeartbeats 4000000 in
set_option maxRecDepth 100000 in
theorem zt_X13_findRow_L140 {p : Program} {l : Launch} {e : Env} {R : Room} {s : State} {m : MethodId} {args : Array Value} {below : List Frame} {meth : Method} {c : Code} {V : zm_V} {mc ms d rc rs : Nat} (hX : zm_X p R s m args meth c RX13 "findRow" cX13_findRow 8 zk_E V mc ms) (hr : meth.sig.returnType = none) (hR : R.frames = d ∧ R.locals = 64 * d) (hd : 3 ≤ d) {N : Nat} {res : (Unit × zm_S) ⊕ ((Unit) × zm_S)} {out : (Unit × zm_S)} (a0 : Nat) (i1 : Int32) (i3 : Int32) (hf : ∀ o, res = .inl o → o = out) (hk : ∀ (S' : zm_S), res = .inr ((), S') → zw p l e R s m args below meth c (vx_MQ below (zm_Qc zk_E V (zo_v out)) (zm_XC zk_E V zo_x) args s mc ms (fun q => V.2.2.2.1 ≤ q)) 8 zk_E V mc ms 174 [(0, .ref a0), (1, .int i1), (3, .int i3)] [] S' rc rs) : ∀ (n : Nat) (i7 : Int32) (S : zm_S), zf_X13_findRow_L140 N n a0 i1 i3 i7 S = some res → zw p l e R s m args below meth c (vx_MQ below (zm_Qc zk_E V (zo_v out)) (zm_XC zk_E V zo_x) args s mc ms (fun q => V.2.2.2.1 ≤ q)) 8 zk_E V mc ms 140 [(0, .ref a0), (1, .int i1), (3, .int i3), (7, .int i7)] [] S rc rs := by
  intro n
  induction n with
  | zero => intro i7 S h; cases h
  | succ n ih =>
    intro i7 S h
    rw [zf_X13_findRow_L140] at h
    refine zw_iload hX dX13_findRow_140 rfl ?_
    refine zw_aload_n hX dX13_findRow_142 rfl ?_
    obtain ⟨v27, g, h⟩ := zb_some h
    refine zw_geti hX zl_X13_94 dX13_findRow_143 g ?_
    refine zw_icmp_ge (tgt := 174) hX dX13_findRow_146 (by decide) (fun c146 => ?_) (fun c146 => ?_)
    · rw [if_pos c146] at h
      refine zw_sub (lv' := [(0, .ref a0), (1, .int i1), (3, .int i3)]) (List.forall_mem_cons.mpr ⟨rfl, (List.forall_mem_cons.mpr ⟨rfl, (List.forall_mem_cons.mpr ⟨rfl, zs_nil⟩)⟩)⟩) ?_
      exact hk  _ (Option.some.inj h).symm
    · rw [if_neg c146] at h
      refine zw_aload_n hX dX13_findRow_149 rfl ?_
      obtain ⟨b28, g, h⟩ := zb_some h
      refine zw_getr hX zl_X13_51 dX13_findRow_150 g ?_
      refine zw_bipush (v := (6 : Int32)) hX dX13_findRow_153 (by decide) ?_
      refine zw_iload_n hX dX13_findRow_155 rfl ?_
      refine zw_imul hX dX13_findRow_156 ?_
      refine zw_iload hX dX13_findRow_157 rfl ?_
      refine zw_iadd hX dX13_findRow_159 ?_
      refine zw_aload_n hX dX13_findRow_160 rfl ?_
      obtain ⟨b29, g, h⟩ := zb_some h
      refine zw_getr hX zl_X13_44 dX13_findRow_161 g ?_
      refine zw_iload hX dX13_findRow_164 rfl ?_
      obtain ⟨v30, g, h⟩ := zb_some h
      refine zw_xi hX dX13_findRow_166 g ?_
      obtain ⟨S31, g, h⟩ := zb_some h
      refine zw_si hX dX13_findRow_167 g ?_
      refine zw_iinc (v := (i7 + (1 : Int32))) hX dX13_findRow_168 rfl rfl (by decide) ?_
      refine zw_goto (tgt := 140) hX dX13_findRow_171 (by decide) ?_
      refine zw_sub (lv' := [(0, .ref a0), (1, .int i1), (3, .int i3), (7, .int (i7 + (1 : Int32)))]) (List.forall_mem_cons.mpr ⟨rfl, (List.forall_mem_cons.mpr ⟨rfl, (List.forall_mem_cons.mpr ⟨rfl, (List.forall_mem_cons.mpr ⟨rfl, zs_nil⟩)⟩)⟩)⟩) ?_
      exact ih _ _ h
set_option maxHeartbeats 4000000 in
set_option maxRecDepth 100000 in
theorem zt_X13_findRow_L97 {p : Program} {l : Launch} {e : Env} {R : Room} {s : State} {m : MethodId} {args : Array Value} {below : List Frame} {meth : Method} {c : Code} {V : zm_V} {mc ms d rc rs : Nat} (hX : zm_X p R s m args meth c RX13 "findRow" cX13_findRow 8 zk_E V mc ms) (hr : meth.sig.returnType = none) (hR : R.frames = d ∧ R.locals = 64 * d) (hd : 3 ≤ d) {N : Nat} {res : (Unit × zm_S) ⊕ ((Unit) × zm_S)} {out : (Unit × zm_S)} (a0 : Nat) (i1 : Int32) (i3 : Int32) (hf : ∀ o, res = .inl o → o = out) (hk : ∀ (S' : zm_S), res = .inr ((), S') → zw p l e R s m args below meth c (vx_MQ below (zm_Qc zk_E V (zo_v out)) (zm_XC zk_E V zo_x) args s mc ms (fun q => V.2.2.2.1 ≤ q)) 8 zk_E V mc ms 183 [] [] S' rc rs) : ∀ (n : Nat) (i4 : Int32) (S : zm_S), zf_X13_findRow_L97 N n a0 i1 i3 i4 S = some res → zw p l e R s m args below meth c (vx_MQ below (zm_Qc zk_E V (zo_v out)) (zm_XC zk_E V zo_x) args s mc ms (fun q => V.2.2.2.1 ≤ q)) 8 zk_E V mc ms 97 [(0, .ref a0), (1, .int i1), (3, .int i3), (4, .int i4)] [] S rc rs := by
  intro n
  induction n with
  | zero => intro i4 S h; cases h
  | succ n ih =>
    intro i4 S h
    rw [zf_X13_findRow_L97] at h
    refine zw_iload hX dX13_findRow_97 rfl ?_
    refine zw_if_eq (tgt := 183) hX dX13_findRow_99 (by decide) (fun c99 => ?_) (fun c99 => ?_)
    · rw [if_pos c99] at h
      refine zw_sub (lv' := []) zs_nil ?_
      exact hk  _ (Option.some.inj h).symm
    · rw [if_neg c99] at h
      refine zw_aload_n hX dX13_findRow_102 rfl ?_
      refine zw_iload_n hX dX13_findRow_103 rfl ?_
      obtain ⟨_, gi, h⟩ := zb_some h
      obtain ⟨r18, g, h⟩ := zb_some h
      refine zc_Vl (as := [.int i1]) hX gi (zt_X13_costOf (d := d - 1) (by omega) g) zl_X13_106 rfl dX13_findRow_104 ⟨rfl, rfl, Nat.le_of_ble_eq_true rfl⟩ ⟨by omega, by omega⟩ ?_
      refine zw_lstore hX dX13_findRow_107 (by decide) ?_
      refine zw_aload_n hX dX13_findRow_109 rfl ?_
      refine zw_iload_n hX dX13_findRow_110 rfl ?_
      obtain ⟨_, gi, h⟩ := zb_some h
      obtain ⟨r20, g, h⟩ := zb_some h
      refine zc_Vi (as := [.int i1]) hX gi (zt_X13_isRight (d := d - 1) (by omega) g) zl_X13_110 rfl dX13_findRow_111 ⟨rfl, rfl, Nat.le_of_ble_eq_true rfl⟩ ⟨by omega, by omega⟩ ?_
      refine zw_if_eq (tgt := 174) hX dX13_findRow_114 (by decide) (fun c114 => ?_) (fun c114 => ?_)
      · rw [if_pos c114] at h
        refine zw_sub (lv' := [(0, .ref a0), (1, .int i1), (3, .int i3)]) (List.forall_mem_cons.mpr ⟨rfl, (List.forall_mem_cons.mpr ⟨rfl, (List.forall_mem_cons.mpr ⟨rfl, zs_nil⟩)⟩)⟩) ?_
        exact zt_X13_findRow_J174 hX hr hR hd hf hk ih h
      · rw [if_neg c114] at h
        refine zw_lload hX dX13_findRow_117 rfl ?_
        refine zw_aload_n hX dX13_findRow_119 rfl ?_
        obtain ⟨b23, g, h⟩ := zb_some h
        refine zw_getr hX zl_X13_47 dX13_findRow_120 g ?_
        refine zw_iload_n hX dX13_findRow_123 rfl ?_
        obtain ⟨w24, g, h⟩ := zb_some h
        refine zw_xl hX dX13_findRow_124 g ?_
        refine zw_lcmp hX dX13_findRow_125 ?_
        refine zw_if_ge (tgt := 174) hX dX13_findRow_126 (by decide) (fun c126 => ?_) (fun c126 => ?_)
        · rw [if_pos c126] at h
          refine zw_sub (lv' := [(0, .ref a0), (1, .int i1), (3, .int i3)]) (List.forall_mem_cons.mpr ⟨rfl, (List.forall_mem_cons.mpr ⟨rfl, (List.forall_mem_cons.mpr ⟨rfl, zs_nil⟩)⟩)⟩) ?_
          exact zt_X13_findRow_J174 hX hr hR hd hf hk ih h
        · rw [if_neg c126] at h
          refine zw_aload_n hX dX13_findRow_129 rfl ?_
          obtain ⟨b25, g, h⟩ := zb_some h
          refine zw_getr hX zl_X13_47 dX13_findRow_130 g ?_
          refine zw_iload_n hX dX13_findRow_133 rfl ?_
          refine zw_lload hX dX13_findRow_134 rfl ?_
          obtain ⟨S26, g, h⟩ := zb_some h
          refine zw_sl hX dX13_findRow_136 g ?_
          refine zw_iconst (v := (0 : Int32)) hX dX13_findRow_137 (by decide) ?_
          refine zw_istore hX dX13_findRow_138 (by decide) ?_
          obtain ⟨r, g, h⟩ := zb_some h
          refine zw_sub (lv' := [(0, .ref a0), (1, .int i1), (3, .int i3), (7, .int (0 : Int32))]) (List.forall_mem_cons.mpr ⟨rfl, (List.forall_mem_cons.mpr ⟨rfl, (List.forall_mem_cons.mpr ⟨rfl, (List.forall_mem_cons.mpr ⟨rfl, zs_nil⟩)⟩)⟩)⟩) ?_
          refine zt_X13_findRow_L140 hX hr hR hd (res := r) (out := out) a0 i1 i3 ?_ ?_ N _ _ g
          · intro o ho
            subst ho
            exact hf _ (Option.some.inj h).symm
          · intro  S32 hx
            subst hx
            try dsimp only at h
            refine zw_sub (lv' := [(0, .ref a0), (1, .int i1), (3, .int i3)]) (List.forall_mem_cons.mpr ⟨rfl, (List.forall_mem_cons.mpr ⟨rfl, (List.forall_mem_cons.mpr ⟨rfl, zs_nil⟩)⟩)⟩) ?_
            exact zt_X13_findRow_J174 hX hr hR hd hf hk ih h
set_option maxHeartbeats 4000000 in
set_option maxRecDepth 100000 in
theorem zt_X13_findRow {l : Launch} {V : zm_V} {N : Nat} {S : zm_S} {out : (Unit × zm_S)} {d : Nat} {a0 : Nat} {i1 : Int32} {i2 : Int32} (hd : 3 ≤ d) (h : zf_X13_findRow N a0 i1 i2 S = some out) : zm_Met l zk_E V yX13_findRow (.code yX13_findRow cX13_findRow 8 none) d [.ref a0, .int i1, .int i2] S 0 0 (zo_v out) zo_x := by
  refine zm_of (by decide +kernel) (Nat.le_of_ble_eq_true rfl) ?_
  intro p e R s m args below meth c hRR hX hr hxt
  have hR : R.frames = d ∧ R.locals = 64 * d := by rw [hRR]; exact ⟨rfl, rfl⟩
  have hX : zm_X p R s m args meth c RX13 "findRow" cX13_findRow 8 zk_E V 0 0 := hX
  unfold zf_X13_findRow at h
  refine zw_sub (lv' := [(0, .ref a0), (1, .int i1), (2, .int i2)]) (List.forall_mem_cons.mpr ⟨rfl, (List.forall_mem_cons.mpr ⟨rfl, (List.forall_mem_cons.mpr ⟨rfl, zs_nil⟩)⟩)⟩) ?_
  refine zw_bipush (v := (64 : Int32)) hX dX13_findRow_0 (by decide) ?_
  refine zw_iload_n hX dX13_findRow_2 rfl ?_
  refine zw_imul hX dX13_findRow_3 ?_
  refine zw_iload_n hX dX13_findRow_4 rfl ?_
  refine zw_iadd hX dX13_findRow_5 ?_
  refine zw_istore_n hX dX13_findRow_6 (by decide) ?_
  refine zw_aload_n hX dX13_findRow_7 rfl ?_
  obtain ⟨b1, g, h⟩ := zb_some h
  refine zw_getr hX zl_X13_47 dX13_findRow_8 g ?_
  refine zw_iload_n hX dX13_findRow_11 rfl ?_
  refine zw_ldc2 (v := (1152921504606846976 : Int64)) hX dX13_findRow_12 zl_X13_104 ?_
  obtain ⟨S2, g, h⟩ := zb_some h
  refine zw_sl hX dX13_findRow_15 g ?_
  refine zw_aload_n hX dX13_findRow_16 rfl ?_
  refine zw_iconst (v := (0 : Int32)) hX dX13_findRow_17 (by decide) ?_
  obtain ⟨S3, g, h⟩ := zb_some h
  refine zw_putv hX zl_X13_94 zt_13_16 dX13_findRow_18 rfl rfl g ?_
  refine zw_iconst (v := (0 : Int32)) hX dX13_findRow_21 (by decide) ?_
  refine zw_istore hX dX13_findRow_22 (by decide) ?_
  obtain ⟨r, g, h⟩ := zb_some h
  refine zw_sub (lv' := [(0, .ref a0), (1, .int i1), (2, .int i2), (3, .int (((64 : Int32) * i1) + i2)), (4, .int (0 : Int32))]) (List.forall_mem_cons.mpr ⟨rfl, (List.forall_mem_cons.mpr ⟨rfl, (List.forall_mem_cons.mpr ⟨rfl, (List.forall_mem_cons.mpr ⟨rfl, (List.forall_mem_cons.mpr ⟨rfl, zs_nil⟩)⟩)⟩)⟩)⟩) ?_
  refine zt_X13_findRow_L24 hX hr hR hd (res := r) (out := out) a0 i1 i2 (((64 : Int32) * i1) + i2) ?_ ?_ N _ _ g
  · intro o ho
    subst ho
    exact Option.some.inj h
  · intro  S16 hx
    subst hx
    try dsimp only at h
    refine zw_iconst (v := (1 : Int32)) hX dX13_findRow_94 (by decide) ?_
    refine zw_istore hX dX13_findRow_95 (by decide) ?_
    obtain ⟨r, g, h⟩ := zb_some h
    refine zw_sub (lv' := [(0, .ref a0), (1, .int i1), (3, .int (((64 : Int32) * i1) + i2)), (4, .int (1 : Int32))]) (List.forall_mem_cons.mpr ⟨rfl, (List.forall_mem_cons.mpr ⟨rfl, (List.forall_mem_cons.mpr ⟨rfl, (List.forall_mem_cons.mpr ⟨rfl, zs_nil⟩)⟩)⟩)⟩) ?_
    refine zt_X13_findRow_L97 hX hr hR hd (res := r) (out := out) a0 i1 (((64 : Int32) * i1) + i2) ?_ ?_ N _ _ g
    · intro o ho
      subst ho
      exact Option.some.inj h
    · intro  S33 hx
      subst hx
      try dsimp only at h
      obtain rfl := Option.some.inj h
      exact zw_vret hX hr dX13_findRow_183 ⟨rfl, rfl⟩
set_option maxHeartbeats 4000000 in
set_option maxRecDepth 100000 in
theorem zt_X13_bitsOf_J38 {p : Program} {l : Launch} {e : Env} {R : Room} {s : State} {m : MethodId} {args : Array Value} {below : List Frame} {meth : Method} {c : Code} {V : zm_V} {mc ms d rc rs : Nat} (hX : zm_X p R s m args meth c RX13 "bitsOf" cX13_bitsOf 6 zk_E V mc ms) (hr : meth.sig.returnType = (some .int)) (hR : R.frames = d ∧ R.locals = 64 * d) (hd : 1 ≤ d) {N : Nat} {k : Nat → Int32 → Int32 → Int32 → Int32 → zm_S → Option ((Int32 × zm_S) ⊕ ((Int32) × zm_S))} {a0 : Nat} {i2 : Int32} {i4 : Int32} {i5 : Int32} {t0 : Int32} {t1 : Int32} {res : (Int32 × zm_S) ⊕ ((Int32) × zm_S)} {out : (Int32 × zm_S)}   (hf : ∀ o, res = .inl o → o = out) (hk : ∀ (x3 : Int32) (S' : zm_S), res = .inr (x3, S') → zw p l e R s m args below meth c (vx_MQ below (zm_Qc zk_E V (zo_i out)) (zm_XC zk_E V zo_x) args s mc ms (fun q => V.2.2.2.1 ≤ q)) 6 zk_E V mc ms 55 [(3, .int x3)] [] S' rc rs) (hrec : ∀ (i3' : Int32) (i4' : Int32) (i5' : Int32) (S : zm_S), k a0 i2 i3' i4' i5' S = some res → zw p l e R s m args below meth c (vx_MQ below (zm_Qc zk_E V (zo_i out)) (zm_XC zk_E V zo_x) args s mc ms (fun q => V.2.2.2.1 ≤ q)) 6 zk_E V mc ms 13 [(0, .ref a0), (2, .int i2), (3, .int i3'), (4, .int i4'), (5, .int i5')] [] S rc rs) {S : zm_S} (h : zf_X13_bitsOf_J38 N k a0 i2 i4 i5 t0 t1 S = some res) : zw p l e R s m args below meth c (vx_MQ below (zm_Qc zk_E V (zo_i out)) (zm_XC zk_E V zo_x) args s mc ms (fun q => V.2.2.2.1 ≤ q)) 6 zk_E V mc ms 38 [(0, .ref a0), (2, .int i2), (4, .int i4), (5, .int i5)] [.int t1, .int t0] S rc rs := by
  unfold zf_X13_bitsOf_J38 at h
  refine zw_ior hX dX13_bitsOf_38 ?_
  refine zw_istore_n hX dX13_bitsOf_39 (by decide) ?_
  refine zw_iload hX dX13_bitsOf_40 rfl ?_
  refine zw_aload_n hX dX13_bitsOf_42 rfl ?_
  obtain ⟨v3, g, h⟩ := zb_some h
  refine zw_geti hX zl_X13_70 dX13_bitsOf_43 g ?_
  by_cases c0 : v3 = 0
  · rw [if_pos c0] at h
    cases h
  rw [if_neg c0] at h
  refine zw_idiv hX dX13_bitsOf_46 c0 ?_
  refine zw_istore hX dX13_bitsOf_47 (by decide) ?_
  refine zw_iinc (v := (i5 + (-1 : Int32))) hX dX13_bitsOf_49 rfl rfl (by decide) ?_
  refine zw_goto (tgt := 13) hX dX13_bitsOf_52 (by decide) ?_
  refine zw_sub (lv' := [(0, .ref a0), (2, .int i2), (3, .int (t0 ||| t1)), (4, .int (i4 / v3)), (5, .int (i5 + (-1 : Int32)))]) (List.forall_mem_cons.mpr ⟨rfl, (List.forall_mem_cons.mpr ⟨rfl, (List.forall_mem_cons.mpr ⟨rfl, (List.forall_mem_cons.mpr ⟨rfl, (List.forall_mem_cons.mpr ⟨rfl, zs_nil⟩)⟩)⟩)⟩)⟩) ?_
  exact hrec _ _ _ _ h
set_option maxHeartbeats 4000000 in
set_option maxRecDepth 100000 in
theorem zt_X13_bitsOf_L13 {p : Program} {l : Launch} {e : Env} {R : Room} {s : State} {m : MethodId} {args : Array Value} {below : List Frame} {meth : Method} {c : Code} {V : zm_V} {mc ms d rc rs : Nat} (hX : zm_X p R s m args meth c RX13 "bitsOf" cX13_bitsOf 6 zk_E V mc ms) (hr : meth.sig.returnType = (some .int)) (hR : R.frames = d ∧ R.locals = 64 * d) (hd : 1 ≤ d) {N : Nat} {res : (Int32 × zm_S) ⊕ ((Int32) × zm_S)} {out : (Int32 × zm_S)} (a0 : Nat) (i2 : Int32) (hf : ∀ o, res = .inl o → o = out) (hk : ∀ (x3 : Int32) (S' : zm_S), res = .inr (x3, S') → zw p l e R s m args below meth c (vx_MQ below (zm_Qc zk_E V (zo_i out)) (zm_XC zk_E V zo_x) args s mc ms (fun q => V.2.2.2.1 ≤ q)) 6 zk_E V mc ms 55 [(3, .int x3)] [] S' rc rs) : ∀ (n : Nat) (i3 : Int32) (i4 : Int32) (i5 : Int32) (S : zm_S), zf_X13_bitsOf_L13 N n a0 i2 i3 i4 i5 S = some res → zw p l e R s m args below meth c (vx_MQ below (zm_Qc zk_E V (zo_i out)) (zm_XC zk_E V zo_x) args s mc ms (fun q => V.2.2.2.1 ≤ q)) 6 zk_E V mc ms 13 [(0, .ref a0), (2, .int i2), (3, .int i3), (4, .int i4), (5, .int i5)] [] S rc rs := by
  intro n
  induction n with
  | zero => intro i3 i4 i5 S h; cases h
  | succ n ih =>
    intro i3 i4 i5 S h
    rw [zf_X13_bitsOf_L13] at h
    refine zw_iload hX dX13_bitsOf_13 rfl ?_
    refine zw_if_lt (tgt := 55) hX dX13_bitsOf_15 (by decide) (fun c15 => ?_) (fun c15 => ?_)
    · rw [if_pos c15] at h
      refine zw_sub (lv' := [(3, .int i3)]) (List.forall_mem_cons.mpr ⟨rfl, zs_nil⟩) ?_
      exact hk _ _ (Option.some.inj h).symm
    · rw [if_neg c15] at h
      refine zw_iload_n hX dX13_bitsOf_18 rfl ?_
      refine zw_iload hX dX13_bitsOf_19 rfl ?_
      refine zw_aload_n hX dX13_bitsOf_21 rfl ?_
      obtain ⟨v2, g, h⟩ := zb_some h
      refine zw_geti hX zl_X13_70 dX13_bitsOf_22 g ?_
      by_cases c0 : v2 = 0
      · rw [if_pos c0] at h
        cases h
      rw [if_neg c0] at h
      refine zw_irem hX dX13_bitsOf_25 c0 ?_
      refine zw_iload_n hX dX13_bitsOf_26 rfl ?_
      refine zw_icmp_ne (tgt := 37) hX dX13_bitsOf_27 (by decide) (fun c27 => ?_) (fun c27 => ?_)
      · rw [if_neg c27] at h
        refine zw_iconst (v := (0 : Int32)) hX dX13_bitsOf_37 (by decide) ?_
        refine zw_sub (lv' := [(0, .ref a0), (2, .int i2), (4, .int i4), (5, .int i5)]) (List.forall_mem_cons.mpr ⟨rfl, (List.forall_mem_cons.mpr ⟨rfl, (List.forall_mem_cons.mpr ⟨rfl, (List.forall_mem_cons.mpr ⟨rfl, zs_nil⟩)⟩)⟩)⟩) ?_
        exact zt_X13_bitsOf_J38 hX hr hR hd hf hk ih h
      · rw [if_pos c27] at h
        refine zw_iconst (v := (1 : Int32)) hX dX13_bitsOf_30 (by decide) ?_
        refine zw_iload hX dX13_bitsOf_31 rfl ?_
        refine zw_ishl hX dX13_bitsOf_33 ?_
        refine zw_goto (tgt := 38) hX dX13_bitsOf_34 (by decide) ?_
        refine zw_sub (lv' := [(0, .ref a0), (2, .int i2), (4, .int i4), (5, .int i5)]) (List.forall_mem_cons.mpr ⟨rfl, (List.forall_mem_cons.mpr ⟨rfl, (List.forall_mem_cons.mpr ⟨rfl, (List.forall_mem_cons.mpr ⟨rfl, zs_nil⟩)⟩)⟩)⟩) ?_
        exact zt_X13_bitsOf_J38 hX hr hR hd hf hk ih h
set_option maxHeartbeats 4000000 in
set_option maxRecDepth 100000 in
theorem zt_X13_bitsOf {l : Launch} {V : zm_V} {N : Nat} {S : zm_S} {out : (Int32 × zm_S)} {d : Nat} {a0 : Nat} {i1 : Int32} {i2 : Int32} (hd : 1 ≤ d) (h : zf_X13_bitsOf N a0 i1 i2 S = some out) : zm_Met l zk_E V yX13_bitsOf (.code yX13_bitsOf cX13_bitsOf 6 (some .int)) d [.ref a0, .int i1, .int i2] S 0 0 (zo_i out) zo_x := by
  refine zm_of (by decide +kernel) (Nat.le_of_ble_eq_true rfl) ?_
  intro p e R s m args below meth c hRR hX hr hxt
  have hR : R.frames = d ∧ R.locals = 64 * d := by rw [hRR]; exact ⟨rfl, rfl⟩
  have hX : zm_X p R s m args meth c RX13 "bitsOf" cX13_bitsOf 6 zk_E V 0 0 := hX
  unfold zf_X13_bitsOf at h
  refine zw_sub (lv' := [(0, .ref a0), (1, .int i1), (2, .int i2)]) (List.forall_mem_cons.mpr ⟨rfl, (List.forall_mem_cons.mpr ⟨rfl, (List.forall_mem_cons.mpr ⟨rfl, zs_nil⟩)⟩)⟩) ?_
  refine zw_iconst (v := (0 : Int32)) hX dX13_bitsOf_0 (by decide) ?_
  refine zw_istore_n hX dX13_bitsOf_1 (by decide) ?_
  refine zw_iload_n hX dX13_bitsOf_2 rfl ?_
  refine zw_istore hX dX13_bitsOf_3 (by decide) ?_
  refine zw_aload_n hX dX13_bitsOf_5 rfl ?_
  obtain ⟨v1, g, h⟩ := zb_some h
  refine zw_geti hX zl_X13_84 dX13_bitsOf_6 g ?_
  refine zw_iconst (v := (1 : Int32)) hX dX13_bitsOf_9 (by decide) ?_
  refine zw_isub hX dX13_bitsOf_10 ?_
  refine zw_istore hX dX13_bitsOf_11 (by decide) ?_
  obtain ⟨r, g, h⟩ := zb_some h
  refine zw_sub (lv' := [(0, .ref a0), (2, .int i2), (3, .int (0 : Int32)), (4, .int i1), (5, .int (v1 - (1 : Int32)))]) (List.forall_mem_cons.mpr ⟨rfl, (List.forall_mem_cons.mpr ⟨rfl, (List.forall_mem_cons.mpr ⟨rfl, (List.forall_mem_cons.mpr ⟨rfl, (List.forall_mem_cons.mpr ⟨rfl, zs_nil⟩)⟩)⟩)⟩)⟩) ?_
  refine zt_X13_bitsOf_L13 hX hr hR hd (res := r) (out := out) a0 i2 ?_ ?_ N _ _ _ _ g
  · intro o ho
    subst ho
    exact Option.some.inj h
  · intro v5 S4 hx
    subst hx
    try dsimp only at h
    refine zw_iload_n hX dX13_bitsOf_55 rfl ?_
    obtain rfl := Option.some.inj h
    exact zw_iret hX hr dX13_bitsOf_56 rfl ⟨rfl, rfl⟩
set_option maxHeartbeats 4000000 in
set_option maxRecDepth 100000 in
theorem zt_X13_sumOf_L5 {p : Program} {l : Launch} {e : Env} {R : Room} {s : State} {m : MethodId} {args : Array Value} {below : List Frame} {meth : Method} {c : Code} {V : zm_V} {mc ms d rc rs : Nat} (hX : zm_X p R s m args meth c RX13 "sumOf" cX13_sumOf 5 zk_E V mc ms) (hr : meth.sig.returnType = (some .long)) (hR : R.frames = d ∧ R.locals = 64 * d) (hd : 2 ≤ d) {N : Nat} {res : (Int64 × zm_S) ⊕ ((Int64) × zm_S)} {out : (Int64 × zm_S)} (a0 : Nat) (i1 : Int32) (hf : ∀ o, res = .inl o → o = out) (hk : ∀ (x2 : Int64) (S' : zm_S), res = .inr (x2, S') → zw p l e R s m args below meth c (vx_MQ below (zm_Qc zk_E V (zo_l out)) (zm_XC zk_E V zo_x) args s mc ms (fun q => V.2.2.2.1 ≤ q)) 5 zk_E V mc ms 41 [(2, .long x2)] [] S' rc rs) : ∀ (n : Nat) (j2 : Int64) (i4 : Int32) (S : zm_S), zf_X13_sumOf_L5 N n a0 i1 j2 i4 S = some res → zw p l e R s m args below meth c (vx_MQ below (zm_Qc zk_E V (zo_l out)) (zm_XC zk_E V zo_x) args s mc ms (fun q => V.2.2.2.1 ≤ q)) 5 zk_E V mc ms 5 [(0, .ref a0), (1, .int i1), (2, .long j2), (4, .int i4)] [] S rc rs := by
  intro n
  induction n with
  | zero => intro j2 i4 S h; cases h
  | succ n ih =>
    intro j2 i4 S h
    rw [zf_X13_sumOf_L5] at h
    refine zw_iload hX dX13_sumOf_5 rfl ?_
    refine zw_aload_n hX dX13_sumOf_7 rfl ?_
    obtain ⟨v1, g, h⟩ := zb_some h
    refine zw_geti hX zl_X13_70 dX13_sumOf_8 g ?_
    refine zw_icmp_ge (tgt := 41) hX dX13_sumOf_11 (by decide) (fun c11 => ?_) (fun c11 => ?_)
    · rw [if_pos c11] at h
      refine zw_sub (lv' := [(2, .long j2)]) (List.forall_mem_cons.mpr ⟨rfl, zs_nil⟩) ?_
      exact hk _ _ (Option.some.inj h).symm
    · rw [if_neg c11] at h
      refine zw_lload_n hX dX13_sumOf_14 rfl ?_
      refine zw_aload_n hX dX13_sumOf_15 rfl ?_
      obtain ⟨b2, g, h⟩ := zb_some h
      refine zw_getr hX zl_X13_47 dX13_sumOf_16 g ?_
      refine zw_bipush (v := (64 : Int32)) hX dX13_sumOf_19 (by decide) ?_
      refine zw_iload hX dX13_sumOf_21 rfl ?_
      refine zw_imul hX dX13_sumOf_23 ?_
      refine zw_aload_n hX dX13_sumOf_24 rfl ?_
      refine zw_iload_n hX dX13_sumOf_25 rfl ?_
      refine zw_iload hX dX13_sumOf_26 rfl ?_
      obtain ⟨_, gi, h⟩ := zb_some h
      obtain ⟨r4, g, h⟩ := zb_some h
      refine zc_Vi (as := [.int i1, .int i4]) hX gi (zt_X13_bitsOf (d := d - 1) (by omega) g) zl_X13_118 rfl dX13_sumOf_28 ⟨rfl, rfl, Nat.le_of_ble_eq_true rfl⟩ ⟨by omega, by omega⟩ ?_
      refine zw_iadd hX dX13_sumOf_31 ?_
      obtain ⟨w5, g, h⟩ := zb_some h
      refine zw_xl hX dX13_sumOf_32 g ?_
      refine zw_ladd hX dX13_sumOf_33 ?_
      refine zw_lstore_n hX dX13_sumOf_34 (by decide) ?_
      refine zw_iinc (v := (i4 + (1 : Int32))) hX dX13_sumOf_35 rfl rfl (by decide) ?_
      refine zw_goto (tgt := 5) hX dX13_sumOf_38 (by decide) ?_
      refine zw_sub (lv' := [(0, .ref a0), (1, .int i1), (2, .long (j2 + w5)), (4, .int (i4 + (1 : Int32)))]) (List.forall_mem_cons.mpr ⟨rfl, (List.forall_mem_cons.mpr ⟨rfl, (List.forall_mem_cons.mpr ⟨rfl, (List.forall_mem_cons.mpr ⟨rfl, zs_nil⟩)⟩)⟩)⟩) ?_
      exact ih _ _ _ h
set_option maxHeartbeats 4000000 in
set_option maxRecDepth 100000 in
theorem zt_X13_sumOf {l : Launch} {V : zm_V} {N : Nat} {S : zm_S} {out : (Int64 × zm_S)} {d : Nat} {a0 : Nat} {i1 : Int32} (hd : 2 ≤ d) (h : zf_X13_sumOf N a0 i1 S = some out) : zm_Met l zk_E V yX13_sumOf (.code yX13_sumOf cX13_sumOf 5 (some .long)) d [.ref a0, .int i1] S 0 0 (zo_l out) zo_x := by
  refine zm_of (by decide +kernel) (Nat.le_of_ble_eq_true rfl) ?_
  intro p e R s m args below meth c hRR hX hr hxt
  have hR : R.frames = d ∧ R.locals = 64 * d := by rw [hRR]; exact ⟨rfl, rfl⟩
  have hX : zm_X p R s m args meth c RX13 "sumOf" cX13_sumOf 5 zk_E V 0 0 := hX
  unfold zf_X13_sumOf at h
  refine zw_sub (lv' := [(0, .ref a0), (1, .int i1)]) (List.forall_mem_cons.mpr ⟨rfl, (List.forall_mem_cons.mpr ⟨rfl, zs_nil⟩)⟩) ?_
  refine zw_lconst (v := (0 : Int64)) hX dX13_sumOf_0 (by decide) ?_
  refine zw_lstore_n hX dX13_sumOf_1 (by decide) ?_
  refine zw_iconst (v := (0 : Int32)) hX dX13_sumOf_2 (by decide) ?_
  refine zw_istore hX dX13_sumOf_3 (by decide) ?_
  obtain ⟨r, g, h⟩ := zb_some h
  refine zw_sub (lv' := [(0, .ref a0), (1, .int i1), (2, .long (0 : Int64)), (4, .int (0 : Int32))]) (List.forall_mem_cons.mpr ⟨rfl, (List.forall_mem_cons.mpr ⟨rfl, (List.forall_mem_cons.mpr ⟨rfl, (List.forall_mem_cons.mpr ⟨rfl, zs_nil⟩)⟩)⟩)⟩) ?_
  refine zt_X13_sumOf_L5 hX hr hR hd (res := r) (out := out) a0 i1 ?_ ?_ N _ _ _ g
  · intro o ho
    subst ho
    exact Option.some.inj h
  · intro w7 S6 hx
    subst hx
    try dsimp only at h
    refine zw_lload_n hX dX13_sumOf_41 rfl ?_
    obtain rfl := Option.some.inj h
    exact zw_lret hX hr dX13_sumOf_42 ⟨rfl, rfl⟩
set_option maxHeartbeats 4000000 in
set_option maxRecDepth 100000 in
theorem zt_X13_tell_L20 {p : Program} {l : Launch} {e : Env} {R : Room} {s : State} {m : MethodId} {args : Array Value} {below : List Frame} {meth : Method} {c : Code} {V : zm_V} {mc ms d rc rs : Nat} (hX : zm_X p R s m args meth c RX13 "tell" cX13_tell 8 zk_E V mc ms) (hr : meth.sig.returnType = none) (hR : R.frames = d ∧ R.locals = 64 * d) (hd : 2 ≤ d) {N : Nat} {res : (Unit × zm_S) ⊕ ((Int32) × zm_S)} {out : (Unit × zm_S)} (a0 : Nat) (i1 : Int32) (i2 : Int32) (i3 : Int32) (i4 : Int32) (hf : ∀ o, res = .inl o → o = out) (hk : ∀ (x5 : Int32) (S' : zm_S), res = .inr (x5, S') → zw p l e R s m args below meth c (vx_MQ below (zm_Qc zk_E V (zo_v out)) (zm_XC zk_E V zo_x) args s mc ms (fun q => V.2.2.2.1 ≤ q)) 8 zk_E V mc ms 44 [(0, .ref a0), (1, .int i1), (2, .int i2), (3, .int i3), (4, .int i4), (5, .int x5)] [] S' rc rs) : ∀ (n : Nat) (i5 : Int32) (i6 : Int32) (S : zm_S), zf_X13_tell_L20 N n a0 i1 i2 i3 i4 i5 i6 S = some res → zw p l e R s m args below meth c (vx_MQ below (zm_Qc zk_E V (zo_v out)) (zm_XC zk_E V zo_x) args s mc ms (fun q => V.2.2.2.1 ≤ q)) 8 zk_E V mc ms 20 [(0, .ref a0), (1, .int i1), (2, .int i2), (3, .int i3), (4, .int i4), (5, .int i5), (6, .int i6)] [] S rc rs := by
  intro n
  induction n with
  | zero => intro i5 i6 S h; cases h
  | succ n ih =>
    intro i5 i6 S h
    rw [zf_X13_tell_L20] at h
    refine zw_iload hX dX13_tell_20 rfl ?_
    refine zw_bipush (v := (6 : Int32)) hX dX13_tell_22 (by decide) ?_
    refine zw_icmp_ge (tgt := 44) hX dX13_tell_24 (by decide) (fun c24 => ?_) (fun c24 => ?_)
    · rw [if_pos c24] at h
      refine zw_sub (lv' := [(0, .ref a0), (1, .int i1), (2, .int i2), (3, .int i3), (4, .int i4), (5, .int i5)]) (List.forall_mem_cons.mpr ⟨rfl, (List.forall_mem_cons.mpr ⟨rfl, (List.forall_mem_cons.mpr ⟨rfl, (List.forall_mem_cons.mpr ⟨rfl, (List.forall_mem_cons.mpr ⟨rfl, (List.forall_mem_cons.mpr ⟨rfl, zs_nil⟩)⟩)⟩)⟩)⟩)⟩) ?_
      exact hk _ _ (Option.some.inj h).symm
    · rw [if_neg c24] at h
      refine zw_iload hX dX13_tell_27 rfl ?_
      refine zw_iload_n hX dX13_tell_29 rfl ?_
      refine zw_iload hX dX13_tell_30 rfl ?_
      refine zw_ishr hX dX13_tell_32 ?_
      refine zw_iconst (v := (1 : Int32)) hX dX13_tell_33 (by decide) ?_
      refine zw_iand hX dX13_tell_34 ?_
      refine zw_iadd hX dX13_tell_35 ?_
      refine zw_istore hX dX13_tell_36 (by decide) ?_
      refine zw_iinc (v := (i6 + (1 : Int32))) hX dX13_tell_38 rfl rfl (by decide) ?_
      refine zw_goto (tgt := 20) hX dX13_tell_41 (by decide) ?_
      refine zw_sub (lv' := [(0, .ref a0), (1, .int i1), (2, .int i2), (3, .int i3), (4, .int i4), (5, .int (i5 + ((i2 >>> (i6 &&& 31)) &&& (1 : Int32)))), (6, .int (i6 + (1 : Int32)))]) (List.forall_mem_cons.mpr ⟨rfl, (List.forall_mem_cons.mpr ⟨rfl, (List.forall_mem_cons.mpr ⟨rfl, (List.forall_mem_cons.mpr ⟨rfl, (List.forall_mem_cons.mpr ⟨rfl, (List.forall_mem_cons.mpr ⟨rfl, (List.forall_mem_cons.mpr ⟨rfl, zs_nil⟩)⟩)⟩)⟩)⟩)⟩)⟩) ?_
      exact ih _ _ _ h
set_option maxHeartbeats 4000000 in
set_option maxRecDepth 100000 in
theorem zt_X13_tell_L47 {p : Program} {l : Launch} {e : Env} {R : Room} {s : State} {m : MethodId} {args : Array Value} {below : List Frame} {meth : Method} {c : Code} {V : zm_V} {mc ms d rc rs : Nat} (hX : zm_X p R s m args meth c RX13 "tell" cX13_tell 8 zk_E V mc ms) (hr : meth.sig.returnType = none) (hR : R.frames = d ∧ R.locals = 64 * d) (hd : 2 ≤ d) {N : Nat} {res : (Unit × zm_S) ⊕ ((Unit) × zm_S)} {out : (Unit × zm_S)} (a0 : Nat) (i1 : Int32) (i2 : Int32) (i5 : Int32) (hf : ∀ o, res = .inl o → o = out) (hk : ∀ (S' : zm_S), res = .inr ((), S') → zw p l e R s m args below meth c (vx_MQ below (zm_Qc zk_E V (zo_v out)) (zm_XC zk_E V zo_x) args s mc ms (fun q => V.2.2.2.1 ≤ q)) 8 zk_E V mc ms 174 [] [] S' rc rs) : ∀ (n : Nat) (i3 : Int32) (i4 : Int32) (i6 : Int32) (S : zm_S), zf_X13_tell_L47 N n a0 i1 i2 i3 i4 i5 i6 S = some res → zw p l e R s m args below meth c (vx_MQ below (zm_Qc zk_E V (zo_v out)) (zm_XC zk_E V zo_x) args s mc ms (fun q => V.2.2.2.1 ≤ q)) 8 zk_E V mc ms 47 [(0, .ref a0), (1, .int i1), (2, .int i2), (3, .int i3), (4, .int i4), (5, .int i5), (6, .int i6)] [] S rc rs := by
  intro n
  induction n with
  | zero => intro i3 i4 i6 S h; cases h
  | succ n ih =>
    intro i3 i4 i6 S h
    rw [zf_X13_tell_L47] at h
    refine zw_iload hX dX13_tell_47 rfl ?_
    refine zw_iload hX dX13_tell_49 rfl ?_
    refine zw_icmp_ge (tgt := 174) hX dX13_tell_51 (by decide) (fun c51 => ?_) (fun c51 => ?_)
    · rw [if_pos c51] at h
      refine zw_sub (lv' := []) zs_nil ?_
      exact hk  _ (Option.some.inj h).symm
    · rw [if_neg c51] at h
      refine zw_aload_n hX dX13_tell_54 rfl ?_
      obtain ⟨b7, g, h⟩ := zb_some h
      refine zw_getr hX zl_X13_51 dX13_tell_55 g ?_
      refine zw_bipush (v := (6 : Int32)) hX dX13_tell_58 (by decide) ?_
      refine zw_bipush (v := (64 : Int32)) hX dX13_tell_60 (by decide) ?_
      refine zw_iload_n hX dX13_tell_62 rfl ?_
      refine zw_imul hX dX13_tell_63 ?_
      refine zw_iload_n hX dX13_tell_64 rfl ?_
      refine zw_iadd hX dX13_tell_65 ?_
      refine zw_imul hX dX13_tell_66 ?_
      refine zw_iload hX dX13_tell_67 rfl ?_
      refine zw_iadd hX dX13_tell_69 ?_
      obtain ⟨v8, g, h⟩ := zb_some h
      refine zw_xi hX dX13_tell_70 g ?_
      refine zw_istore hX dX13_tell_71 (by decide) ?_
      refine zw_aload_n hX dX13_tell_73 rfl ?_
      obtain ⟨b9, g, h⟩ := zb_some h
      refine zw_getr hX zl_X13_54 dX13_tell_74 g ?_
      refine zw_iload hX dX13_tell_77 rfl ?_
      refine zw_iload_n hX dX13_tell_79 rfl ?_
      obtain ⟨S10, g, h⟩ := zb_some h
      refine zw_si hX dX13_tell_80 g ?_
      refine zw_aload_n hX dX13_tell_81 rfl ?_
      obtain ⟨b11, g, h⟩ := zb_some h
      refine zw_getr hX zl_X13_63 dX13_tell_82 g ?_
      refine zw_iload hX dX13_tell_85 rfl ?_
      refine zw_iload hX dX13_tell_87 rfl ?_
      obtain ⟨S12, g, h⟩ := zb_some h
      refine zw_si hX dX13_tell_89 g ?_
      refine zw_aload_n hX dX13_tell_90 rfl ?_
      obtain ⟨b13, g, h⟩ := zb_some h
      refine zw_getr hX zl_X13_57 dX13_tell_91 g ?_
      refine zw_iload hX dX13_tell_94 rfl ?_
      refine zw_iload_n hX dX13_tell_96 rfl ?_
      refine zw_aload_n hX dX13_tell_97 rfl ?_
      refine zw_iload_n hX dX13_tell_98 rfl ?_
      refine zw_iload hX dX13_tell_99 rfl ?_
      refine zw_aload_n hX dX13_tell_101 rfl ?_
      obtain ⟨b14, g, h⟩ := zb_some h
      refine zw_getr hX zl_X13_25 dX13_tell_102 g ?_
      refine zw_iload hX dX13_tell_105 rfl ?_
      obtain ⟨v15, g, h⟩ := zb_some h
      refine zw_xi hX dX13_tell_107 g ?_
      obtain ⟨_, gi, h⟩ := zb_some h
      obtain ⟨r17, g, h⟩ := zb_some h
      refine zc_Vi (as := [.int i1, .int i4, .int v15]) hX gi (zt_X13_way (d := d - 1) (by omega) g) zl_X13_97 rfl dX13_tell_108 ⟨rfl, rfl, Nat.le_of_ble_eq_true rfl⟩ ⟨by omega, by omega⟩ ?_
      refine zw_iadd hX dX13_tell_111 ?_
      obtain ⟨S18, g, h⟩ := zb_some h
      refine zw_si hX dX13_tell_112 g ?_
      refine zw_aload_n hX dX13_tell_113 rfl ?_
      obtain ⟨b19, g, h⟩ := zb_some h
      refine zw_getr hX zl_X13_60 dX13_tell_114 g ?_
      refine zw_iload hX dX13_tell_117 rfl ?_
      refine zw_aload_n hX dX13_tell_119 rfl ?_
      obtain ⟨b20, g, h⟩ := zb_some h
      refine zw_getr hX zl_X13_57 dX13_tell_120 g ?_
      refine zw_iload hX dX13_tell_123 rfl ?_
      obtain ⟨v21, g, h⟩ := zb_some h
      refine zw_xi hX dX13_tell_125 g ?_
      refine zw_iconst (v := (3 : Int32)) hX dX13_tell_126 (by decide) ?_
      refine zw_iadd hX dX13_tell_127 ?_
      refine zw_aload_n hX dX13_tell_128 rfl ?_
      refine zw_iload_n hX dX13_tell_129 rfl ?_
      refine zw_aload_n hX dX13_tell_130 rfl ?_
      obtain ⟨b22, g, h⟩ := zb_some h
      refine zw_getr hX zl_X13_25 dX13_tell_131 g ?_
      refine zw_iload hX dX13_tell_134 rfl ?_
      obtain ⟨v23, g, h⟩ := zb_some h
      refine zw_xi hX dX13_tell_136 g ?_
      refine zw_aload_n hX dX13_tell_137 rfl ?_
      obtain ⟨b24, g, h⟩ := zb_some h
      refine zw_getr hX zl_X13_28 dX13_tell_138 g ?_
      refine zw_iload hX dX13_tell_141 rfl ?_
      obtain ⟨v25, g, h⟩ := zb_some h
      refine zw_xi hX dX13_tell_143 g ?_
      obtain ⟨_, gi, h⟩ := zb_some h
      obtain ⟨r27, g, h⟩ := zb_some h
      refine zc_Vi (as := [.int i1, .int v23, .int v25]) hX gi (zt_X13_way (d := d - 1) (by omega) g) zl_X13_97 rfl dX13_tell_144 ⟨rfl, rfl, Nat.le_of_ble_eq_true rfl⟩ ⟨by omega, by omega⟩ ?_
      refine zw_iadd hX dX13_tell_147 ?_
      obtain ⟨S28, g, h⟩ := zb_some h
      refine zw_si hX dX13_tell_148 g ?_
      refine zw_aload_n hX dX13_tell_149 rfl ?_
      obtain ⟨b29, g, h⟩ := zb_some h
      refine zw_getr hX zl_X13_60 dX13_tell_150 g ?_
      refine zw_iload hX dX13_tell_153 rfl ?_
      obtain ⟨v30, g, h⟩ := zb_some h
      refine zw_xi hX dX13_tell_155 g ?_
      refine zw_iconst (v := (3 : Int32)) hX dX13_tell_156 (by decide) ?_
      refine zw_iadd hX dX13_tell_157 ?_
      refine zw_istore_n hX dX13_tell_158 (by decide) ?_
      refine zw_aload_n hX dX13_tell_159 rfl ?_
      obtain ⟨b31, g, h⟩ := zb_some h
      refine zw_getr hX zl_X13_28 dX13_tell_160 g ?_
      refine zw_iload hX dX13_tell_163 rfl ?_
      obtain ⟨v32, g, h⟩ := zb_some h
      refine zw_xi hX dX13_tell_165 g ?_
      refine zw_istore hX dX13_tell_166 (by decide) ?_
      refine zw_iinc (v := (i6 + (1 : Int32))) hX dX13_tell_168 rfl rfl (by decide) ?_
      refine zw_goto (tgt := 47) hX dX13_tell_171 (by decide) ?_
      refine zw_sub (lv' := [(0, .ref a0), (1, .int i1), (2, .int i2), (3, .int (v30 + (3 : Int32))), (4, .int v32), (5, .int i5), (6, .int (i6 + (1 : Int32)))]) (List.forall_mem_cons.mpr ⟨rfl, (List.forall_mem_cons.mpr ⟨rfl, (List.forall_mem_cons.mpr ⟨rfl, (List.forall_mem_cons.mpr ⟨rfl, (List.forall_mem_cons.mpr ⟨rfl, (List.forall_mem_cons.mpr ⟨rfl, (List.forall_mem_cons.mpr ⟨rfl, zs_nil⟩)⟩)⟩)⟩)⟩)⟩)⟩) ?_
      exact ih _ _ _ _ h
set_option maxHeartbeats 4000000 in
set_option maxRecDepth 100000 in
theorem zt_X13_tell {l : Launch} {V : zm_V} {N : Nat} {S : zm_S} {out : (Unit × zm_S)} {d : Nat} {a0 : Nat} {i1 : Int32} {i2 : Int32} (hd : 2 ≤ d) (h : zf_X13_tell N a0 i1 i2 S = some out) : zm_Met l zk_E V yX13_tell (.code yX13_tell cX13_tell 8 none) d [.ref a0, .int i1, .int i2] S 0 0 (zo_v out) zo_x := by
  refine zm_of (by decide +kernel) (Nat.le_of_ble_eq_true rfl) ?_
  intro p e R s m args below meth c hRR hX hr hxt
  have hR : R.frames = d ∧ R.locals = 64 * d := by rw [hRR]; exact ⟨rfl, rfl⟩
  have hX : zm_X p R s m args meth c RX13 "tell" cX13_tell 8 zk_E V 0 0 := hX
  unfold zf_X13_tell at h
  refine zw_sub (lv' := [(0, .ref a0), (1, .int i1), (2, .int i2)]) (List.forall_mem_cons.mpr ⟨rfl, (List.forall_mem_cons.mpr ⟨rfl, (List.forall_mem_cons.mpr ⟨rfl, zs_nil⟩)⟩)⟩) ?_
  refine zw_aload_n hX dX13_tell_0 rfl ?_
  refine zw_iload_n hX dX13_tell_1 rfl ?_
  obtain ⟨_, gi, h⟩ := zb_some h
  obtain ⟨r2, g, h⟩ := zb_some h
  refine zc_Vi (as := [.int i1]) hX gi (zt_X13_begins (d := d - 1) (by omega) g) zl_X13_91 rfl dX13_tell_2 ⟨rfl, rfl, Nat.le_of_ble_eq_true rfl⟩ ⟨by omega, by omega⟩ ?_
  refine zw_istore_n hX dX13_tell_5 (by decide) ?_
  refine zw_aload_n hX dX13_tell_6 rfl ?_
  obtain ⟨b3, g, h⟩ := zb_some h
  refine zw_getr hX zl_X13_13 dX13_tell_7 g ?_
  refine zw_iload_n hX dX13_tell_10 rfl ?_
  obtain ⟨v4, g, h⟩ := zb_some h
  refine zw_xi hX dX13_tell_11 g ?_
  refine zw_istore hX dX13_tell_12 (by decide) ?_
  refine zw_iconst (v := (0 : Int32)) hX dX13_tell_14 (by decide) ?_
  refine zw_istore hX dX13_tell_15 (by decide) ?_
  refine zw_iconst (v := (0 : Int32)) hX dX13_tell_17 (by decide) ?_
  refine zw_istore hX dX13_tell_18 (by decide) ?_
  obtain ⟨r, g, h⟩ := zb_some h
  refine zw_sub (lv' := [(0, .ref a0), (1, .int i1), (2, .int i2), (3, .int r2.1), (4, .int v4), (5, .int (0 : Int32)), (6, .int (0 : Int32))]) (List.forall_mem_cons.mpr ⟨rfl, (List.forall_mem_cons.mpr ⟨rfl, (List.forall_mem_cons.mpr ⟨rfl, (List.forall_mem_cons.mpr ⟨rfl, (List.forall_mem_cons.mpr ⟨rfl, (List.forall_mem_cons.mpr ⟨rfl, (List.forall_mem_cons.mpr ⟨rfl, zs_nil⟩)⟩)⟩)⟩)⟩)⟩)⟩) ?_
  refine zt_X13_tell_L20 hX hr hR hd (res := r) (out := out) a0 i1 i2 r2.1 v4 ?_ ?_ N _ _ _ g
  · intro o ho
    subst ho
    exact Option.some.inj h
  · intro v6 S5 hx
    subst hx
    try dsimp only at h
    refine zw_iconst (v := (0 : Int32)) hX dX13_tell_44 (by decide) ?_
    refine zw_istore hX dX13_tell_45 (by decide) ?_
    obtain ⟨r, g, h⟩ := zb_some h
    refine zw_sub (lv' := [(0, .ref a0), (1, .int i1), (2, .int i2), (3, .int r2.1), (4, .int v4), (5, .int v6), (6, .int (0 : Int32))]) (List.forall_mem_cons.mpr ⟨rfl, (List.forall_mem_cons.mpr ⟨rfl, (List.forall_mem_cons.mpr ⟨rfl, (List.forall_mem_cons.mpr ⟨rfl, (List.forall_mem_cons.mpr ⟨rfl, (List.forall_mem_cons.mpr ⟨rfl, (List.forall_mem_cons.mpr ⟨rfl, zs_nil⟩)⟩)⟩)⟩)⟩)⟩)⟩) ?_
    refine zt_X13_tell_L47 hX hr hR hd (res := r) (out := out) a0 i1 i2 v6 ?_ ?_ N _ _ _ _ g
    · intro o ho
      subst ho
      exact Option.some.inj h
    · intro  S33 hx
      subst hx
      try dsimp only at h
      obtain rfl := Option.some.inj h
      exact zw_vret hX hr dX13_tell_174 ⟨rfl, rfl⟩
set_option maxHeartbeats 4000000 in
set_option maxRecDepth 100000 in
theorem zt_X13_give_L8 {p : Program} {l : Launch} {e : Env} {R : Room} {s : State} {m : MethodId} {args : Array Value} {below : List Frame} {meth : Method} {c : Code} {V : zm_V} {mc ms d rc rs : Nat} (hX : zm_X p R s m args meth c RX13 "give" cX13_give 8 zk_E V mc ms) (hr : meth.sig.returnType = (some .long)) (hR : R.frames = d ∧ R.locals = 64 * d) (hd : 4 ≤ d) {N : Nat} {res : (Int64 × zm_S) ⊕ ((Int32) × zm_S)} {out : (Int64 × zm_S)} (a0 : Nat) (hf : ∀ o, res = .inl o → o = out) (hk : ∀ (x1 : Int32) (S' : zm_S), res = .inr (x1, S') → zw p l e R s m args below meth c (vx_MQ below (zm_Qc zk_E V (zo_l out)) (zm_XC zk_E V zo_x) args s mc ms (fun q => V.2.2.2.1 ≤ q)) 8 zk_E V mc ms 29 [(0, .ref a0), (1, .int x1)] [] S' rc rs) : ∀ (n : Nat) (i1 : Int32) (i2 : Int32) (S : zm_S), zf_X13_give_L8 N n a0 i1 i2 S = some res → zw p l e R s m args below meth c (vx_MQ below (zm_Qc zk_E V (zo_l out)) (zm_XC zk_E V zo_x) args s mc ms (fun q => V.2.2.2.1 ≤ q)) 8 zk_E V mc ms 8 [(0, .ref a0), (1, .int i1), (2, .int i2)] [] S rc rs := by
  intro n
  induction n with
  | zero => intro i1 i2 S h; cases h
  | succ n ih =>
    intro i1 i2 S h
    rw [zf_X13_give_L8] at h
    refine zw_iload_n hX dX13_give_8 rfl ?_
    refine zw_aload_n hX dX13_give_9 rfl ?_
    obtain ⟨v3, g, h⟩ := zb_some h
    refine zw_geti hX zl_X13_84 dX13_give_10 g ?_
    refine zw_icmp_ge (tgt := 29) hX dX13_give_13 (by decide) (fun c13 => ?_) (fun c13 => ?_)
    · rw [if_pos c13] at h
      refine zw_sub (lv' := [(0, .ref a0), (1, .int i1)]) (List.forall_mem_cons.mpr ⟨rfl, (List.forall_mem_cons.mpr ⟨rfl, zs_nil⟩)⟩) ?_
      exact hk _ _ (Option.some.inj h).symm
    · rw [if_neg c13] at h
      refine zw_iload_n hX dX13_give_16 rfl ?_
      refine zw_aload_n hX dX13_give_17 rfl ?_
      obtain ⟨v4, g, h⟩ := zb_some h
      refine zw_geti hX zl_X13_70 dX13_give_18 g ?_
      refine zw_imul hX dX13_give_21 ?_
      refine zw_istore_n hX dX13_give_22 (by decide) ?_
      refine zw_iinc (v := (i2 + (1 : Int32))) hX dX13_give_23 rfl rfl (by decide) ?_
      refine zw_goto (tgt := 8) hX dX13_give_26 (by decide) ?_
      refine zw_sub (lv' := [(0, .ref a0), (1, .int (i1 * v4)), (2, .int (i2 + (1 : Int32)))]) (List.forall_mem_cons.mpr ⟨rfl, (List.forall_mem_cons.mpr ⟨rfl, (List.forall_mem_cons.mpr ⟨rfl, zs_nil⟩)⟩)⟩) ?_
      exact ih _ _ _ h
set_option maxHeartbeats 4000000 in
set_option maxRecDepth 100000 in
theorem zt_X13_give_L41 {p : Program} {l : Launch} {e : Env} {R : Room} {s : State} {m : MethodId} {args : Array Value} {below : List Frame} {meth : Method} {c : Code} {V : zm_V} {mc ms d rc rs : Nat} (hX : zm_X p R s m args meth c RX13 "give" cX13_give 8 zk_E V mc ms) (hr : meth.sig.returnType = (some .long)) (hR : R.frames = d ∧ R.locals = 64 * d) (hd : 4 ≤ d) {N : Nat} {res : (Int64 × zm_S) ⊕ ((Unit) × zm_S)} {out : (Int64 × zm_S)} (a0 : Nat) (i1 : Int32) (i2 : Int32) (hf : ∀ o, res = .inl o → o = out) (hk : ∀ (S' : zm_S), res = .inr ((), S') → zw p l e R s m args below meth c (vx_MQ below (zm_Qc zk_E V (zo_l out)) (zm_XC zk_E V zo_x) args s mc ms (fun q => V.2.2.2.1 ≤ q)) 8 zk_E V mc ms 63 [(0, .ref a0), (1, .int i1), (2, .int i2)] [] S' rc rs) : ∀ (n : Nat) (i3 : Int32) (S : zm_S), zf_X13_give_L41 N n a0 i1 i2 i3 S = some res → zw p l e R s m args below meth c (vx_MQ below (zm_Qc zk_E V (zo_l out)) (zm_XC zk_E V zo_x) args s mc ms (fun q => V.2.2.2.1 ≤ q)) 8 zk_E V mc ms 41 [(0, .ref a0), (1, .int i1), (2, .int i2), (3, .int i3)] [] S rc rs := by
  intro n
  induction n with
  | zero => intro i3 S h; cases h
  | succ n ih =>
    intro i3 S h
    rw [zf_X13_give_L41] at h
    refine zw_iload_n hX dX13_give_41 rfl ?_
    refine zw_iconst (v := (1 : Int32)) hX dX13_give_42 (by decide) ?_
    refine zw_aload_n hX dX13_give_43 rfl ?_
    obtain ⟨v8, g, h⟩ := zb_some h
    refine zw_geti hX zl_X13_84 dX13_give_44 g ?_
    refine zw_ishl hX dX13_give_47 ?_
    refine zw_icmp_ge (tgt := 63) hX dX13_give_48 (by decide) (fun c48 => ?_) (fun c48 => ?_)
    · rw [if_pos c48] at h
      refine zw_sub (lv' := [(0, .ref a0), (1, .int i1), (2, .int i2)]) (List.forall_mem_cons.mpr ⟨rfl, (List.forall_mem_cons.mpr ⟨rfl, (List.forall_mem_cons.mpr ⟨rfl, zs_nil⟩)⟩)⟩) ?_
      exact hk  _ (Option.some.inj h).symm
    · rw [if_neg c48] at h
      refine zw_aload_n hX dX13_give_51 rfl ?_
      refine zw_iload_n hX dX13_give_52 rfl ?_
      refine zw_iload_n hX dX13_give_53 rfl ?_
      obtain ⟨_, gi, h⟩ := zb_some h
      obtain ⟨r10, g, h⟩ := zb_some h
      refine zc_Vv (as := [.int i2, .int i3]) hX gi (zt_X13_findRow (d := d - 1) (by omega) g) zl_X13_125 rfl dX13_give_54 ⟨rfl, rfl, Nat.le_of_ble_eq_true rfl⟩ ⟨by omega, by omega⟩ ?_
      refine zw_iinc (v := (i3 + (1 : Int32))) hX dX13_give_57 rfl rfl (by decide) ?_
      refine zw_goto (tgt := 41) hX dX13_give_60 (by decide) ?_
      refine zw_sub (lv' := [(0, .ref a0), (1, .int i1), (2, .int i2), (3, .int (i3 + (1 : Int32)))]) (List.forall_mem_cons.mpr ⟨rfl, (List.forall_mem_cons.mpr ⟨rfl, (List.forall_mem_cons.mpr ⟨rfl, (List.forall_mem_cons.mpr ⟨rfl, zs_nil⟩)⟩)⟩)⟩) ?_
      exact ih _ _ h
set_option maxHeartbeats 4000000 in
set_option maxRecDepth 100000 in
theorem zt_X13_give_L31 {p : Program} {l : Launch} {e : Env} {R : Room} {s : State} {m : MethodId} {args : Array Value} {below : List Frame} {meth : Method} {c : Code} {V : zm_V} {mc ms d rc rs : Nat} (hX : zm_X p R s m args meth c RX13 "give" cX13_give 8 zk_E V mc ms) (hr : meth.sig.returnType = (some .long)) (hR : R.frames = d ∧ R.locals = 64 * d) (hd : 4 ≤ d) {N : Nat} {res : (Int64 × zm_S) ⊕ ((Unit) × zm_S)} {out : (Int64 × zm_S)} (a0 : Nat) (i1 : Int32) (hf : ∀ o, res = .inl o → o = out) (hk : ∀ (S' : zm_S), res = .inr ((), S') → zw p l e R s m args below meth c (vx_MQ below (zm_Qc zk_E V (zo_l out)) (zm_XC zk_E V zo_x) args s mc ms (fun q => V.2.2.2.1 ≤ q)) 8 zk_E V mc ms 69 [(0, .ref a0), (1, .int i1)] [] S' rc rs) : ∀ (n : Nat) (i2 : Int32) (S : zm_S), zf_X13_give_L31 N n a0 i1 i2 S = some res → zw p l e R s m args below meth c (vx_MQ below (zm_Qc zk_E V (zo_l out)) (zm_XC zk_E V zo_x) args s mc ms (fun q => V.2.2.2.1 ≤ q)) 8 zk_E V mc ms 31 [(0, .ref a0), (1, .int i1), (2, .int i2)] [] S rc rs := by
  intro n
  induction n with
  | zero => intro i2 S h; cases h
  | succ n ih =>
    intro i2 S h
    rw [zf_X13_give_L31] at h
    refine zw_iload_n hX dX13_give_31 rfl ?_
    refine zw_aload_n hX dX13_give_32 rfl ?_
    obtain ⟨v7, g, h⟩ := zb_some h
    refine zw_geti hX zl_X13_70 dX13_give_33 g ?_
    refine zw_icmp_ge (tgt := 69) hX dX13_give_36 (by decide) (fun c36 => ?_) (fun c36 => ?_)
    · rw [if_pos c36] at h
      refine zw_sub (lv' := [(0, .ref a0), (1, .int i1)]) (List.forall_mem_cons.mpr ⟨rfl, (List.forall_mem_cons.mpr ⟨rfl, zs_nil⟩)⟩) ?_
      exact hk  _ (Option.some.inj h).symm
    · rw [if_neg c36] at h
      refine zw_iconst (v := (0 : Int32)) hX dX13_give_39 (by decide) ?_
      refine zw_istore_n hX dX13_give_40 (by decide) ?_
      obtain ⟨r, g, h⟩ := zb_some h
      refine zw_sub (lv' := [(0, .ref a0), (1, .int i1), (2, .int i2), (3, .int (0 : Int32))]) (List.forall_mem_cons.mpr ⟨rfl, (List.forall_mem_cons.mpr ⟨rfl, (List.forall_mem_cons.mpr ⟨rfl, (List.forall_mem_cons.mpr ⟨rfl, zs_nil⟩)⟩)⟩)⟩) ?_
      refine zt_X13_give_L41 hX hr hR hd (res := r) (out := out) a0 i1 i2 ?_ ?_ N _ _ g
      · intro o ho
        subst ho
        exact hf _ (Option.some.inj h).symm
      · intro  S11 hx
        subst hx
        try dsimp only at h
        refine zw_iinc (v := (i2 + (1 : Int32))) hX dX13_give_63 rfl rfl (by decide) ?_
        refine zw_goto (tgt := 31) hX dX13_give_66 (by decide) ?_
        refine zw_sub (lv' := [(0, .ref a0), (1, .int i1), (2, .int (i2 + (1 : Int32)))]) (List.forall_mem_cons.mpr ⟨rfl, (List.forall_mem_cons.mpr ⟨rfl, (List.forall_mem_cons.mpr ⟨rfl, zs_nil⟩)⟩)⟩) ?_
        exact ih _ _ h
set_option maxHeartbeats 4000000 in
set_option maxRecDepth 100000 in
theorem zt_X13_give_J107 {p : Program} {l : Launch} {e : Env} {R : Room} {s : State} {m : MethodId} {args : Array Value} {below : List Frame} {meth : Method} {c : Code} {V : zm_V} {mc ms d rc rs : Nat} (hX : zm_X p R s m args meth c RX13 "give" cX13_give 8 zk_E V mc ms) (hr : meth.sig.returnType = (some .long)) (hR : R.frames = d ∧ R.locals = 64 * d) (hd : 4 ≤ d) {N : Nat} {k : Nat → Int32 → Int64 → Int32 → Int32 → zm_S → Option ((Int64 × zm_S) ⊕ ((Int64 × Int32) × zm_S))} {a0 : Nat} {i1 : Int32} {j2 : Int64} {i5 : Int32} {j6 : Int64} {t0 : Int32} {res : (Int64 × zm_S) ⊕ ((Int64 × Int32) × zm_S)} {out : (Int64 × zm_S)}   (hf : ∀ o, res = .inl o → o = out) (hk : ∀ (x2 : Int64) (x4 : Int32) (S' : zm_S), res = .inr ((x2, x4), S') → zw p l e R s m args below meth c (vx_MQ below (zm_Qc zk_E V (zo_l out)) (zm_XC zk_E V zo_x) args s mc ms (fun q => V.2.2.2.1 ≤ q)) 8 zk_E V mc ms 129 [(0, .ref a0), (2, .long x2), (4, .int x4)] [] S' rc rs) (hrec : ∀ (j2' : Int64) (i4' : Int32) (i5' : Int32) (S : zm_S), k a0 i1 j2' i4' i5' S = some res → zw p l e R s m args below meth c (vx_MQ below (zm_Qc zk_E V (zo_l out)) (zm_XC zk_E V zo_x) args s mc ms (fun q => V.2.2.2.1 ≤ q)) 8 zk_E V mc ms 79 [(0, .ref a0), (1, .int i1), (2, .long j2'), (4, .int i4'), (5, .int i5')] [] S rc rs) {S : zm_S} (h : zf_X13_give_J107 N k a0 i1 j2 i5 j6 t0 S = some res) : zw p l e R s m args below meth c (vx_MQ below (zm_Qc zk_E V (zo_l out)) (zm_XC zk_E V zo_x) args s mc ms (fun q => V.2.2.2.1 ≤ q)) 8 zk_E V mc ms 107 [(0, .ref a0), (1, .int i1), (2, .long j2), (5, .int i5), (6, .long j6)] [.int t0] S rc rs := by
  unfold zf_X13_give_J107 at h
  refine zw_istore hX dX13_give_107 (by decide) ?_
  refine zw_lload hX dX13_give_109 rfl ?_
  refine zw_lload_n hX dX13_give_111 rfl ?_
  refine zw_lcmp hX dX13_give_112 ?_
  refine zw_if_ge (tgt := 121) hX dX13_give_113 (by decide) (fun c113 => ?_) (fun c113 => ?_)
  · rw [if_pos c113] at h
    refine zw_lload_n hX dX13_give_121 rfl ?_
    refine zw_lstore_n hX dX13_give_122 (by decide) ?_
    refine zw_iinc (v := (i5 + (1 : Int32))) hX dX13_give_123 rfl rfl (by decide) ?_
    refine zw_goto (tgt := 79) hX dX13_give_126 (by decide) ?_
    refine zw_sub (lv' := [(0, .ref a0), (1, .int i1), (2, .long j2), (4, .int t0), (5, .int (i5 + (1 : Int32)))]) (List.forall_mem_cons.mpr ⟨rfl, (List.forall_mem_cons.mpr ⟨rfl, (List.forall_mem_cons.mpr ⟨rfl, (List.forall_mem_cons.mpr ⟨rfl, (List.forall_mem_cons.mpr ⟨rfl, zs_nil⟩)⟩)⟩)⟩)⟩) ?_
    exact hrec _ _ _ _ h
  · rw [if_neg c113] at h
    refine zw_lload hX dX13_give_116 rfl ?_
    refine zw_goto (tgt := 122) hX dX13_give_118 (by decide) ?_
    refine zw_lstore_n hX dX13_give_122 (by decide) ?_
    refine zw_iinc (v := (i5 + (1 : Int32))) hX dX13_give_123 rfl rfl (by decide) ?_
    refine zw_goto (tgt := 79) hX dX13_give_126 (by decide) ?_
    refine zw_sub (lv' := [(0, .ref a0), (1, .int i1), (2, .long j6), (4, .int t0), (5, .int (i5 + (1 : Int32)))]) (List.forall_mem_cons.mpr ⟨rfl, (List.forall_mem_cons.mpr ⟨rfl, (List.forall_mem_cons.mpr ⟨rfl, (List.forall_mem_cons.mpr ⟨rfl, (List.forall_mem_cons.mpr ⟨rfl, zs_nil⟩)⟩)⟩)⟩)⟩) ?_
    exact hrec _ _ _ _ h
set_option maxHeartbeats 4000000 in
set_option maxRecDepth 100000 in
theorem zt_X13_give_L79 {p : Program} {l : Launch} {e : Env} {R : Room} {s : State} {m : MethodId} {args : Array Value} {below : List Frame} {meth : Method} {c : Code} {V : zm_V} {mc ms d rc rs : Nat} (hX : zm_X p R s m args meth c RX13 "give" cX13_give 8 zk_E V mc ms) (hr : meth.sig.returnType = (some .long)) (hR : R.frames = d ∧ R.locals = 64 * d) (hd : 4 ≤ d) {N : Nat} {res : (Int64 × zm_S) ⊕ ((Int64 × Int32) × zm_S)} {out : (Int64 × zm_S)} (a0 : Nat) (i1 : Int32) (hf : ∀ o, res = .inl o → o = out) (hk : ∀ (x2 : Int64) (x4 : Int32) (S' : zm_S), res = .inr ((x2, x4), S') → zw p l e R s m args below meth c (vx_MQ below (zm_Qc zk_E V (zo_l out)) (zm_XC zk_E V zo_x) args s mc ms (fun q => V.2.2.2.1 ≤ q)) 8 zk_E V mc ms 129 [(0, .ref a0), (2, .long x2), (4, .int x4)] [] S' rc rs) : ∀ (n : Nat) (j2 : Int64) (i4 : Int32) (i5 : Int32) (S : zm_S), zf_X13_give_L79 N n a0 i1 j2 i4 i5 S = some res → zw p l e R s m args below meth c (vx_MQ below (zm_Qc zk_E V (zo_l out)) (zm_XC zk_E V zo_x) args s mc ms (fun q => V.2.2.2.1 ≤ q)) 8 zk_E V mc ms 79 [(0, .ref a0), (1, .int i1), (2, .long j2), (4, .int i4), (5, .int i5)] [] S rc rs := by
  intro n
  induction n with
  | zero => intro j2 i4 i5 S h; cases h
  | succ n ih =>
    intro j2 i4 i5 S h
    rw [zf_X13_give_L79] at h
    refine zw_iload hX dX13_give_79 rfl ?_
    refine zw_iload_n hX dX13_give_81 rfl ?_
    refine zw_icmp_ge (tgt := 129) hX dX13_give_82 (by decide) (fun c82 => ?_) (fun c82 => ?_)
    · rw [if_pos c82] at h
      refine zw_sub (lv' := [(0, .ref a0), (2, .long j2), (4, .int i4)]) (List.forall_mem_cons.mpr ⟨rfl, (List.forall_mem_cons.mpr ⟨rfl, (List.forall_mem_cons.mpr ⟨rfl, zs_nil⟩)⟩)⟩) ?_
      exact hk _ _ _ (Option.some.inj h).symm
    · rw [if_neg c82] at h
      refine zw_aload_n hX dX13_give_85 rfl ?_
      refine zw_iload hX dX13_give_86 rfl ?_
      obtain ⟨_, gi, h⟩ := zb_some h
      obtain ⟨r14, g, h⟩ := zb_some h
      refine zc_Vl (as := [.int i5]) hX gi (zt_X13_sumOf (d := d - 1) (by omega) g) zl_X13_129 rfl dX13_give_88 ⟨rfl, rfl, Nat.le_of_ble_eq_true rfl⟩ ⟨by omega, by omega⟩ ?_
      refine zw_lstore hX dX13_give_91 (by decide) ?_
      refine zw_lload hX dX13_give_93 rfl ?_
      refine zw_lload_n hX dX13_give_95 rfl ?_
      refine zw_lcmp hX dX13_give_96 ?_
      refine zw_if_ge (tgt := 105) hX dX13_give_97 (by decide) (fun c97 => ?_) (fun c97 => ?_)
      · rw [if_pos c97] at h
        refine zw_iload hX dX13_give_105 rfl ?_
        refine zw_sub (lv' := [(0, .ref a0), (1, .int i1), (2, .long j2), (5, .int i5), (6, .long r14.1)]) (List.forall_mem_cons.mpr ⟨rfl, (List.forall_mem_cons.mpr ⟨rfl, (List.forall_mem_cons.mpr ⟨rfl, (List.forall_mem_cons.mpr ⟨rfl, (List.forall_mem_cons.mpr ⟨rfl, zs_nil⟩)⟩)⟩)⟩)⟩) ?_
        exact zt_X13_give_J107 hX hr hR hd hf hk ih h
      · rw [if_neg c97] at h
        refine zw_iload hX dX13_give_100 rfl ?_
        refine zw_goto (tgt := 107) hX dX13_give_102 (by decide) ?_
        refine zw_sub (lv' := [(0, .ref a0), (1, .int i1), (2, .long j2), (5, .int i5), (6, .long r14.1)]) (List.forall_mem_cons.mpr ⟨rfl, (List.forall_mem_cons.mpr ⟨rfl, (List.forall_mem_cons.mpr ⟨rfl, (List.forall_mem_cons.mpr ⟨rfl, (List.forall_mem_cons.mpr ⟨rfl, zs_nil⟩)⟩)⟩)⟩)⟩) ?_
        exact zt_X13_give_J107 hX hr hR hd hf hk ih h
set_option maxHeartbeats 4000000 in
set_option maxRecDepth 100000 in
theorem zt_X13_give_L132 {p : Program} {l : Launch} {e : Env} {R : Room} {s : State} {m : MethodId} {args : Array Value} {below : List Frame} {meth : Method} {c : Code} {V : zm_V} {mc ms d rc rs : Nat} (hX : zm_X p R s m args meth c RX13 "give" cX13_give 8 zk_E V mc ms) (hr : meth.sig.returnType = (some .long)) (hR : R.frames = d ∧ R.locals = 64 * d) (hd : 4 ≤ d) {N : Nat} {res : (Int64 × zm_S) ⊕ ((Unit) × zm_S)} {out : (Int64 × zm_S)} (a0 : Nat) (j2 : Int64) (i4 : Int32) (hf : ∀ o, res = .inl o → o = out) (hk : ∀ (S' : zm_S), res = .inr ((), S') → zw p l e R s m args below meth c (vx_MQ below (zm_Qc zk_E V (zo_l out)) (zm_XC zk_E V zo_x) args s mc ms (fun q => V.2.2.2.1 ≤ q)) 8 zk_E V mc ms 155 [(0, .ref a0), (2, .long j2), (4, .int i4)] [] S' rc rs) : ∀ (n : Nat) (i5 : Int32) (S : zm_S), zf_X13_give_L132 N n a0 j2 i4 i5 S = some res → zw p l e R s m args below meth c (vx_MQ below (zm_Qc zk_E V (zo_l out)) (zm_XC zk_E V zo_x) args s mc ms (fun q => V.2.2.2.1 ≤ q)) 8 zk_E V mc ms 132 [(0, .ref a0), (2, .long j2), (4, .int i4), (5, .int i5)] [] S rc rs := by
  intro n
  induction n with
  | zero => intro i5 S h; cases h
  | succ n ih =>
    intro i5 S h
    rw [zf_X13_give_L132] at h
    refine zw_iload hX dX13_give_132 rfl ?_
    refine zw_aload_n hX dX13_give_134 rfl ?_
    obtain ⟨v18, g, h⟩ := zb_some h
    refine zw_geti hX zl_X13_66 dX13_give_135 g ?_
    refine zw_icmp_ge (tgt := 155) hX dX13_give_138 (by decide) (fun c138 => ?_) (fun c138 => ?_)
    · rw [if_pos c138] at h
      refine zw_sub (lv' := [(0, .ref a0), (2, .long j2), (4, .int i4)]) (List.forall_mem_cons.mpr ⟨rfl, (List.forall_mem_cons.mpr ⟨rfl, (List.forall_mem_cons.mpr ⟨rfl, zs_nil⟩)⟩)⟩) ?_
      exact hk  _ (Option.some.inj h).symm
    · rw [if_neg c138] at h
      refine zw_aload_n hX dX13_give_141 rfl ?_
      obtain ⟨b19, g, h⟩ := zb_some h
      refine zw_getr hX zl_X13_54 dX13_give_142 g ?_
      refine zw_iload hX dX13_give_145 rfl ?_
      refine zw_iconst (v := (-1 : Int32)) hX dX13_give_147 (by decide) ?_
      obtain ⟨S20, g, h⟩ := zb_some h
      refine zw_si hX dX13_give_148 g ?_
      refine zw_iinc (v := (i5 + (1 : Int32))) hX dX13_give_149 rfl rfl (by decide) ?_
      refine zw_goto (tgt := 132) hX dX13_give_152 (by decide) ?_
      refine zw_sub (lv' := [(0, .ref a0), (2, .long j2), (4, .int i4), (5, .int (i5 + (1 : Int32)))]) (List.forall_mem_cons.mpr ⟨rfl, (List.forall_mem_cons.mpr ⟨rfl, (List.forall_mem_cons.mpr ⟨rfl, (List.forall_mem_cons.mpr ⟨rfl, zs_nil⟩)⟩)⟩)⟩) ?_
      exact ih _ _ h
set_option maxHeartbeats 4000000 in
set_option maxRecDepth 100000 in
theorem zt_X13_give_L158 {p : Program} {l : Launch} {e : Env} {R : Room} {s : State} {m : MethodId} {args : Array Value} {below : List Frame} {meth : Method} {c : Code} {V : zm_V} {mc ms d rc rs : Nat} (hX : zm_X p R s m args meth c RX13 "give" cX13_give 8 zk_E V mc ms) (hr : meth.sig.returnType = (some .long)) (hR : R.frames = d ∧ R.locals = 64 * d) (hd : 4 ≤ d) {N : Nat} {res : (Int64 × zm_S) ⊕ ((Unit) × zm_S)} {out : (Int64 × zm_S)} (a0 : Nat) (j2 : Int64) (i4 : Int32) (hf : ∀ o, res = .inl o → o = out) (hk : ∀ (S' : zm_S), res = .inr ((), S') → zw p l e R s m args below meth c (vx_MQ below (zm_Qc zk_E V (zo_l out)) (zm_XC zk_E V zo_x) args s mc ms (fun q => V.2.2.2.1 ≤ q)) 8 zk_E V mc ms 187 [(2, .long j2)] [] S' rc rs) : ∀ (n : Nat) (i5 : Int32) (S : zm_S), zf_X13_give_L158 N n a0 j2 i4 i5 S = some res → zw p l e R s m args below meth c (vx_MQ below (zm_Qc zk_E V (zo_l out)) (zm_XC zk_E V zo_x) args s mc ms (fun q => V.2.2.2.1 ≤ q)) 8 zk_E V mc ms 158 [(0, .ref a0), (2, .long j2), (4, .int i4), (5, .int i5)] [] S rc rs := by
  intro n
  induction n with
  | zero => intro i5 S h; cases h
  | succ n ih =>
    intro i5 S h
    rw [zf_X13_give_L158] at h
    refine zw_iload hX dX13_give_158 rfl ?_
    refine zw_aload_n hX dX13_give_160 rfl ?_
    obtain ⟨v22, g, h⟩ := zb_some h
    refine zw_geti hX zl_X13_70 dX13_give_161 g ?_
    refine zw_icmp_ge (tgt := 187) hX dX13_give_164 (by decide) (fun c164 => ?_) (fun c164 => ?_)
    · rw [if_pos c164] at h
      refine zw_sub (lv' := [(2, .long j2)]) (List.forall_mem_cons.mpr ⟨rfl, zs_nil⟩) ?_
      exact hk  _ (Option.some.inj h).symm
    · rw [if_neg c164] at h
      refine zw_aload_n hX dX13_give_167 rfl ?_
      refine zw_iload hX dX13_give_168 rfl ?_
      refine zw_aload_n hX dX13_give_170 rfl ?_
      refine zw_iload hX dX13_give_171 rfl ?_
      refine zw_iload hX dX13_give_173 rfl ?_
      obtain ⟨_, gi, h⟩ := zb_some h
      obtain ⟨r24, g, h⟩ := zb_some h
      refine zc_Vi (as := [.int i4, .int i5]) hX gi (zt_X13_bitsOf (d := d - 1) (by omega) g) zl_X13_118 rfl dX13_give_175 ⟨rfl, rfl, Nat.le_of_ble_eq_true rfl⟩ ⟨by omega, by omega⟩ ?_
      obtain ⟨_, gi, h⟩ := zb_some h
      obtain ⟨r26, g, h⟩ := zb_some h
      refine zc_Vv (as := [.int i5, .int r24.1]) hX gi (zt_X13_tell (d := d - 1) (by omega) g) zl_X13_132 rfl dX13_give_178 ⟨rfl, rfl, Nat.le_of_ble_eq_true rfl⟩ ⟨by omega, by omega⟩ ?_
      refine zw_iinc (v := (i5 + (1 : Int32))) hX dX13_give_181 rfl rfl (by decide) ?_
      refine zw_goto (tgt := 158) hX dX13_give_184 (by decide) ?_
      refine zw_sub (lv' := [(0, .ref a0), (2, .long j2), (4, .int i4), (5, .int (i5 + (1 : Int32)))]) (List.forall_mem_cons.mpr ⟨rfl, (List.forall_mem_cons.mpr ⟨rfl, (List.forall_mem_cons.mpr ⟨rfl, (List.forall_mem_cons.mpr ⟨rfl, zs_nil⟩)⟩)⟩)⟩) ?_
      exact ih _ _ h
set_option maxHeartbeats 4000000 in
set_option maxRecDepth 100000 in
theorem zt_X13_give {l : Launch} {V : zm_V} {N : Nat} {S : zm_S} {out : (Int64 × zm_S)} {d : Nat} {a0 : Nat} (hd : 4 ≤ d) (h : zf_X13_give N a0 S = some out) : zm_Met l zk_E V yX13_give (.code yX13_give cX13_give 8 (some .long)) d [.ref a0] S 0 0 (zo_l out) zo_x := by
  refine zm_of (by decide +kernel) (Nat.le_of_ble_eq_true rfl) ?_
  intro p e R s m args below meth c hRR hX hr hxt
  have hR : R.frames = d ∧ R.locals = 64 * d := by rw [hRR]; exact ⟨rfl, rfl⟩
  have hX : zm_X p R s m args meth c RX13 "give" cX13_give 8 zk_E V 0 0 := hX
  unfold zf_X13_give at h
  refine zw_sub (lv' := [(0, .ref a0)]) (List.forall_mem_cons.mpr ⟨rfl, zs_nil⟩) ?_
  refine zw_aload_n hX dX13_give_0 rfl ?_
  obtain ⟨_, gi, h⟩ := zb_some h
  obtain ⟨r2, g, h⟩ := zb_some h
  refine zc_Vv (as := []) hX gi (zt_X13_choose (d := d - 1) (by omega) g) zl_X13_122 rfl dX13_give_1 ⟨rfl, rfl, Nat.le_of_ble_eq_true rfl⟩ ⟨by omega, by omega⟩ ?_
  refine zw_iconst (v := (1 : Int32)) hX dX13_give_4 (by decide) ?_
  refine zw_istore_n hX dX13_give_5 (by decide) ?_
  refine zw_iconst (v := (0 : Int32)) hX dX13_give_6 (by decide) ?_
  refine zw_istore_n hX dX13_give_7 (by decide) ?_
  obtain ⟨r, g, h⟩ := zb_some h
  refine zw_sub (lv' := [(0, .ref a0), (1, .int (1 : Int32)), (2, .int (0 : Int32))]) (List.forall_mem_cons.mpr ⟨rfl, (List.forall_mem_cons.mpr ⟨rfl, (List.forall_mem_cons.mpr ⟨rfl, zs_nil⟩)⟩)⟩) ?_
  refine zt_X13_give_L8 hX hr hR hd (res := r) (out := out) a0 ?_ ?_ N _ _ _ g
  · intro o ho
    subst ho
    exact Option.some.inj h
  · intro v6 S5 hx
    subst hx
    try dsimp only at h
    refine zw_iconst (v := (0 : Int32)) hX dX13_give_29 (by decide) ?_
    refine zw_istore_n hX dX13_give_30 (by decide) ?_
    obtain ⟨r, g, h⟩ := zb_some h
    refine zw_sub (lv' := [(0, .ref a0), (1, .int v6), (2, .int (0 : Int32))]) (List.forall_mem_cons.mpr ⟨rfl, (List.forall_mem_cons.mpr ⟨rfl, (List.forall_mem_cons.mpr ⟨rfl, zs_nil⟩)⟩)⟩) ?_
    refine zt_X13_give_L31 hX hr hR hd (res := r) (out := out) a0 v6 ?_ ?_ N _ _ g
    · intro o ho
      subst ho
      exact Option.some.inj h
    · intro  S12 hx
      subst hx
      try dsimp only at h
      refine zw_ldc2 (v := (1152921504606846976 : Int64)) hX dX13_give_69 zl_X13_104 ?_
      refine zw_lstore_n hX dX13_give_72 (by decide) ?_
      refine zw_iconst (v := (0 : Int32)) hX dX13_give_73 (by decide) ?_
      refine zw_istore hX dX13_give_74 (by decide) ?_
      refine zw_iconst (v := (0 : Int32)) hX dX13_give_76 (by decide) ?_
      refine zw_istore hX dX13_give_77 (by decide) ?_
      obtain ⟨r, g, h⟩ := zb_some h
      refine zw_sub (lv' := [(0, .ref a0), (1, .int v6), (2, .long (1152921504606846976 : Int64)), (4, .int (0 : Int32)), (5, .int (0 : Int32))]) (List.forall_mem_cons.mpr ⟨rfl, (List.forall_mem_cons.mpr ⟨rfl, (List.forall_mem_cons.mpr ⟨rfl, (List.forall_mem_cons.mpr ⟨rfl, (List.forall_mem_cons.mpr ⟨rfl, zs_nil⟩)⟩)⟩)⟩)⟩) ?_
      refine zt_X13_give_L79 hX hr hR hd (res := r) (out := out) a0 v6 ?_ ?_ N _ _ _ _ g
      · intro o ho
        subst ho
        exact Option.some.inj h
      · intro w16 v17 S15 hx
        subst hx
        try dsimp only at h
        refine zw_iconst (v := (0 : Int32)) hX dX13_give_129 (by decide) ?_
        refine zw_istore hX dX13_give_130 (by decide) ?_
        obtain ⟨r, g, h⟩ := zb_some h
        refine zw_sub (lv' := [(0, .ref a0), (2, .long w16), (4, .int v17), (5, .int (0 : Int32))]) (List.forall_mem_cons.mpr ⟨rfl, (List.forall_mem_cons.mpr ⟨rfl, (List.forall_mem_cons.mpr ⟨rfl, (List.forall_mem_cons.mpr ⟨rfl, zs_nil⟩)⟩)⟩)⟩) ?_
        refine zt_X13_give_L132 hX hr hR hd (res := r) (out := out) a0 w16 v17 ?_ ?_ N _ _ g
        · intro o ho
          subst ho
          exact Option.some.inj h
        · intro  S21 hx
          subst hx
          try dsimp only at h
          refine zw_iconst (v := (0 : Int32)) hX dX13_give_155 (by decide) ?_
          refine zw_istore hX dX13_give_156 (by decide) ?_
          obtain ⟨r, g, h⟩ := zb_some h
          refine zw_sub (lv' := [(0, .ref a0), (2, .long w16), (4, .int v17), (5, .int (0 : Int32))]) (List.forall_mem_cons.mpr ⟨rfl, (List.forall_mem_cons.mpr ⟨rfl, (List.forall_mem_cons.mpr ⟨rfl, (List.forall_mem_cons.mpr ⟨rfl, zs_nil⟩)⟩)⟩)⟩) ?_
          refine zt_X13_give_L158 hX hr hR hd (res := r) (out := out) a0 w16 v17 ?_ ?_ N _ _ g
          · intro o ho
            subst ho
            exact Option.some.inj h
          · intro  S27 hx
            subst hx
            try dsimp only at h
            refine zw_lload_n hX dX13_give_187 rfl ?_
            obtain rfl := Option.some.inj h
            exact zw_lret hX hr dX13_give_188 ⟨rfl, rfl⟩
set_option maxHeartbeats 4000000 in
set_option maxRecDepth 100000 in
theorem zt_X13_given {l : Launch} {V : zm_V} {N : Nat} {S : zm_S} {out : (Int32 × zm_S)} {d : Nat} {a0 : Nat} {i1 : Int32} {i2 : Int32} (hd : 1 ≤ d) (h : zf_X13_given N a0 i1 i2 S = some out) : zm_Met l zk_E V yX13_given (.code yX13_given cX13_given 3 (some .int)) d [.ref a0, .int i1, .int i2] S 0 0 (zo_i out) zo_x := by
  refine zm_of (by decide +kernel) (Nat.le_of_ble_eq_true rfl) ?_
  intro p e R s m args below meth c hRR hX hr hxt
  have hR : R.frames = d ∧ R.locals = 64 * d := by rw [hRR]; exact ⟨rfl, rfl⟩
  have hX : zm_X p R s m args meth c RX13 "given" cX13_given 3 zk_E V 0 0 := hX
  unfold zf_X13_given at h
  refine zw_sub (lv' := [(0, .ref a0), (1, .int i1), (2, .int i2)]) (List.forall_mem_cons.mpr ⟨rfl, (List.forall_mem_cons.mpr ⟨rfl, (List.forall_mem_cons.mpr ⟨rfl, zs_nil⟩)⟩)⟩) ?_
  refine zw_aload_n hX dX13_given_0 rfl ?_
  obtain ⟨b1, g, h⟩ := zb_some h
  refine zw_getr hX zl_X13_54 dX13_given_1 g ?_
  refine zw_iload_n hX dX13_given_4 rfl ?_
  obtain ⟨v2, g, h⟩ := zb_some h
  refine zw_xi hX dX13_given_5 g ?_
  refine zw_if_ge (tgt := 13) hX dX13_given_6 (by decide) (fun c6 => ?_) (fun c6 => ?_)
  · rw [if_pos c6] at h
    refine zw_iload_n hX dX13_given_13 rfl ?_
    refine zw_if_ne (tgt := 26) hX dX13_given_14 (by decide) (fun c14 => ?_) (fun c14 => ?_)
    · rw [if_neg c14] at h
      refine zw_iload_n hX dX13_given_26 rfl ?_
      refine zw_iconst (v := (1 : Int32)) hX dX13_given_27 (by decide) ?_
      refine zw_icmp_ne (tgt := 40) hX dX13_given_28 (by decide) (fun c28 => ?_) (fun c28 => ?_)
      · rw [if_neg c28] at h
        refine zw_iload_n hX dX13_given_40 rfl ?_
        refine zw_iconst (v := (2 : Int32)) hX dX13_given_41 (by decide) ?_
        refine zw_icmp_ne (tgt := 54) hX dX13_given_42 (by decide) (fun c42 => ?_) (fun c42 => ?_)
        · rw [if_neg c42] at h
          refine zw_aload_n hX dX13_given_54 rfl ?_
          obtain ⟨b3, g, h⟩ := zb_some h
          refine zw_getr hX zl_X13_63 dX13_given_55 g ?_
          refine zw_iload_n hX dX13_given_58 rfl ?_
          obtain ⟨v4, g, h⟩ := zb_some h
          refine zw_xi hX dX13_given_59 g ?_
          obtain rfl := Option.some.inj h
          exact zw_iret hX hr dX13_given_60 rfl ⟨rfl, rfl⟩
        · rw [if_pos c42] at h
          refine zw_aload_n hX dX13_given_45 rfl ?_
          obtain ⟨b5, g, h⟩ := zb_some h
          refine zw_getr hX zl_X13_60 dX13_given_46 g ?_
          refine zw_iload_n hX dX13_given_49 rfl ?_
          obtain ⟨v6, g, h⟩ := zb_some h
          refine zw_xi hX dX13_given_50 g ?_
          refine zw_goto (tgt := 60) hX dX13_given_51 (by decide) ?_
          obtain rfl := Option.some.inj h
          exact zw_iret hX hr dX13_given_60 rfl ⟨rfl, rfl⟩
      · rw [if_pos c28] at h
        refine zw_aload_n hX dX13_given_31 rfl ?_
        obtain ⟨b7, g, h⟩ := zb_some h
        refine zw_getr hX zl_X13_57 dX13_given_32 g ?_
        refine zw_iload_n hX dX13_given_35 rfl ?_
        obtain ⟨v8, g, h⟩ := zb_some h
        refine zw_xi hX dX13_given_36 g ?_
        refine zw_goto (tgt := 60) hX dX13_given_37 (by decide) ?_
        obtain rfl := Option.some.inj h
        exact zw_iret hX hr dX13_given_60 rfl ⟨rfl, rfl⟩
    · rw [if_pos c14] at h
      refine zw_aload_n hX dX13_given_17 rfl ?_
      obtain ⟨b9, g, h⟩ := zb_some h
      refine zw_getr hX zl_X13_54 dX13_given_18 g ?_
      refine zw_iload_n hX dX13_given_21 rfl ?_
      obtain ⟨v10, g, h⟩ := zb_some h
      refine zw_xi hX dX13_given_22 g ?_
      refine zw_goto (tgt := 60) hX dX13_given_23 (by decide) ?_
      obtain rfl := Option.some.inj h
      exact zw_iret hX hr dX13_given_60 rfl ⟨rfl, rfl⟩
  · rw [if_neg c6] at h
    refine zw_iconst (v := (-1 : Int32)) hX dX13_given_9 (by decide) ?_
    refine zw_goto (tgt := 60) hX dX13_given_10 (by decide) ?_
    obtain rfl := Option.some.inj h
    exact zw_iret hX hr dX13_given_60 rfl ⟨rfl, rfl⟩
set_option maxHeartbeats 4000000 in
set_option maxRecDepth 100000 in
theorem zt_X14_init {l : Launch} {V : zm_V} {N : Nat} {S : zm_S} {out : (Unit × zm_S)} {d : Nat} {a0 : Nat} (hd : 2 ≤ d) (h : zf_X14_init N a0 S = some out) : zm_Met l zk_E V yX14_init (.code yX14_init cX14_init 1 none) d [.ref a0] S 26 7710 (zo_v out) zo_x := by
  refine zm_of (by decide +kernel) (Nat.le_of_ble_eq_true rfl) ?_
  intro p e R s m args below meth c hRR hX hr hxt
  have hR : R.frames = d ∧ R.locals = 64 * d := by rw [hRR]; exact ⟨rfl, rfl⟩
  have hX : zm_X p R s m args meth c RX14 "<init>" cX14_init 1 zk_E V 26 7710 := hX
  unfold zf_X14_init at h
  refine zw_sub (lv' := [(0, .ref a0)]) (List.forall_mem_cons.mpr ⟨rfl, zs_nil⟩) ?_
  refine zw_aload_n hX dX14_init_0 rfl ?_
  refine zw_objInit hX zl_X14_1.1 zl_X14_1.2.1 zl_X14_1.2.2 dX14_init_1 (by omega) (by show 0 + 12 ≤ R.locals; omega) ?_
  refine zw_aload_n hX dX14_init_4 rfl ?_
  refine zw_bipush (v := (50 : Int32)) hX dX14_init_5 (by decide) ?_
  obtain ⟨S1, g, h⟩ := zb_some h
  refine zw_ni (b := 50) hX zk_ai dX14_init_7 (by omega) (by omega) (by decide) g ?_
  obtain ⟨S2, g, h⟩ := zb_some h
  refine zw_putvF hX zl_X14_7 zt_14_2 dX14_init_9 rfl rfl g ?_
  refine zw_aload_n hX dX14_init_12 rfl ?_
  refine zw_bipush (v := (50 : Int32)) hX dX14_init_13 (by decide) ?_
  obtain ⟨S3, g, h⟩ := zb_some h
  refine zw_nb (b := 50) hX zk_ab dX14_init_15 (by omega) (by omega) (by decide) g ?_
  obtain ⟨S4, g, h⟩ := zb_some h
  refine zw_putvF hX zl_X14_13 zt_14_3 dX14_init_17 rfl rfl g ?_
  refine zw_aload_n hX dX14_init_20 rfl ?_
  refine zw_bipush (v := (50 : Int32)) hX dX14_init_21 (by decide) ?_
  obtain ⟨S5, g, h⟩ := zb_some h
  refine zw_ni (b := 50) hX zk_ai dX14_init_23 (by omega) (by omega) (by decide) g ?_
  obtain ⟨S6, g, h⟩ := zb_some h
  refine zw_putvF hX zl_X14_17 zt_14_4 dX14_init_25 rfl rfl g ?_
  refine zw_aload_n hX dX14_init_28 rfl ?_
  refine zw_sipush (v := (2000 : Int32)) hX dX14_init_29 (by decide) ?_
  obtain ⟨S7, g, h⟩ := zb_some h
  refine zw_ni (b := 2000) hX zk_ai dX14_init_32 (by omega) (by omega) (by decide) g ?_
  obtain ⟨S8, g, h⟩ := zb_some h
  refine zw_putvF hX zl_X14_20 zt_14_5 dX14_init_34 rfl rfl g ?_
  refine zw_aload_n hX dX14_init_37 rfl ?_
  refine zw_sipush (v := (2000 : Int32)) hX dX14_init_38 (by decide) ?_
  obtain ⟨S9, g, h⟩ := zb_some h
  refine zw_ni (b := 2000) hX zk_ai dX14_init_41 (by omega) (by omega) (by decide) g ?_
  obtain ⟨S10, g, h⟩ := zb_some h
  refine zw_putvF hX zl_X14_23 zt_14_8 dX14_init_43 rfl rfl g ?_
  refine zw_aload_n hX dX14_init_46 rfl ?_
  refine zw_sipush (v := (2000 : Int32)) hX dX14_init_47 (by decide) ?_
  obtain ⟨S11, g, h⟩ := zb_some h
  refine zw_ni (b := 2000) hX zk_ai dX14_init_50 (by omega) (by omega) (by decide) g ?_
  obtain ⟨S12, g, h⟩ := zb_some h
  refine zw_putvF hX zl_X14_26 zt_14_9 dX14_init_52 rfl rfl g ?_
  refine zw_aload_n hX dX14_init_55 rfl ?_
  refine zw_bipush (v := (40 : Int32)) hX dX14_init_56 (by decide) ?_
  obtain ⟨S13, g, h⟩ := zb_some h
  refine zw_nb (b := 40) hX zk_ab dX14_init_58 (by omega) (by omega) (by decide) g ?_
  obtain ⟨S14, g, h⟩ := zb_some h
  refine zw_putvF hX zl_X14_29 zt_14_12 dX14_init_60 rfl rfl g ?_
  refine zw_aload_n hX dX14_init_63 rfl ?_
  refine zw_bipush (v := (40 : Int32)) hX dX14_init_64 (by decide) ?_
  obtain ⟨S15, g, h⟩ := zb_some h
  refine zw_ni (b := 40) hX zk_ai dX14_init_66 (by omega) (by omega) (by decide) g ?_
  obtain ⟨S16, g, h⟩ := zb_some h
  refine zw_putvF hX zl_X14_32 zt_14_13 dX14_init_68 rfl rfl g ?_
  refine zw_aload_n hX dX14_init_71 rfl ?_
  refine zw_bipush (v := (40 : Int32)) hX dX14_init_72 (by decide) ?_
  obtain ⟨S17, g, h⟩ := zb_some h
  refine zw_ni (b := 40) hX zk_ai dX14_init_74 (by omega) (by omega) (by decide) g ?_
  obtain ⟨S18, g, h⟩ := zb_some h
  refine zw_putvF hX zl_X14_35 zt_14_14 dX14_init_76 rfl rfl g ?_
  refine zw_aload_n hX dX14_init_79 rfl ?_
  refine zw_sipush (v := (480 : Int32)) hX dX14_init_80 (by decide) ?_
  obtain ⟨S19, g, h⟩ := zb_some h
  refine zw_ni (b := 480) hX zk_ai dX14_init_83 (by omega) (by omega) (by decide) g ?_
  obtain ⟨S20, g, h⟩ := zb_some h
  refine zw_putvF hX zl_X14_38 zt_14_15 dX14_init_85 rfl rfl g ?_
  refine zw_aload_n hX dX14_init_88 rfl ?_
  refine zw_bipush (v := (40 : Int32)) hX dX14_init_89 (by decide) ?_
  obtain ⟨S21, g, h⟩ := zb_some h
  refine zw_nb (b := 40) hX zk_ab dX14_init_91 (by omega) (by omega) (by decide) g ?_
  obtain ⟨S22, g, h⟩ := zb_some h
  refine zw_putvF hX zl_X14_41 zt_14_16 dX14_init_93 rfl rfl g ?_
  refine zw_aload_n hX dX14_init_96 rfl ?_
  refine zw_bipush (v := (40 : Int32)) hX dX14_init_97 (by decide) ?_
  obtain ⟨S23, g, h⟩ := zb_some h
  refine zw_ni (b := 40) hX zk_ai dX14_init_99 (by omega) (by omega) (by decide) g ?_
  obtain ⟨S24, g, h⟩ := zb_some h
  refine zw_putvF hX zl_X14_44 zt_14_17 dX14_init_101 rfl rfl g ?_
  refine zw_aload_n hX dX14_init_104 rfl ?_
  refine zw_bipush (v := (40 : Int32)) hX dX14_init_105 (by decide) ?_
  obtain ⟨S25, g, h⟩ := zb_some h
  refine zw_ni (b := 40) hX zk_ai dX14_init_107 (by omega) (by omega) (by decide) g ?_
  obtain ⟨S26, g, h⟩ := zb_some h
  refine zw_putvF hX zl_X14_47 zt_14_18 dX14_init_109 rfl rfl g ?_
  refine zw_aload_n hX dX14_init_112 rfl ?_
  refine zw_bipush (v := (40 : Int32)) hX dX14_init_113 (by decide) ?_
  obtain ⟨S27, g, h⟩ := zb_some h
  refine zw_ni (b := 40) hX zk_ai dX14_init_115 (by omega) (by omega) (by decide) g ?_
  obtain ⟨S28, g, h⟩ := zb_some h
  refine zw_putvF hX zl_X14_50 zt_14_19 dX14_init_117 rfl rfl g ?_
  refine zw_aload_n hX dX14_init_120 rfl ?_
  refine zw_bipush (v := (40 : Int32)) hX dX14_init_121 (by decide) ?_
  obtain ⟨S29, g, h⟩ := zb_some h
  refine zw_nb (b := 40) hX zk_ab dX14_init_123 (by omega) (by omega) (by decide) g ?_
  obtain ⟨S30, g, h⟩ := zb_some h
  refine zw_putvF hX zl_X14_53 zt_14_20 dX14_init_125 rfl rfl g ?_
  refine zw_aload_n hX dX14_init_128 rfl ?_
  refine zw_bipush (v := (100 : Int32)) hX dX14_init_129 (by decide) ?_
  obtain ⟨S31, g, h⟩ := zb_some h
  refine zw_ni (b := 100) hX zk_ai dX14_init_131 (by omega) (by omega) (by decide) g ?_
  obtain ⟨S32, g, h⟩ := zb_some h
  refine zw_putvF hX zl_X14_56 zt_14_23 dX14_init_133 rfl rfl g ?_
  refine zw_aload_n hX dX14_init_136 rfl ?_
  refine zw_bipush (v := (100 : Int32)) hX dX14_init_137 (by decide) ?_
  obtain ⟨S33, g, h⟩ := zb_some h
  refine zw_ni (b := 100) hX zk_ai dX14_init_139 (by omega) (by omega) (by decide) g ?_
  obtain ⟨S34, g, h⟩ := zb_some h
  refine zw_putvF hX zl_X14_59 zt_14_24 dX14_init_141 rfl rfl g ?_
  refine zw_aload_n hX dX14_init_144 rfl ?_
  refine zw_bipush (v := (100 : Int32)) hX dX14_init_145 (by decide) ?_
  obtain ⟨S35, g, h⟩ := zb_some h
  refine zw_ni (b := 100) hX zk_ai dX14_init_147 (by omega) (by omega) (by decide) g ?_
  obtain ⟨S36, g, h⟩ := zb_some h
  refine zw_putvF hX zl_X14_62 zt_14_25 dX14_init_149 rfl rfl g ?_
  refine zw_aload_n hX dX14_init_152 rfl ?_
  refine zw_bipush (v := (20 : Int32)) hX dX14_init_153 (by decide) ?_
  obtain ⟨S37, g, h⟩ := zb_some h
  refine zw_ni (b := 20) hX zk_ai dX14_init_155 (by omega) (by omega) (by decide) g ?_
  obtain ⟨S38, g, h⟩ := zb_some h
  refine zw_putvF hX zl_X14_65 zt_14_26 dX14_init_157 rfl rfl g ?_
  refine zw_aload_n hX dX14_init_160 rfl ?_
  refine zw_bipush (v := (20 : Int32)) hX dX14_init_161 (by decide) ?_
  obtain ⟨S39, g, h⟩ := zb_some h
  refine zw_ni (b := 20) hX zk_ai dX14_init_163 (by omega) (by omega) (by decide) g ?_
  obtain ⟨S40, g, h⟩ := zb_some h
  refine zw_putvF hX zl_X14_68 zt_14_27 dX14_init_165 rfl rfl g ?_
  refine zw_aload_n hX dX14_init_168 rfl ?_
  refine zw_bipush (v := (20 : Int32)) hX dX14_init_169 (by decide) ?_
  obtain ⟨S41, g, h⟩ := zb_some h
  refine zw_nb (b := 20) hX zk_ab dX14_init_171 (by omega) (by omega) (by decide) g ?_
  obtain ⟨S42, g, h⟩ := zb_some h
  refine zw_putvF hX zl_X14_71 zt_14_28 dX14_init_173 rfl rfl g ?_
  refine zw_aload_n hX dX14_init_176 rfl ?_
  refine zw_bipush (v := (20 : Int32)) hX dX14_init_177 (by decide) ?_
  obtain ⟨S43, g, h⟩ := zb_some h
  refine zw_nb (b := 20) hX zk_ab dX14_init_179 (by omega) (by omega) (by decide) g ?_
  obtain ⟨S44, g, h⟩ := zb_some h
  refine zw_putvF hX zl_X14_74 zt_14_29 dX14_init_181 rfl rfl g ?_
  refine zw_aload_n hX dX14_init_184 rfl ?_
  refine zw_bipush (v := (60 : Int32)) hX dX14_init_185 (by decide) ?_
  obtain ⟨S45, g, h⟩ := zb_some h
  refine zw_ni (b := 60) hX zk_ai dX14_init_187 (by omega) (by omega) (by decide) g ?_
  obtain ⟨S46, g, h⟩ := zb_some h
  refine zw_putvF hX zl_X14_77 zt_14_31 dX14_init_189 rfl rfl g ?_
  refine zw_aload_n hX dX14_init_192 rfl ?_
  refine zw_bipush (v := (60 : Int32)) hX dX14_init_193 (by decide) ?_
  obtain ⟨S47, g, h⟩ := zb_some h
  refine zw_ni (b := 60) hX zk_ai dX14_init_195 (by omega) (by omega) (by decide) g ?_
  obtain ⟨S48, g, h⟩ := zb_some h
  refine zw_putvF hX zl_X14_80 zt_14_32 dX14_init_197 rfl rfl g ?_
  refine zw_aload_n hX dX14_init_200 rfl ?_
  refine zw_bipush (v := (60 : Int32)) hX dX14_init_201 (by decide) ?_
  obtain ⟨S49, g, h⟩ := zb_some h
  refine zw_ni (b := 60) hX zk_ai dX14_init_203 (by omega) (by omega) (by decide) g ?_
  obtain ⟨S50, g, h⟩ := zb_some h
  refine zw_putvF hX zl_X14_83 zt_14_33 dX14_init_205 rfl rfl g ?_
  refine zw_aload_n hX dX14_init_208 rfl ?_
  refine zw_sipush (v := (200 : Int32)) hX dX14_init_209 (by decide) ?_
  obtain ⟨S51, g, h⟩ := zb_some h
  refine zw_ni (b := 200) hX zk_ai dX14_init_212 (by omega) (by omega) (by decide) g ?_
  obtain ⟨S52, g, h⟩ := zb_some h
  refine zw_putvF hX zl_X14_86 zt_14_34 dX14_init_214 rfl rfl g ?_
  obtain rfl := Option.some.inj h
  exact zw_vret hX hr dX14_init_217 ⟨rfl, rfl⟩

