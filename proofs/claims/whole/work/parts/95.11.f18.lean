/-! ===== functions of methods, by program (wip/whole/tools/gen11.py) ===== -/
theorem dX17_reckon_0 : decode cX17_reckon 0 = .ok (.aload_n 0, 1) := by decide +kernel
theorem dX17_reckon_1 : decode cX17_reckon 1 = .ok (.iload_n 1, 1) := by decide +kernel
theorem dX17_reckon_2 : decode cX17_reckon 2 = .ok (.invokevirtual 95, 3) := by decide +kernel
theorem dX17_reckon_5 : decode cX17_reckon 5 = .ok (.istore_n 2, 1) := by decide +kernel
theorem dX17_reckon_6 : decode cX17_reckon 6 = .ok (.iload_n 2, 1) := by decide +kernel
theorem dX17_reckon_7 : decode cX17_reckon 7 = .ok (.ifCond .le 12, 3) := by decide +kernel
theorem dX17_reckon_19 : decode cX17_reckon 19 = .ok (.aload_n 0, 1) := by decide +kernel
theorem dX17_reckon_20 : decode cX17_reckon 20 = .ok (.getfield 7, 3) := by decide +kernel
theorem dX17_reckon_23 : decode cX17_reckon 23 = .ok (.iload_n 1, 1) := by decide +kernel
theorem dX17_reckon_24 : decode cX17_reckon 24 = .ok (.iaload, 1) := by decide +kernel
theorem dX17_reckon_25 : decode cX17_reckon 25 = .ok (.bipush 16, 2) := by decide +kernel
theorem dX17_reckon_27 : decode cX17_reckon 27 = .ok (.if_icmp .ne 7, 3) := by decide +kernel
theorem dX17_reckon_34 : decode cX17_reckon 34 = .ok (.aload_n 0, 1) := by decide +kernel
theorem dX17_reckon_35 : decode cX17_reckon 35 = .ok (.getfield 7, 3) := by decide +kernel
theorem dX17_reckon_38 : decode cX17_reckon 38 = .ok (.iload_n 1, 1) := by decide +kernel
theorem dX17_reckon_39 : decode cX17_reckon 39 = .ok (.iaload, 1) := by decide +kernel
theorem dX17_reckon_40 : decode cX17_reckon 40 = .ok (.invokestatic 59, 3) := by decide +kernel
theorem dX17_reckon_43 : decode cX17_reckon 43 = .ok (.istore_n 3, 1) := by decide +kernel
theorem dX17_reckon_44 : decode cX17_reckon 44 = .ok (.iload_n 3, 1) := by decide +kernel
theorem dX17_reckon_45 : decode cX17_reckon 45 = .ok (.ifCond .le 12, 3) := by decide +kernel
theorem dX17_reckon_57 : decode cX17_reckon 57 = .ok (.iconst 0, 1) := by decide +kernel
theorem dX17_reckon_58 : decode cX17_reckon 58 = .ok (.istore 4, 2) := by decide +kernel
theorem dX17_reckon_60 : decode cX17_reckon 60 = .ok (.iload_n 3, 1) := by decide +kernel
theorem dX17_reckon_61 : decode cX17_reckon 61 = .ok (.iconst 1, 1) := by decide +kernel
theorem dX17_reckon_62 : decode cX17_reckon 62 = .ok (.if_icmp .le 12, 3) := by decide +kernel
theorem dX17_reckon_74 : decode cX17_reckon 74 = .ok (.iconst 0, 1) := by decide +kernel
theorem dX17_reckon_75 : decode cX17_reckon 75 = .ok (.istore 5, 2) := by decide +kernel
theorem dX17_reckon_77 : decode cX17_reckon 77 = .ok (.aload_n 0, 1) := by decide +kernel
theorem dX17_reckon_78 : decode cX17_reckon 78 = .ok (.getfield 28, 3) := by decide +kernel
theorem dX17_reckon_81 : decode cX17_reckon 81 = .ok (.iload_n 1, 1) := by decide +kernel
theorem dX17_reckon_82 : decode cX17_reckon 82 = .ok (.aload_n 0, 1) := by decide +kernel
theorem dX17_reckon_83 : decode cX17_reckon 83 = .ok (.getfield 7, 3) := by decide +kernel
theorem dX17_reckon_86 : decode cX17_reckon 86 = .ok (.iload_n 1, 1) := by decide +kernel
theorem dX17_reckon_87 : decode cX17_reckon 87 = .ok (.iaload, 1) := by decide +kernel
theorem dX17_reckon_88 : decode cX17_reckon 88 = .ok (.bipush 16, 2) := by decide +kernel
theorem dX17_reckon_90 : decode cX17_reckon 90 = .ok (.if_icmp .ge 15, 3) := by decide +kernel
theorem dX17_reckon_105 : decode cX17_reckon 105 = .ok (.aload_n 0, 1) := by decide +kernel
theorem dX17_reckon_106 : decode cX17_reckon 106 = .ok (.iload_n 1, 1) := by decide +kernel
theorem dX17_reckon_107 : decode cX17_reckon 107 = .ok (.iload 4, 2) := by decide +kernel
theorem dX17_reckon_109 : decode cX17_reckon 109 = .ok (.iload 5, 2) := by decide +kernel
theorem dX17_reckon_111 : decode cX17_reckon 111 = .ok (.invokevirtual 105, 3) := by decide +kernel
theorem dX17_reckon_114 : decode cX17_reckon 114 = .ok (.iastore, 1) := by decide +kernel
theorem dX17_reckon_115 : decode cX17_reckon 115 = .ok (.aload_n 0, 1) := by decide +kernel
theorem dX17_reckon_116 : decode cX17_reckon 116 = .ok (.getfield 28, 3) := by decide +kernel
theorem dX17_reckon_119 : decode cX17_reckon 119 = .ok (.iload_n 1, 1) := by decide +kernel
theorem dX17_reckon_120 : decode cX17_reckon 120 = .ok (.aload_n 0, 1) := by decide +kernel
theorem dX17_reckon_121 : decode cX17_reckon 121 = .ok (.getfield 37, 3) := by decide +kernel
theorem dX17_reckon_124 : decode cX17_reckon 124 = .ok (.iload_n 1, 1) := by decide +kernel
theorem dX17_reckon_125 : decode cX17_reckon 125 = .ok (.baload, 1) := by decide +kernel
theorem dX17_reckon_126 : decode cX17_reckon 126 = .ok (.ifCond .eq 12, 3) := by decide +kernel
theorem dX17_reckon_138 : decode cX17_reckon 138 = .ok (.aload_n 0, 1) := by decide +kernel
theorem dX17_reckon_139 : decode cX17_reckon 139 = .ok (.getfield 28, 3) := by decide +kernel
theorem dX17_reckon_142 : decode cX17_reckon 142 = .ok (.iload_n 1, 1) := by decide +kernel
theorem dX17_reckon_143 : decode cX17_reckon 143 = .ok (.iaload, 1) := by decide +kernel
theorem dX17_reckon_144 : decode cX17_reckon 144 = .ok (.iastore, 1) := by decide +kernel
theorem dX17_reckon_145 : decode cX17_reckon 145 = .ok (.return_, 1) := by decide +kernel
theorem dX17_reckon_129 : decode cX17_reckon 129 = .ok (.aload_n 0, 1) := by decide +kernel
theorem dX17_reckon_130 : decode cX17_reckon 130 = .ok (.getfield 41, 3) := by decide +kernel
theorem dX17_reckon_133 : decode cX17_reckon 133 = .ok (.iload_n 1, 1) := by decide +kernel
theorem dX17_reckon_134 : decode cX17_reckon 134 = .ok (.iaload, 1) := by decide +kernel
theorem dX17_reckon_135 : decode cX17_reckon 135 = .ok (.goto 9, 3) := by decide +kernel
theorem dX17_reckon_93 : decode cX17_reckon 93 = .ok (.aload_n 0, 1) := by decide +kernel
theorem dX17_reckon_94 : decode cX17_reckon 94 = .ok (.iload_n 1, 1) := by decide +kernel
theorem dX17_reckon_95 : decode cX17_reckon 95 = .ok (.iload 4, 2) := by decide +kernel
theorem dX17_reckon_97 : decode cX17_reckon 97 = .ok (.iload 5, 2) := by decide +kernel
theorem dX17_reckon_99 : decode cX17_reckon 99 = .ok (.invokevirtual 102, 3) := by decide +kernel
theorem dX17_reckon_102 : decode cX17_reckon 102 = .ok (.goto 12, 3) := by decide +kernel
theorem dX17_reckon_65 : decode cX17_reckon 65 = .ok (.aload_n 0, 1) := by decide +kernel
theorem dX17_reckon_66 : decode cX17_reckon 66 = .ok (.iload_n 1, 1) := by decide +kernel
theorem dX17_reckon_67 : decode cX17_reckon 67 = .ok (.iconst 1, 1) := by decide +kernel
theorem dX17_reckon_68 : decode cX17_reckon 68 = .ok (.invokevirtual 75, 3) := by decide +kernel
theorem dX17_reckon_71 : decode cX17_reckon 71 = .ok (.goto 4, 3) := by decide +kernel
theorem dX17_reckon_48 : decode cX17_reckon 48 = .ok (.aload_n 0, 1) := by decide +kernel
theorem dX17_reckon_49 : decode cX17_reckon 49 = .ok (.iload_n 1, 1) := by decide +kernel
theorem dX17_reckon_50 : decode cX17_reckon 50 = .ok (.iconst 0, 1) := by decide +kernel
theorem dX17_reckon_51 : decode cX17_reckon 51 = .ok (.invokevirtual 75, 3) := by decide +kernel
theorem dX17_reckon_54 : decode cX17_reckon 54 = .ok (.goto 4, 3) := by decide +kernel
theorem dX17_reckon_30 : decode cX17_reckon 30 = .ok (.iconst 0, 1) := by decide +kernel
theorem dX17_reckon_31 : decode cX17_reckon 31 = .ok (.goto 12, 3) := by decide +kernel
theorem dX17_reckon_10 : decode cX17_reckon 10 = .ok (.aload_n 0, 1) := by decide +kernel
theorem dX17_reckon_11 : decode cX17_reckon 11 = .ok (.iload_n 1, 1) := by decide +kernel
theorem dX17_reckon_12 : decode cX17_reckon 12 = .ok (.iload_n 2, 1) := by decide +kernel
theorem dX17_reckon_13 : decode cX17_reckon 13 = .ok (.invokevirtual 98, 3) := by decide +kernel
theorem dX17_reckon_16 : decode cX17_reckon 16 = .ok (.goto 99, 3) := by decide +kernel
theorem dX17_tick_0 : decode cX17_tick 0 = .ok (.aload_n 0, 1) := by decide +kernel
theorem dX17_tick_1 : decode cX17_tick 1 = .ok (.invokevirtual 71, 3) := by decide +kernel
theorem dX17_tick_4 : decode cX17_tick 4 = .ok (.aload_n 0, 1) := by decide +kernel
theorem dX17_tick_5 : decode cX17_tick 5 = .ok (.getfield 63, 3) := by decide +kernel
theorem dX17_tick_8 : decode cX17_tick 8 = .ok (.if_icmp .lt 10, 3) := by decide +kernel
theorem dX17_tick_18 : decode cX17_tick 18 = .ok (.return_, 1) := by decide +kernel
theorem dX17_tick_11 : decode cX17_tick 11 = .ok (.aload_n 0, 1) := by decide +kernel
theorem dX17_tick_12 : decode cX17_tick 12 = .ok (.getfield 108, 3) := by decide +kernel
theorem dX17_tick_15 : decode cX17_tick 15 = .ok (.ifCond .eq 4, 3) := by decide +kernel
theorem dX17_tick_19 : decode cX17_tick 19 = .ok (.iconst 0, 1) := by decide +kernel
theorem dX17_tick_20 : decode cX17_tick 20 = .ok (.istore_n 1, 1) := by decide +kernel
theorem dX17_tick_21 : decode cX17_tick 21 = .ok (.iload_n 1, 1) := by decide +kernel
theorem dX17_tick_22 : decode cX17_tick 22 = .ok (.aload_n 0, 1) := by decide +kernel
theorem dX17_tick_23 : decode cX17_tick 23 = .ok (.getfield 63, 3) := by decide +kernel
theorem dX17_tick_26 : decode cX17_tick 26 = .ok (.if_icmp .ge 19, 3) := by decide +kernel
theorem dX17_tick_29 : decode cX17_tick 29 = .ok (.aload_n 0, 1) := by decide +kernel
theorem dX17_tick_30 : decode cX17_tick 30 = .ok (.aload_n 0, 1) := by decide +kernel
theorem dX17_tick_31 : decode cX17_tick 31 = .ok (.getfield 50, 3) := by decide +kernel
theorem dX17_tick_34 : decode cX17_tick 34 = .ok (.iload_n 1, 1) := by decide +kernel
theorem dX17_tick_35 : decode cX17_tick 35 = .ok (.iaload, 1) := by decide +kernel
theorem dX17_tick_36 : decode cX17_tick 36 = .ok (.invokevirtual 112, 3) := by decide +kernel
theorem dX17_tick_39 : decode cX17_tick 39 = .ok (.iinc 1 1, 3) := by decide +kernel
theorem dX17_tick_42 : decode cX17_tick 42 = .ok (.goto (-21), 3) := by decide +kernel
theorem dX17_tick_45 : decode cX17_tick 45 = .ok (.iconst 0, 1) := by decide +kernel
theorem dX17_tick_46 : decode cX17_tick 46 = .ok (.istore_n 1, 1) := by decide +kernel
theorem dX17_tick_47 : decode cX17_tick 47 = .ok (.iload_n 1, 1) := by decide +kernel
theorem dX17_tick_48 : decode cX17_tick 48 = .ok (.aload_n 0, 1) := by decide +kernel
theorem dX17_tick_49 : decode cX17_tick 49 = .ok (.getfield 63, 3) := by decide +kernel
theorem dX17_tick_52 : decode cX17_tick 52 = .ok (.if_icmp .ge 93, 3) := by decide +kernel
theorem dX17_tick_55 : decode cX17_tick 55 = .ok (.aload_n 0, 1) := by decide +kernel
theorem dX17_tick_56 : decode cX17_tick 56 = .ok (.getfield 7, 3) := by decide +kernel
theorem dX17_tick_59 : decode cX17_tick 59 = .ok (.iload_n 1, 1) := by decide +kernel
theorem dX17_tick_60 : decode cX17_tick 60 = .ok (.iaload, 1) := by decide +kernel
theorem dX17_tick_61 : decode cX17_tick 61 = .ok (.bipush 16, 2) := by decide +kernel
theorem dX17_tick_63 : decode cX17_tick 63 = .ok (.if_icmp .ne 53, 3) := by decide +kernel
theorem dX17_tick_116 : decode cX17_tick 116 = .ok (.aload_n 0, 1) := by decide +kernel
theorem dX17_tick_117 : decode cX17_tick 117 = .ok (.getfield 7, 3) := by decide +kernel
theorem dX17_tick_120 : decode cX17_tick 120 = .ok (.iload_n 1, 1) := by decide +kernel
theorem dX17_tick_121 : decode cX17_tick 121 = .ok (.iaload, 1) := by decide +kernel
theorem dX17_tick_122 : decode cX17_tick 122 = .ok (.bipush 16, 2) := by decide +kernel
theorem dX17_tick_124 : decode cX17_tick 124 = .ok (.if_icmp .ne 15, 3) := by decide +kernel
theorem dX17_tick_139 : decode cX17_tick 139 = .ok (.iinc 1 1, 3) := by decide +kernel
theorem dX17_tick_142 : decode cX17_tick 142 = .ok (.goto (-95), 3) := by decide +kernel
theorem dX17_tick_127 : decode cX17_tick 127 = .ok (.aload_n 0, 1) := by decide +kernel
theorem dX17_tick_128 : decode cX17_tick 128 = .ok (.getfield 31, 3) := by decide +kernel
theorem dX17_tick_131 : decode cX17_tick 131 = .ok (.iload_n 1, 1) := by decide +kernel
theorem dX17_tick_132 : decode cX17_tick 132 = .ok (.aload_n 0, 1) := by decide +kernel
theorem dX17_tick_133 : decode cX17_tick 133 = .ok (.iload_n 1, 1) := by decide +kernel
theorem dX17_tick_134 : decode cX17_tick 134 = .ok (.iconst 0, 1) := by decide +kernel
theorem dX17_tick_135 : decode cX17_tick 135 = .ok (.invokevirtual 75, 3) := by decide +kernel
theorem dX17_tick_138 : decode cX17_tick 138 = .ok (.iastore, 1) := by decide +kernel
theorem dX17_tick_66 : decode cX17_tick 66 = .ok (.aload_n 0, 1) := by decide +kernel
theorem dX17_tick_67 : decode cX17_tick 67 = .ok (.getfield 22, 3) := by decide +kernel
theorem dX17_tick_70 : decode cX17_tick 70 = .ok (.iconst 3, 1) := by decide +kernel
theorem dX17_tick_71 : decode cX17_tick 71 = .ok (.iload_n 1, 1) := by decide +kernel
theorem dX17_tick_72 : decode cX17_tick 72 = .ok (.imul, 1) := by decide +kernel
theorem dX17_tick_73 : decode cX17_tick 73 = .ok (.iaload, 1) := by decide +kernel
theorem dX17_tick_74 : decode cX17_tick 74 = .ok (.ifCond .ge 42, 3) := by decide +kernel
theorem dX17_tick_77 : decode cX17_tick 77 = .ok (.aload_n 0, 1) := by decide +kernel
theorem dX17_tick_78 : decode cX17_tick 78 = .ok (.iload_n 1, 1) := by decide +kernel
theorem dX17_tick_79 : decode cX17_tick 79 = .ok (.iconst 3, 1) := by decide +kernel
theorem dX17_tick_80 : decode cX17_tick 80 = .ok (.invokevirtual 98, 3) := by decide +kernel
theorem dX17_tick_83 : decode cX17_tick 83 = .ok (.aload_n 0, 1) := by decide +kernel
theorem dX17_tick_84 : decode cX17_tick 84 = .ok (.getfield 28, 3) := by decide +kernel
theorem dX17_tick_87 : decode cX17_tick 87 = .ok (.iload_n 1, 1) := by decide +kernel
theorem dX17_tick_88 : decode cX17_tick 88 = .ok (.aload_n 0, 1) := by decide +kernel
theorem dX17_tick_89 : decode cX17_tick 89 = .ok (.getfield 37, 3) := by decide +kernel
theorem dX17_tick_92 : decode cX17_tick 92 = .ok (.iload_n 1, 1) := by decide +kernel
theorem dX17_tick_93 : decode cX17_tick 93 = .ok (.baload, 1) := by decide +kernel
theorem dX17_tick_94 : decode cX17_tick 94 = .ok (.ifCond .eq 12, 3) := by decide +kernel
theorem dX17_tick_106 : decode cX17_tick 106 = .ok (.aload_n 0, 1) := by decide +kernel
theorem dX17_tick_107 : decode cX17_tick 107 = .ok (.getfield 28, 3) := by decide +kernel
theorem dX17_tick_110 : decode cX17_tick 110 = .ok (.iload_n 1, 1) := by decide +kernel
theorem dX17_tick_111 : decode cX17_tick 111 = .ok (.iaload, 1) := by decide +kernel
theorem dX17_tick_112 : decode cX17_tick 112 = .ok (.iastore, 1) := by decide +kernel
theorem dX17_tick_113 : decode cX17_tick 113 = .ok (.goto 26, 3) := by decide +kernel
theorem dX17_tick_97 : decode cX17_tick 97 = .ok (.aload_n 0, 1) := by decide +kernel
theorem dX17_tick_98 : decode cX17_tick 98 = .ok (.getfield 41, 3) := by decide +kernel
theorem dX17_tick_101 : decode cX17_tick 101 = .ok (.iload_n 1, 1) := by decide +kernel
theorem dX17_tick_102 : decode cX17_tick 102 = .ok (.iaload, 1) := by decide +kernel
theorem dX17_tick_103 : decode cX17_tick 103 = .ok (.goto 9, 3) := by decide +kernel
theorem dX17_tick_145 : decode cX17_tick 145 = .ok (.aload_n 0, 1) := by decide +kernel
theorem dX17_tick_146 : decode cX17_tick 146 = .ok (.aload_n 0, 1) := by decide +kernel
theorem dX17_tick_147 : decode cX17_tick 147 = .ok (.getfield 56, 3) := by decide +kernel
theorem dX17_tick_150 : decode cX17_tick 150 = .ok (.iconst 0, 1) := by decide +kernel
theorem dX17_tick_151 : decode cX17_tick 151 = .ok (.iaload, 1) := by decide +kernel
theorem dX17_tick_152 : decode cX17_tick 152 = .ok (.sipush 20000, 3) := by decide +kernel
theorem dX17_tick_155 : decode cX17_tick 155 = .ok (.if_icmp .lt 7, 3) := by decide +kernel
theorem dX17_tick_162 : decode cX17_tick 162 = .ok (.iconst 0, 1) := by decide +kernel
theorem dX17_tick_163 : decode cX17_tick 163 = .ok (.putfield 108, 3) := by decide +kernel
theorem dX17_tick_166 : decode cX17_tick 166 = .ok (.return_, 1) := by decide +kernel
theorem dX17_tick_158 : decode cX17_tick 158 = .ok (.iconst 1, 1) := by decide +kernel
theorem dX17_tick_159 : decode cX17_tick 159 = .ok (.goto 4, 3) := by decide +kernel
theorem dX18_init_0 : decode cX18_init 0 = .ok (.aload_n 0, 1) := by decide +kernel
theorem dX18_init_1 : decode cX18_init 1 = .ok (.invokespecial 3, 3) := by decide +kernel
theorem dX18_init_4 : decode cX18_init 4 = .ok (.aload_n 0, 1) := by decide +kernel
theorem dX18_init_5 : decode cX18_init 5 = .ok (.new 9, 3) := by decide +kernel
theorem dX18_init_8 : decode cX18_init 8 = .ok (.dup, 1) := by decide +kernel
theorem dX18_init_9 : decode cX18_init 9 = .ok (.invokespecial 11, 3) := by decide +kernel
theorem dX18_init_12 : decode cX18_init 12 = .ok (.putfield 12, 3) := by decide +kernel
theorem dX18_init_15 : decode cX18_init 15 = .ok (.aload_n 0, 1) := by decide +kernel
theorem dX18_init_16 : decode cX18_init 16 = .ok (.new 18, 3) := by decide +kernel
theorem dX18_init_19 : decode cX18_init 19 = .ok (.dup, 1) := by decide +kernel
theorem dX18_init_20 : decode cX18_init 20 = .ok (.invokespecial 20, 3) := by decide +kernel
theorem dX18_init_23 : decode cX18_init 23 = .ok (.putfield 21, 3) := by decide +kernel
theorem dX18_init_26 : decode cX18_init 26 = .ok (.aload_n 0, 1) := by decide +kernel
theorem dX18_init_27 : decode cX18_init 27 = .ok (.new 25, 3) := by decide +kernel
theorem dX18_init_30 : decode cX18_init 30 = .ok (.dup, 1) := by decide +kernel
theorem dX18_init_31 : decode cX18_init 31 = .ok (.invokespecial 27, 3) := by decide +kernel
theorem dX18_init_34 : decode cX18_init 34 = .ok (.putfield 28, 3) := by decide +kernel
theorem dX18_init_37 : decode cX18_init 37 = .ok (.aload_n 0, 1) := by decide +kernel
theorem dX18_init_38 : decode cX18_init 38 = .ok (.new 32, 3) := by decide +kernel
theorem dX18_init_41 : decode cX18_init 41 = .ok (.dup, 1) := by decide +kernel
theorem dX18_init_42 : decode cX18_init 42 = .ok (.invokespecial 34, 3) := by decide +kernel
theorem dX18_init_45 : decode cX18_init 45 = .ok (.putfield 35, 3) := by decide +kernel
theorem dX18_init_48 : decode cX18_init 48 = .ok (.aload_n 0, 1) := by decide +kernel
theorem dX18_init_49 : decode cX18_init 49 = .ok (.new 39, 3) := by decide +kernel
theorem dX18_init_52 : decode cX18_init 52 = .ok (.dup, 1) := by decide +kernel
theorem dX18_init_53 : decode cX18_init 53 = .ok (.invokespecial 41, 3) := by decide +kernel
theorem dX18_init_56 : decode cX18_init 56 = .ok (.putfield 42, 3) := by decide +kernel
theorem dX18_init_59 : decode cX18_init 59 = .ok (.aload_n 0, 1) := by decide +kernel
theorem dX18_init_60 : decode cX18_init 60 = .ok (.new 46, 3) := by decide +kernel
theorem dX18_init_63 : decode cX18_init 63 = .ok (.dup, 1) := by decide +kernel
theorem dX18_init_64 : decode cX18_init 64 = .ok (.invokespecial 48, 3) := by decide +kernel
theorem dX18_init_67 : decode cX18_init 67 = .ok (.putfield 49, 3) := by decide +kernel
theorem dX18_init_70 : decode cX18_init 70 = .ok (.aload_n 0, 1) := by decide +kernel
theorem dX18_init_71 : decode cX18_init 71 = .ok (.sipush 1400, 3) := by decide +kernel
theorem dX18_init_74 : decode cX18_init 74 = .ok (.newarray .int, 2) := by decide +kernel
theorem dX18_init_76 : decode cX18_init 76 = .ok (.putfield 53, 3) := by decide +kernel
theorem dX18_init_79 : decode cX18_init 79 = .ok (.aload_n 0, 1) := by decide +kernel
theorem dX18_init_80 : decode cX18_init 80 = .ok (.sipush 1400, 3) := by decide +kernel
theorem dX18_init_83 : decode cX18_init 83 = .ok (.newarray .int, 2) := by decide +kernel
theorem dX18_init_85 : decode cX18_init 85 = .ok (.putfield 57, 3) := by decide +kernel
theorem dX18_init_88 : decode cX18_init 88 = .ok (.aload_n 0, 1) := by decide +kernel
theorem dX18_init_89 : decode cX18_init 89 = .ok (.sipush 1400, 3) := by decide +kernel
theorem dX18_init_92 : decode cX18_init 92 = .ok (.newarray .int, 2) := by decide +kernel
theorem dX18_init_94 : decode cX18_init 94 = .ok (.putfield 60, 3) := by decide +kernel
theorem dX18_init_97 : decode cX18_init 97 = .ok (.aload_n 0, 1) := by decide +kernel
theorem dX18_init_98 : decode cX18_init 98 = .ok (.sipush 1400, 3) := by decide +kernel
theorem dX18_init_101 : decode cX18_init 101 = .ok (.newarray .int, 2) := by decide +kernel
theorem dX18_init_103 : decode cX18_init 103 = .ok (.putfield 63, 3) := by decide +kernel
theorem dX18_init_106 : decode cX18_init 106 = .ok (.aload_n 0, 1) := by decide +kernel
theorem dX18_init_107 : decode cX18_init 107 = .ok (.sipush 1400, 3) := by decide +kernel
theorem dX18_init_110 : decode cX18_init 110 = .ok (.newarray .int, 2) := by decide +kernel
theorem dX18_init_112 : decode cX18_init 112 = .ok (.putfield 66, 3) := by decide +kernel
theorem dX18_init_115 : decode cX18_init 115 = .ok (.aload_n 0, 1) := by decide +kernel
theorem dX18_init_116 : decode cX18_init 116 = .ok (.sipush 1400, 3) := by decide +kernel
theorem dX18_init_119 : decode cX18_init 119 = .ok (.newarray .boolean, 2) := by decide +kernel
theorem dX18_init_121 : decode cX18_init 121 = .ok (.putfield 69, 3) := by decide +kernel
theorem dX18_init_124 : decode cX18_init 124 = .ok (.aload_n 0, 1) := by decide +kernel
theorem dX18_init_125 : decode cX18_init 125 = .ok (.sipush 1400, 3) := by decide +kernel
theorem dX18_init_128 : decode cX18_init 128 = .ok (.newarray .boolean, 2) := by decide +kernel
theorem dX18_init_130 : decode cX18_init 130 = .ok (.putfield 73, 3) := by decide +kernel
theorem dX18_init_133 : decode cX18_init 133 = .ok (.aload_n 0, 1) := by decide +kernel
theorem dX18_init_134 : decode cX18_init 134 = .ok (.sipush 1400, 3) := by decide +kernel
theorem dX18_init_137 : decode cX18_init 137 = .ok (.newarray .int, 2) := by decide +kernel
theorem dX18_init_139 : decode cX18_init 139 = .ok (.putfield 76, 3) := by decide +kernel
theorem dX18_init_142 : decode cX18_init 142 = .ok (.aload_n 0, 1) := by decide +kernel
theorem dX18_init_143 : decode cX18_init 143 = .ok (.sipush 1400, 3) := by decide +kernel
theorem dX18_init_146 : decode cX18_init 146 = .ok (.newarray .int, 2) := by decide +kernel
theorem dX18_init_148 : decode cX18_init 148 = .ok (.putfield 79, 3) := by decide +kernel
theorem dX18_init_151 : decode cX18_init 151 = .ok (.aload_n 0, 1) := by decide +kernel
theorem dX18_init_152 : decode cX18_init 152 = .ok (.sipush 1400, 3) := by decide +kernel
theorem dX18_init_155 : decode cX18_init 155 = .ok (.newarray .int, 2) := by decide +kernel
theorem dX18_init_157 : decode cX18_init 157 = .ok (.putfield 82, 3) := by decide +kernel
theorem dX18_init_160 : decode cX18_init 160 = .ok (.aload_n 0, 1) := by decide +kernel
theorem dX18_init_161 : decode cX18_init 161 = .ok (.sipush 28000, 3) := by decide +kernel
theorem dX18_init_164 : decode cX18_init 164 = .ok (.newarray .int, 2) := by decide +kernel
theorem dX18_init_166 : decode cX18_init 166 = .ok (.putfield 85, 3) := by decide +kernel
theorem dX18_init_169 : decode cX18_init 169 = .ok (.aload_n 0, 1) := by decide +kernel
theorem dX18_init_170 : decode cX18_init 170 = .ok (.sipush 28000, 3) := by decide +kernel
theorem dX18_init_173 : decode cX18_init 173 = .ok (.newarray .int, 2) := by decide +kernel
theorem dX18_init_175 : decode cX18_init 175 = .ok (.putfield 88, 3) := by decide +kernel
theorem dX18_init_178 : decode cX18_init 178 = .ok (.aload_n 0, 1) := by decide +kernel
theorem dX18_init_179 : decode cX18_init 179 = .ok (.sipush 28000, 3) := by decide +kernel
theorem dX18_init_182 : decode cX18_init 182 = .ok (.newarray .int, 2) := by decide +kernel
theorem dX18_init_184 : decode cX18_init 184 = .ok (.putfield 91, 3) := by decide +kernel
theorem dX18_init_187 : decode cX18_init 187 = .ok (.aload_n 0, 1) := by decide +kernel
theorem dX18_init_188 : decode cX18_init 188 = .ok (.sipush 4100, 3) := by decide +kernel
theorem dX18_init_191 : decode cX18_init 191 = .ok (.newarray .int, 2) := by decide +kernel
theorem dX18_init_193 : decode cX18_init 193 = .ok (.putfield 94, 3) := by decide +kernel
theorem dX18_init_196 : decode cX18_init 196 = .ok (.aload_n 0, 1) := by decide +kernel
theorem dX18_init_197 : decode cX18_init 197 = .ok (.sipush 4100, 3) := by decide +kernel
theorem dX18_init_200 : decode cX18_init 200 = .ok (.newarray .int, 2) := by decide +kernel
theorem dX18_init_202 : decode cX18_init 202 = .ok (.putfield 97, 3) := by decide +kernel
theorem dX18_init_205 : decode cX18_init 205 = .ok (.aload_n 0, 1) := by decide +kernel
theorem dX18_init_206 : decode cX18_init 206 = .ok (.bipush 40, 2) := by decide +kernel
theorem dX18_init_208 : decode cX18_init 208 = .ok (.newarray .int, 2) := by decide +kernel
theorem dX18_init_210 : decode cX18_init 210 = .ok (.putfield 100, 3) := by decide +kernel
theorem dX18_init_213 : decode cX18_init 213 = .ok (.aload_n 0, 1) := by decide +kernel
theorem dX18_init_214 : decode cX18_init 214 = .ok (.bipush 40, 2) := by decide +kernel
theorem dX18_init_216 : decode cX18_init 216 = .ok (.newarray .int, 2) := by decide +kernel
theorem dX18_init_218 : decode cX18_init 218 = .ok (.putfield 103, 3) := by decide +kernel
theorem dX18_init_221 : decode cX18_init 221 = .ok (.aload_n 0, 1) := by decide +kernel
theorem dX18_init_222 : decode cX18_init 222 = .ok (.bipush 40, 2) := by decide +kernel
theorem dX18_init_224 : decode cX18_init 224 = .ok (.newarray .int, 2) := by decide +kernel
theorem dX18_init_226 : decode cX18_init 226 = .ok (.putfield 106, 3) := by decide +kernel
theorem dX18_init_229 : decode cX18_init 229 = .ok (.aload_n 0, 1) := by decide +kernel
theorem dX18_init_230 : decode cX18_init 230 = .ok (.bipush 40, 2) := by decide +kernel
theorem dX18_init_232 : decode cX18_init 232 = .ok (.newarray .int, 2) := by decide +kernel
theorem dX18_init_234 : decode cX18_init 234 = .ok (.putfield 109, 3) := by decide +kernel
theorem dX18_init_237 : decode cX18_init 237 = .ok (.aload_n 0, 1) := by decide +kernel
theorem dX18_init_238 : decode cX18_init 238 = .ok (.bipush 40, 2) := by decide +kernel
theorem dX18_init_240 : decode cX18_init 240 = .ok (.newarray .int, 2) := by decide +kernel
theorem dX18_init_242 : decode cX18_init 242 = .ok (.putfield 112, 3) := by decide +kernel
theorem dX18_init_245 : decode cX18_init 245 = .ok (.aload_n 0, 1) := by decide +kernel
theorem dX18_init_246 : decode cX18_init 246 = .ok (.bipush 40, 2) := by decide +kernel
theorem dX18_init_248 : decode cX18_init 248 = .ok (.newarray .int, 2) := by decide +kernel
theorem dX18_init_250 : decode cX18_init 250 = .ok (.putfield 115, 3) := by decide +kernel
theorem dX18_init_253 : decode cX18_init 253 = .ok (.aload_n 0, 1) := by decide +kernel
theorem dX18_init_254 : decode cX18_init 254 = .ok (.bipush 40, 2) := by decide +kernel
theorem dX18_init_256 : decode cX18_init 256 = .ok (.newarray .int, 2) := by decide +kernel
theorem dX18_init_258 : decode cX18_init 258 = .ok (.putfield 118, 3) := by decide +kernel
theorem dX18_init_261 : decode cX18_init 261 = .ok (.aload_n 0, 1) := by decide +kernel
theorem dX18_init_262 : decode cX18_init 262 = .ok (.bipush 40, 2) := by decide +kernel
theorem dX18_init_264 : decode cX18_init 264 = .ok (.newarray .int, 2) := by decide +kernel
theorem dX18_init_266 : decode cX18_init 266 = .ok (.putfield 121, 3) := by decide +kernel
theorem dX18_init_269 : decode cX18_init 269 = .ok (.aload_n 0, 1) := by decide +kernel
theorem dX18_init_270 : decode cX18_init 270 = .ok (.bipush 60, 2) := by decide +kernel
theorem dX18_init_272 : decode cX18_init 272 = .ok (.newarray .int, 2) := by decide +kernel
theorem dX18_init_274 : decode cX18_init 274 = .ok (.putfield 124, 3) := by decide +kernel
theorem dX18_init_277 : decode cX18_init 277 = .ok (.aload_n 0, 1) := by decide +kernel
theorem dX18_init_278 : decode cX18_init 278 = .ok (.bipush 60, 2) := by decide +kernel
theorem dX18_init_280 : decode cX18_init 280 = .ok (.newarray .int, 2) := by decide +kernel
theorem dX18_init_282 : decode cX18_init 282 = .ok (.putfield 127, 3) := by decide +kernel
theorem dX18_init_285 : decode cX18_init 285 = .ok (.aload_n 0, 1) := by decide +kernel
theorem dX18_init_286 : decode cX18_init 286 = .ok (.bipush 16, 2) := by decide +kernel
theorem dX18_init_288 : decode cX18_init 288 = .ok (.newarray .int, 2) := by decide +kernel
theorem dX18_init_290 : decode cX18_init 290 = .ok (.putfield 130, 3) := by decide +kernel
theorem dX18_init_293 : decode cX18_init 293 = .ok (.aload_n 0, 1) := by decide +kernel
theorem dX18_init_294 : decode cX18_init 294 = .ok (.bipush 16, 2) := by decide +kernel
theorem dX18_init_296 : decode cX18_init 296 = .ok (.newarray .int, 2) := by decide +kernel
theorem dX18_init_298 : decode cX18_init 298 = .ok (.putfield 133, 3) := by decide +kernel
theorem dX18_init_301 : decode cX18_init 301 = .ok (.aload_n 0, 1) := by decide +kernel
theorem dX18_init_302 : decode cX18_init 302 = .ok (.bipush 16, 2) := by decide +kernel
theorem dX18_init_304 : decode cX18_init 304 = .ok (.newarray .int, 2) := by decide +kernel
theorem dX18_init_306 : decode cX18_init 306 = .ok (.putfield 136, 3) := by decide +kernel
theorem dX18_init_309 : decode cX18_init 309 = .ok (.aload_n 0, 1) := by decide +kernel
theorem dX18_init_310 : decode cX18_init 310 = .ok (.bipush 16, 2) := by decide +kernel
theorem dX18_init_312 : decode cX18_init 312 = .ok (.newarray .int, 2) := by decide +kernel
theorem dX18_init_314 : decode cX18_init 314 = .ok (.putfield 139, 3) := by decide +kernel
theorem dX18_init_317 : decode cX18_init 317 = .ok (.aload_n 0, 1) := by decide +kernel
theorem dX18_init_318 : decode cX18_init 318 = .ok (.bipush 16, 2) := by decide +kernel
theorem dX18_init_320 : decode cX18_init 320 = .ok (.newarray .int, 2) := by decide +kernel
theorem dX18_init_322 : decode cX18_init 322 = .ok (.putfield 142, 3) := by decide +kernel
theorem dX18_init_325 : decode cX18_init 325 = .ok (.aload_n 0, 1) := by decide +kernel
theorem dX18_init_326 : decode cX18_init 326 = .ok (.sipush 4100, 3) := by decide +kernel
theorem dX18_init_329 : decode cX18_init 329 = .ok (.newarray .int, 2) := by decide +kernel
theorem dX18_init_331 : decode cX18_init 331 = .ok (.putfield 145, 3) := by decide +kernel
theorem dX18_init_334 : decode cX18_init 334 = .ok (.aload_n 0, 1) := by decide +kernel
theorem dX18_init_335 : decode cX18_init 335 = .ok (.sipush 4100, 3) := by decide +kernel
theorem dX18_init_338 : decode cX18_init 338 = .ok (.newarray .int, 2) := by decide +kernel
theorem dX18_init_340 : decode cX18_init 340 = .ok (.putfield 148, 3) := by decide +kernel
theorem dX18_init_343 : decode cX18_init 343 = .ok (.aload_n 0, 1) := by decide +kernel
theorem dX18_init_344 : decode cX18_init 344 = .ok (.sipush 4100, 3) := by decide +kernel
theorem dX18_init_347 : decode cX18_init 347 = .ok (.newarray .int, 2) := by decide +kernel
theorem dX18_init_349 : decode cX18_init 349 = .ok (.putfield 151, 3) := by decide +kernel
theorem dX18_init_352 : decode cX18_init 352 = .ok (.aload_n 0, 1) := by decide +kernel
theorem dX18_init_353 : decode cX18_init 353 = .ok (.bipush 100, 2) := by decide +kernel
theorem dX18_init_355 : decode cX18_init 355 = .ok (.newarray .int, 2) := by decide +kernel
theorem dX18_init_357 : decode cX18_init 357 = .ok (.putfield 154, 3) := by decide +kernel
theorem dX18_init_360 : decode cX18_init 360 = .ok (.aload_n 0, 1) := by decide +kernel
theorem dX18_init_361 : decode cX18_init 361 = .ok (.bipush 100, 2) := by decide +kernel
theorem dX18_init_363 : decode cX18_init 363 = .ok (.newarray .int, 2) := by decide +kernel
theorem dX18_init_365 : decode cX18_init 365 = .ok (.putfield 157, 3) := by decide +kernel
theorem dX18_init_368 : decode cX18_init 368 = .ok (.aload_n 0, 1) := by decide +kernel
theorem dX18_init_369 : decode cX18_init 369 = .ok (.bipush 100, 2) := by decide +kernel
theorem dX18_init_371 : decode cX18_init 371 = .ok (.newarray .int, 2) := by decide +kernel
theorem dX18_init_373 : decode cX18_init 373 = .ok (.putfield 160, 3) := by decide +kernel
theorem dX18_init_376 : decode cX18_init 376 = .ok (.aload_n 0, 1) := by decide +kernel
theorem dX18_init_377 : decode cX18_init 377 = .ok (.bipush 100, 2) := by decide +kernel
theorem dX18_init_379 : decode cX18_init 379 = .ok (.newarray .int, 2) := by decide +kernel
theorem dX18_init_381 : decode cX18_init 381 = .ok (.putfield 163, 3) := by decide +kernel
theorem dX18_init_384 : decode cX18_init 384 = .ok (.aload_n 0, 1) := by decide +kernel
theorem dX18_init_385 : decode cX18_init 385 = .ok (.sipush 576, 3) := by decide +kernel
theorem dX18_init_388 : decode cX18_init 388 = .ok (.newarray .boolean, 2) := by decide +kernel
theorem dX18_init_390 : decode cX18_init 390 = .ok (.putfield 166, 3) := by decide +kernel
theorem dX18_init_393 : decode cX18_init 393 = .ok (.aload_n 0, 1) := by decide +kernel
theorem dX18_init_394 : decode cX18_init 394 = .ok (.sipush 576, 3) := by decide +kernel
theorem dX18_init_397 : decode cX18_init 397 = .ok (.newarray .boolean, 2) := by decide +kernel
theorem dX18_init_399 : decode cX18_init 399 = .ok (.putfield 169, 3) := by decide +kernel
theorem dX18_init_402 : decode cX18_init 402 = .ok (.aload_n 0, 1) := by decide +kernel
theorem dX18_init_403 : decode cX18_init 403 = .ok (.sipush 576, 3) := by decide +kernel
theorem dX18_init_406 : decode cX18_init 406 = .ok (.newarray .int, 2) := by decide +kernel
theorem dX18_init_408 : decode cX18_init 408 = .ok (.putfield 172, 3) := by decide +kernel
theorem dX18_init_411 : decode cX18_init 411 = .ok (.aload_n 0, 1) := by decide +kernel
theorem dX18_init_412 : decode cX18_init 412 = .ok (.sipush 576, 3) := by decide +kernel
theorem dX18_init_415 : decode cX18_init 415 = .ok (.newarray .int, 2) := by decide +kernel
theorem dX18_init_417 : decode cX18_init 417 = .ok (.putfield 175, 3) := by decide +kernel
theorem dX18_init_420 : decode cX18_init 420 = .ok (.aload_n 0, 1) := by decide +kernel
theorem dX18_init_421 : decode cX18_init 421 = .ok (.bipush 120, 2) := by decide +kernel
theorem dX18_init_423 : decode cX18_init 423 = .ok (.newarray .int, 2) := by decide +kernel
theorem dX18_init_425 : decode cX18_init 425 = .ok (.putfield 178, 3) := by decide +kernel
theorem dX18_init_428 : decode cX18_init 428 = .ok (.aload_n 0, 1) := by decide +kernel
theorem dX18_init_429 : decode cX18_init 429 = .ok (.bipush 40, 2) := by decide +kernel
theorem dX18_init_431 : decode cX18_init 431 = .ok (.newarray .boolean, 2) := by decide +kernel
theorem dX18_init_433 : decode cX18_init 433 = .ok (.putfield 181, 3) := by decide +kernel
theorem dX18_init_436 : decode cX18_init 436 = .ok (.return_, 1) := by decide +kernel
theorem dX18_thrown_0 : decode cX18_thrown 0 = .ok (.aload_n 0, 1) := by decide +kernel
theorem dX18_thrown_1 : decode cX18_thrown 1 = .ok (.getfield 184, 3) := by decide +kernel
theorem dX18_thrown_4 : decode cX18_thrown 4 = .ok (.ireturn, 1) := by decide +kernel
theorem dX18_goes_0 : decode cX18_goes 0 = .ok (.aload_n 0, 1) := by decide +kernel
theorem dX18_goes_1 : decode cX18_goes 1 = .ok (.iload_n 1, 1) := by decide +kernel
theorem dX18_goes_2 : decode cX18_goes 2 = .ok (.ifCond .ne 7, 3) := by decide +kernel
theorem dX18_goes_9 : decode cX18_goes 9 = .ok (.iload_n 2, 1) := by decide +kernel
theorem dX18_goes_10 : decode cX18_goes 10 = .ok (.ifCond .ne 7, 3) := by decide +kernel
theorem dX18_goes_17 : decode cX18_goes 17 = .ok (.iconst 0, 1) := by decide +kernel
theorem dX18_goes_18 : decode cX18_goes 18 = .ok (.putfield 184, 3) := by decide +kernel
theorem dX18_goes_21 : decode cX18_goes 21 = .ok (.aload_n 0, 1) := by decide +kernel
theorem dX18_goes_22 : decode cX18_goes 22 = .ok (.getfield 184, 3) := by decide +kernel
theorem dX18_goes_25 : decode cX18_goes 25 = .ok (.ifCond .ne 7, 3) := by decide +kernel
theorem dX18_goes_32 : decode cX18_goes 32 = .ok (.iconst 0, 1) := by decide +kernel
theorem dX18_goes_33 : decode cX18_goes 33 = .ok (.ireturn, 1) := by decide +kernel
theorem dX18_goes_28 : decode cX18_goes 28 = .ok (.iconst 1, 1) := by decide +kernel
theorem dX18_goes_29 : decode cX18_goes 29 = .ok (.goto 4, 3) := by decide +kernel
theorem dX18_goes_13 : decode cX18_goes 13 = .ok (.iconst 2, 1) := by decide +kernel
theorem dX18_goes_14 : decode cX18_goes 14 = .ok (.goto 4, 3) := by decide +kernel
theorem dX18_goes_5 : decode cX18_goes 5 = .ok (.iconst 1, 1) := by decide +kernel
theorem dX18_goes_6 : decode cX18_goes 6 = .ok (.goto 12, 3) := by decide +kernel
theorem dX18_stays_0 : decode cX18_stays 0 = .ok (.aload_n 0, 1) := by decide +kernel
theorem dX18_stays_1 : decode cX18_stays 1 = .ok (.iload_n 1, 1) := by decide +kernel
theorem dX18_stays_2 : decode cX18_stays 2 = .ok (.ifCond .eq 7, 3) := by decide +kernel
theorem dX18_stays_9 : decode cX18_stays 9 = .ok (.iconst 1, 1) := by decide +kernel
theorem dX18_stays_10 : decode cX18_stays 10 = .ok (.putfield 184, 3) := by decide +kernel
theorem dX18_stays_13 : decode cX18_stays 13 = .ok (.iload_n 1, 1) := by decide +kernel
theorem dX18_stays_14 : decode cX18_stays 14 = .ok (.ireturn, 1) := by decide +kernel
theorem dX18_stays_5 : decode cX18_stays 5 = .ok (.iconst 0, 1) := by decide +kernel
theorem dX18_stays_6 : decode cX18_stays 6 = .ok (.goto 4, 3) := by decide +kernel
theorem dX18_isIn_0 : decode cX18_isIn 0 = .ok (.iload_n 0, 1) := by decide +kernel
theorem dX18_isIn_1 : decode cX18_isIn 1 = .ok (.ifCond .lt 12, 3) := by decide +kernel
theorem dX18_isIn_13 : decode cX18_isIn 13 = .ok (.iconst 0, 1) := by decide +kernel
theorem dX18_isIn_14 : decode cX18_isIn 14 = .ok (.ireturn, 1) := by decide +kernel
theorem dX18_isIn_4 : decode cX18_isIn 4 = .ok (.iload_n 0, 1) := by decide +kernel
theorem dX18_isIn_5 : decode cX18_isIn 5 = .ok (.iload_n 1, 1) := by decide +kernel
theorem dX18_isIn_6 : decode cX18_isIn 6 = .ok (.if_icmp .ge 7, 3) := by decide +kernel
theorem dX18_isIn_9 : decode cX18_isIn 9 = .ok (.iconst 1, 1) := by decide +kernel
theorem dX18_isIn_10 : decode cX18_isIn 10 = .ok (.goto 4, 3) := by decide +kernel
theorem dX18_line_0 : decode cX18_line 0 = .ok (.iload_n 1, 1) := by decide +kernel
theorem dX18_line_1 : decode cX18_line 1 = .ok (.invokestatic 188, 3) := by decide +kernel
theorem dX18_line_4 : decode cX18_line 4 = .ok (.ifCond .eq 49, 3) := by decide +kernel
theorem dX18_line_53 : decode cX18_line 53 = .ok (.iconst 0, 1) := by decide +kernel
theorem dX18_line_54 : decode cX18_line 54 = .ok (.istore 5, 2) := by decide +kernel
theorem dX18_line_56 : decode cX18_line 56 = .ok (.aload_n 0, 1) := by decide +kernel
theorem dX18_line_57 : decode cX18_line 57 = .ok (.iload 5, 2) := by decide +kernel
theorem dX18_line_59 : decode cX18_line 59 = .ok (.aload_n 0, 1) := by decide +kernel
theorem dX18_line_60 : decode cX18_line 60 = .ok (.getfield 192, 3) := by decide +kernel
theorem dX18_line_63 : decode cX18_line 63 = .ok (.ifCond .ne 19, 3) := by decide +kernel
theorem dX18_line_82 : decode cX18_line 82 = .ok (.iconst 0, 1) := by decide +kernel
theorem dX18_line_83 : decode cX18_line 83 = .ok (.invokevirtual 199, 3) := by decide +kernel
theorem dX18_line_86 : decode cX18_line 86 = .ok (.ifCond .eq 18, 3) := by decide +kernel
theorem dX18_line_104 : decode cX18_line 104 = .ok (.iconst 0, 1) := by decide +kernel
theorem dX18_line_105 : decode cX18_line 105 = .ok (.ireturn, 1) := by decide +kernel
theorem dX18_line_89 : decode cX18_line 89 = .ok (.aload_n 0, 1) := by decide +kernel
theorem dX18_line_90 : decode cX18_line 90 = .ok (.getfield 12, 3) := by decide +kernel
theorem dX18_line_93 : decode cX18_line 93 = .ok (.iload_n 1, 1) := by decide +kernel
theorem dX18_line_94 : decode cX18_line 94 = .ok (.iload_n 2, 1) := by decide +kernel
theorem dX18_line_95 : decode cX18_line 95 = .ok (.iload_n 3, 1) := by decide +kernel
theorem dX18_line_96 : decode cX18_line 96 = .ok (.iload 4, 2) := by decide +kernel
theorem dX18_line_98 : decode cX18_line 98 = .ok (.invokevirtual 203, 3) := by decide +kernel
theorem dX18_line_101 : decode cX18_line 101 = .ok (.goto 4, 3) := by decide +kernel
theorem dX18_line_66 : decode cX18_line 66 = .ok (.aload_n 0, 1) := by decide +kernel
theorem dX18_line_67 : decode cX18_line 67 = .ok (.getfield 12, 3) := by decide +kernel
theorem dX18_line_70 : decode cX18_line 70 = .ok (.getfield 196, 3) := by decide +kernel
theorem dX18_line_73 : decode cX18_line 73 = .ok (.bipush 20, 2) := by decide +kernel
theorem dX18_line_75 : decode cX18_line 75 = .ok (.if_icmp .ge 7, 3) := by decide +kernel
theorem dX18_line_78 : decode cX18_line 78 = .ok (.iconst 1, 1) := by decide +kernel
theorem dX18_line_79 : decode cX18_line 79 = .ok (.goto 4, 3) := by decide +kernel
theorem dX18_line_7 : decode cX18_line 7 = .ok (.iload_n 2, 1) := by decide +kernel
theorem dX18_line_8 : decode cX18_line 8 = .ok (.invokestatic 188, 3) := by decide +kernel
theorem dX18_line_11 : decode cX18_line 11 = .ok (.ifCond .eq 42, 3) := by decide +kernel
theorem dX18_line_14 : decode cX18_line 14 = .ok (.iload_n 3, 1) := by decide +kernel
theorem dX18_line_15 : decode cX18_line 15 = .ok (.invokestatic 188, 3) := by decide +kernel
theorem dX18_line_18 : decode cX18_line 18 = .ok (.ifCond .eq 35, 3) := by decide +kernel
theorem dX18_line_21 : decode cX18_line 21 = .ok (.iload 4, 2) := by decide +kernel
theorem dX18_line_23 : decode cX18_line 23 = .ok (.invokestatic 188, 3) := by decide +kernel
theorem dX18_line_26 : decode cX18_line 26 = .ok (.ifCond .eq 27, 3) := by decide +kernel
theorem dX18_line_29 : decode cX18_line 29 = .ok (.iload_n 1, 1) := by decide +kernel
theorem dX18_line_30 : decode cX18_line 30 = .ok (.iload_n 3, 1) := by decide +kernel
theorem dX18_line_31 : decode cX18_line 31 = .ok (.if_icmp .ne 12, 3) := by decide +kernel
theorem dX18_line_43 : decode cX18_line 43 = .ok (.iload_n 2, 1) := by decide +kernel
theorem dX18_line_44 : decode cX18_line 44 = .ok (.iload 4, 2) := by decide +kernel
theorem dX18_line_46 : decode cX18_line 46 = .ok (.if_icmp .ne 7, 3) := by decide +kernel
theorem dX18_line_49 : decode cX18_line 49 = .ok (.iconst 1, 1) := by decide +kernel
theorem dX18_line_50 : decode cX18_line 50 = .ok (.goto 4, 3) := by decide +kernel
theorem dX18_line_34 : decode cX18_line 34 = .ok (.iload_n 2, 1) := by decide +kernel
theorem dX18_line_35 : decode cX18_line 35 = .ok (.iload 4, 2) := by decide +kernel
theorem dX18_line_37 : decode cX18_line 37 = .ok (.if_icmp .eq 16, 3) := by decide +kernel
theorem dX18_line_40 : decode cX18_line 40 = .ok (.goto 9, 3) := by decide +kernel
theorem dX18_move_0 : decode cX18_move 0 = .ok (.aload_n 0, 1) := by decide +kernel
theorem dX18_move_1 : decode cX18_move 1 = .ok (.iload_n 1, 1) := by decide +kernel
theorem dX18_move_2 : decode cX18_move 2 = .ok (.aload_n 0, 1) := by decide +kernel
theorem dX18_move_3 : decode cX18_move 3 = .ok (.getfield 12, 3) := by decide +kernel
theorem dX18_move_6 : decode cX18_move 6 = .ok (.getfield 196, 3) := by decide +kernel
theorem dX18_move_9 : decode cX18_move 9 = .ok (.invokestatic 207, 3) := by decide +kernel
theorem dX18_move_12 : decode cX18_move 12 = .ok (.ifCond .eq 20, 3) := by decide +kernel
theorem dX18_move_32 : decode cX18_move 32 = .ok (.iconst 0, 1) := by decide +kernel
theorem dX18_move_33 : decode cX18_move 33 = .ok (.aload_n 0, 1) := by decide +kernel
theorem dX18_move_34 : decode cX18_move 34 = .ok (.getfield 192, 3) := by decide +kernel
theorem dX18_move_37 : decode cX18_move 37 = .ok (.ifCond .ne 7, 3) := by decide +kernel
theorem dX18_move_44 : decode cX18_move 44 = .ok (.iconst 0, 1) := by decide +kernel
theorem dX18_move_45 : decode cX18_move 45 = .ok (.invokevirtual 199, 3) := by decide +kernel
theorem dX18_move_48 : decode cX18_move 48 = .ok (.ifCond .eq 20, 3) := by decide +kernel
theorem dX18_move_68 : decode cX18_move 68 = .ok (.iconst 0, 1) := by decide +kernel
theorem dX18_move_69 : decode cX18_move 69 = .ok (.ireturn, 1) := by decide +kernel
theorem dX18_move_51 : decode cX18_move 51 = .ok (.aload_n 0, 1) := by decide +kernel
theorem dX18_move_52 : decode cX18_move 52 = .ok (.getfield 12, 3) := by decide +kernel
theorem dX18_move_55 : decode cX18_move 55 = .ok (.iload_n 1, 1) := by decide +kernel
theorem dX18_move_56 : decode cX18_move 56 = .ok (.iload_n 2, 1) := by decide +kernel
theorem dX18_move_57 : decode cX18_move 57 = .ok (.iload_n 3, 1) := by decide +kernel
theorem dX18_move_58 : decode cX18_move 58 = .ok (.invokevirtual 214, 3) := by decide +kernel
theorem dX18_move_61 : decode cX18_move 61 = .ok (.ifCond .eq 7, 3) := by decide +kernel
theorem dX18_move_64 : decode cX18_move 64 = .ok (.iconst 1, 1) := by decide +kernel
theorem dX18_move_65 : decode cX18_move 65 = .ok (.goto 4, 3) := by decide +kernel
theorem dX18_move_40 : decode cX18_move 40 = .ok (.iconst 1, 1) := by decide +kernel
theorem dX18_move_41 : decode cX18_move 41 = .ok (.goto 4, 3) := by decide +kernel
theorem dX18_move_15 : decode cX18_move 15 = .ok (.aload_n 0, 1) := by decide +kernel
theorem dX18_move_16 : decode cX18_move 16 = .ok (.getfield 12, 3) := by decide +kernel
theorem dX18_move_19 : decode cX18_move 19 = .ok (.iload_n 1, 1) := by decide +kernel
theorem dX18_move_20 : decode cX18_move 20 = .ok (.iload_n 2, 1) := by decide +kernel
theorem dX18_move_21 : decode cX18_move 21 = .ok (.iload_n 3, 1) := by decide +kernel
theorem dX18_move_22 : decode cX18_move 22 = .ok (.invokevirtual 210, 3) := by decide +kernel
theorem dX18_move_25 : decode cX18_move 25 = .ok (.ifCond .eq 7, 3) := by decide +kernel
theorem dX18_move_28 : decode cX18_move 28 = .ok (.iconst 1, 1) := by decide +kernel
theorem dX18_move_29 : decode cX18_move 29 = .ok (.goto 4, 3) := by decide +kernel
theorem dX18_door_0 : decode cX18_door 0 = .ok (.iload_n 1, 1) := by decide +kernel
theorem dX18_door_1 : decode cX18_door 1 = .ok (.aload_n 0, 1) := by decide +kernel
theorem dX18_door_2 : decode cX18_door 2 = .ok (.getfield 12, 3) := by decide +kernel
theorem dX18_door_5 : decode cX18_door 5 = .ok (.getfield 196, 3) := by decide +kernel
theorem dX18_door_8 : decode cX18_door 8 = .ok (.invokestatic 207, 3) := by decide +kernel
theorem dX18_door_11 : decode cX18_door 11 = .ok (.ifCond .eq 40, 3) := by decide +kernel
theorem dX18_door_51 : decode cX18_door 51 = .ok (.iconst 0, 1) := by decide +kernel
theorem dX18_door_52 : decode cX18_door 52 = .ok (.istore 5, 2) := by decide +kernel
theorem dX18_door_54 : decode cX18_door 54 = .ok (.aload_n 0, 1) := by decide +kernel
theorem dX18_door_55 : decode cX18_door 55 = .ok (.iload 5, 2) := by decide +kernel
theorem dX18_door_57 : decode cX18_door 57 = .ok (.aload_n 0, 1) := by decide +kernel
theorem dX18_door_58 : decode cX18_door 58 = .ok (.getfield 192, 3) := by decide +kernel
theorem dX18_door_61 : decode cX18_door 61 = .ok (.ifCond .ne 26, 3) := by decide +kernel
theorem dX18_door_87 : decode cX18_door 87 = .ok (.iconst 0, 1) := by decide +kernel
theorem dX18_door_88 : decode cX18_door 88 = .ok (.invokevirtual 199, 3) := by decide +kernel
theorem dX18_door_91 : decode cX18_door 91 = .ok (.ifCond .eq 18, 3) := by decide +kernel
theorem dX18_door_109 : decode cX18_door 109 = .ok (.iconst 0, 1) := by decide +kernel
theorem dX18_door_110 : decode cX18_door 110 = .ok (.ireturn, 1) := by decide +kernel
theorem dX18_door_94 : decode cX18_door 94 = .ok (.aload_n 0, 1) := by decide +kernel
theorem dX18_door_95 : decode cX18_door 95 = .ok (.getfield 12, 3) := by decide +kernel
theorem dX18_door_98 : decode cX18_door 98 = .ok (.iload_n 1, 1) := by decide +kernel
theorem dX18_door_99 : decode cX18_door 99 = .ok (.iload_n 2, 1) := by decide +kernel
theorem dX18_door_100 : decode cX18_door 100 = .ok (.iload_n 3, 1) := by decide +kernel
theorem dX18_door_101 : decode cX18_door 101 = .ok (.iload 4, 2) := by decide +kernel
theorem dX18_door_103 : decode cX18_door 103 = .ok (.invokevirtual 224, 3) := by decide +kernel
theorem dX18_door_106 : decode cX18_door 106 = .ok (.goto 4, 3) := by decide +kernel
theorem dX18_door_64 : decode cX18_door 64 = .ok (.iload 5, 2) := by decide +kernel
theorem dX18_door_66 : decode cX18_door 66 = .ok (.ifCond .eq 17, 3) := by decide +kernel
theorem dX18_door_83 : decode cX18_door 83 = .ok (.iconst 1, 1) := by decide +kernel
theorem dX18_door_84 : decode cX18_door 84 = .ok (.goto 4, 3) := by decide +kernel
theorem dX18_door_69 : decode cX18_door 69 = .ok (.aload_n 0, 1) := by decide +kernel
theorem dX18_door_70 : decode cX18_door 70 = .ok (.getfield 12, 3) := by decide +kernel
theorem dX18_door_73 : decode cX18_door 73 = .ok (.getfield 221, 3) := by decide +kernel
theorem dX18_door_76 : decode cX18_door 76 = .ok (.iload_n 1, 1) := by decide +kernel
theorem dX18_door_77 : decode cX18_door 77 = .ok (.iaload, 1) := by decide +kernel
theorem dX18_door_78 : decode cX18_door 78 = .ok (.bipush 6, 2) := by decide +kernel
theorem dX18_door_80 : decode cX18_door 80 = .ok (.if_icmp .ge 7, 3) := by decide +kernel
theorem dX18_door_14 : decode cX18_door 14 = .ok (.iload_n 2, 1) := by decide +kernel
theorem dX18_door_15 : decode cX18_door 15 = .ok (.ifCond .lt 36, 3) := by decide +kernel
theorem dX18_door_18 : decode cX18_door 18 = .ok (.iload_n 2, 1) := by decide +kernel
theorem dX18_door_19 : decode cX18_door 19 = .ok (.iload_n 3, 1) := by decide +kernel
theorem dX18_door_20 : decode cX18_door 20 = .ok (.if_icmp .ge 31, 3) := by decide +kernel
theorem dX18_door_23 : decode cX18_door 23 = .ok (.iload_n 3, 1) := by decide +kernel
theorem dX18_door_24 : decode cX18_door 24 = .ok (.aload_n 0, 1) := by decide +kernel
theorem dX18_door_25 : decode cX18_door 25 = .ok (.getfield 12, 3) := by decide +kernel
theorem dX18_door_28 : decode cX18_door 28 = .ok (.iload_n 1, 1) := by decide +kernel
theorem dX18_door_29 : decode cX18_door 29 = .ok (.invokevirtual 217, 3) := by decide +kernel
theorem dX18_door_32 : decode cX18_door 32 = .ok (.if_icmp .gt 19, 3) := by decide +kernel
theorem dX18_door_35 : decode cX18_door 35 = .ok (.iload 4, 2) := by decide +kernel
theorem dX18_door_37 : decode cX18_door 37 = .ok (.iconst 1, 1) := by decide +kernel
theorem dX18_door_38 : decode cX18_door 38 = .ok (.if_icmp .lt 13, 3) := by decide +kernel
theorem dX18_door_41 : decode cX18_door 41 = .ok (.iload 4, 2) := by decide +kernel
theorem dX18_door_43 : decode cX18_door 43 = .ok (.iconst 5, 1) := by decide +kernel
theorem dX18_door_44 : decode cX18_door 44 = .ok (.if_icmp .gt 7, 3) := by decide +kernel
theorem dX18_door_47 : decode cX18_door 47 = .ok (.iconst 1, 1) := by decide +kernel
theorem dX18_door_48 : decode cX18_door 48 = .ok (.goto 4, 3) := by decide +kernel
theorem dX18_find_0 : decode cX18_find 0 = .ok (.aload_n 0, 1) := by decide +kernel
theorem dX18_find_1 : decode cX18_find 1 = .ok (.aload_n 0, 1) := by decide +kernel
theorem dX18_find_2 : decode cX18_find 2 = .ok (.getfield 192, 3) := by decide +kernel
theorem dX18_find_5 : decode cX18_find 5 = .ok (.ifCond .ne 19, 3) := by decide +kernel
theorem dX18_find_24 : decode cX18_find 24 = .ok (.iconst 0, 1) := by decide +kernel
theorem dX18_find_25 : decode cX18_find 25 = .ok (.invokevirtual 230, 3) := by decide +kernel
theorem dX18_find_28 : decode cX18_find 28 = .ok (.ifCond .eq 13, 3) := by decide +kernel
theorem dX18_find_41 : decode cX18_find 41 = .ok (.iconst 0, 1) := by decide +kernel
theorem dX18_find_42 : decode cX18_find 42 = .ok (.ireturn, 1) := by decide +kernel
theorem dX18_find_31 : decode cX18_find 31 = .ok (.aload_n 0, 1) := by decide +kernel
theorem dX18_find_32 : decode cX18_find 32 = .ok (.getfield 12, 3) := by decide +kernel
theorem dX18_find_35 : decode cX18_find 35 = .ok (.invokevirtual 234, 3) := by decide +kernel
theorem dX18_find_38 : decode cX18_find 38 = .ok (.goto 4, 3) := by decide +kernel
theorem dX18_find_8 : decode cX18_find 8 = .ok (.aload_n 0, 1) := by decide +kernel
theorem dX18_find_9 : decode cX18_find 9 = .ok (.getfield 12, 3) := by decide +kernel
theorem dX18_find_12 : decode cX18_find 12 = .ok (.getfield 227, 3) := by decide +kernel
theorem dX18_find_15 : decode cX18_find 15 = .ok (.bipush 60, 2) := by decide +kernel
theorem dX18_find_17 : decode cX18_find 17 = .ok (.if_icmp .ge 7, 3) := by decide +kernel
theorem dX18_find_20 : decode cX18_find 20 = .ok (.iconst 1, 1) := by decide +kernel
theorem dX18_find_21 : decode cX18_find 21 = .ok (.goto 4, 3) := by decide +kernel
theorem dX18_count_0 : decode cX18_count 0 = .ok (.aload_n 0, 1) := by decide +kernel
theorem dX18_count_1 : decode cX18_count 1 = .ok (.iload_n 1, 1) := by decide +kernel
theorem dX18_count_2 : decode cX18_count 2 = .ok (.iconst 4, 1) := by decide +kernel
theorem dX18_count_3 : decode cX18_count 3 = .ok (.invokestatic 207, 3) := by decide +kernel
theorem dX18_count_6 : decode cX18_count 6 = .ok (.aload_n 0, 1) := by decide +kernel
theorem dX18_count_7 : decode cX18_count 7 = .ok (.getfield 12, 3) := by decide +kernel
theorem dX18_count_10 : decode cX18_count 10 = .ok (.getfield 238, 3) := by decide +kernel
theorem dX18_count_13 : decode cX18_count 13 = .ok (.invokevirtual 199, 3) := by decide +kernel
theorem dX18_count_16 : decode cX18_count 16 = .ok (.ifCond .ne 5, 3) := by decide +kernel
theorem dX18_count_21 : decode cX18_count 21 = .ok (.iload_n 1, 1) := by decide +kernel
theorem dX18_count_22 : decode cX18_count 22 = .ok (.ifCond .ne 13, 3) := by decide +kernel
theorem dX18_count_35 : decode cX18_count 35 = .ok (.iload_n 1, 1) := by decide +kernel
theorem dX18_count_36 : decode cX18_count 36 = .ok (.iconst 1, 1) := by decide +kernel
theorem dX18_count_37 : decode cX18_count 37 = .ok (.if_icmp .ne 13, 3) := by decide +kernel
theorem dX18_count_50 : decode cX18_count 50 = .ok (.iload_n 1, 1) := by decide +kernel
theorem dX18_count_51 : decode cX18_count 51 = .ok (.iconst 2, 1) := by decide +kernel
theorem dX18_count_52 : decode cX18_count 52 = .ok (.if_icmp .ne 13, 3) := by decide +kernel
theorem dX18_count_65 : decode cX18_count 65 = .ok (.aload_n 0, 1) := by decide +kernel
theorem dX18_count_66 : decode cX18_count 66 = .ok (.getfield 12, 3) := by decide +kernel
theorem dX18_count_69 : decode cX18_count 69 = .ok (.invokevirtual 250, 3) := by decide +kernel
theorem dX18_count_72 : decode cX18_count 72 = .ok (.ireturn, 1) := by decide +kernel
theorem dX18_count_55 : decode cX18_count 55 = .ok (.aload_n 0, 1) := by decide +kernel
theorem dX18_count_56 : decode cX18_count 56 = .ok (.getfield 12, 3) := by decide +kernel
theorem dX18_count_59 : decode cX18_count 59 = .ok (.getfield 247, 3) := by decide +kernel
theorem dX18_count_62 : decode cX18_count 62 = .ok (.goto 10, 3) := by decide +kernel
theorem dX18_count_40 : decode cX18_count 40 = .ok (.aload_n 0, 1) := by decide +kernel
theorem dX18_count_41 : decode cX18_count 41 = .ok (.getfield 12, 3) := by decide +kernel
theorem dX18_count_44 : decode cX18_count 44 = .ok (.getfield 244, 3) := by decide +kernel
theorem dX18_count_47 : decode cX18_count 47 = .ok (.goto 25, 3) := by decide +kernel
theorem dX18_count_25 : decode cX18_count 25 = .ok (.aload_n 0, 1) := by decide +kernel
theorem dX18_count_26 : decode cX18_count 26 = .ok (.getfield 12, 3) := by decide +kernel
theorem dX18_count_29 : decode cX18_count 29 = .ok (.getfield 241, 3) := by decide +kernel
theorem dX18_count_32 : decode cX18_count 32 = .ok (.goto 40, 3) := by decide +kernel
theorem dX18_count_19 : decode cX18_count 19 = .ok (.iconst 0, 1) := by decide +kernel
theorem dX18_count_20 : decode cX18_count 20 = .ok (.ireturn, 1) := by decide +kernel
theorem dX18_sides_0 : decode cX18_sides 0 = .ok (.aload_n 0, 1) := by decide +kernel
theorem dX18_sides_1 : decode cX18_sides 1 = .ok (.aload_n 0, 1) := by decide +kernel
theorem dX18_sides_2 : decode cX18_sides 2 = .ok (.getfield 12, 3) := by decide +kernel
theorem dX18_sides_5 : decode cX18_sides 5 = .ok (.iload_n 1, 1) := by decide +kernel
theorem dX18_sides_6 : decode cX18_sides 6 = .ok (.invokevirtual 253, 3) := by decide +kernel
theorem dX18_sides_9 : decode cX18_sides 9 = .ok (.ifCond .eq 11, 3) := by decide +kernel
theorem dX18_sides_20 : decode cX18_sides 20 = .ok (.iconst 0, 1) := by decide +kernel
theorem dX18_sides_21 : decode cX18_sides 21 = .ok (.aload_n 0, 1) := by decide +kernel
theorem dX18_sides_22 : decode cX18_sides 22 = .ok (.getfield 12, 3) := by decide +kernel
theorem dX18_sides_25 : decode cX18_sides 25 = .ok (.getfield 238, 3) := by decide +kernel
theorem dX18_sides_28 : decode cX18_sides 28 = .ok (.invokevirtual 199, 3) := by decide +kernel
theorem dX18_sides_31 : decode cX18_sides 31 = .ok (.ifCond .eq 15, 3) := by decide +kernel
theorem dX18_sides_46 : decode cX18_sides 46 = .ok (.iconst 0, 1) := by decide +kernel
theorem dX18_sides_47 : decode cX18_sides 47 = .ok (.ireturn, 1) := by decide +kernel
theorem dX18_sides_34 : decode cX18_sides 34 = .ok (.aload_n 0, 1) := by decide +kernel
theorem dX18_sides_35 : decode cX18_sides 35 = .ok (.getfield 12, 3) := by decide +kernel
theorem dX18_sides_38 : decode cX18_sides 38 = .ok (.iload_n 1, 1) := by decide +kernel
theorem dX18_sides_39 : decode cX18_sides 39 = .ok (.iload_n 2, 1) := by decide +kernel
theorem dX18_sides_40 : decode cX18_sides 40 = .ok (.invokevirtual 256, 3) := by decide +kernel
theorem dX18_sides_43 : decode cX18_sides 43 = .ok (.goto 4, 3) := by decide +kernel
theorem dX18_sides_12 : decode cX18_sides 12 = .ok (.iload_n 2, 1) := by decide +kernel
theorem dX18_sides_13 : decode cX18_sides 13 = .ok (.ifCond .lt 7, 3) := by decide +kernel
theorem dX18_sides_16 : decode cX18_sides 16 = .ok (.iconst 1, 1) := by decide +kernel
theorem dX18_sides_17 : decode cX18_sides 17 = .ok (.goto 4, 3) := by decide +kernel
theorem dX18_side_0 : decode cX18_side 0 = .ok (.aload_n 0, 1) := by decide +kernel
theorem dX18_side_1 : decode cX18_side 1 = .ok (.getfield 12, 3) := by decide +kernel
theorem dX18_side_4 : decode cX18_side 4 = .ok (.iload_n 1, 1) := by decide +kernel
theorem dX18_side_5 : decode cX18_side 5 = .ok (.invokevirtual 253, 3) := by decide +kernel
theorem dX18_side_8 : decode cX18_side 8 = .ok (.ifCond .eq 38, 3) := by decide +kernel
theorem dX18_side_46 : decode cX18_side 46 = .ok (.iconst 0, 1) := by decide +kernel
theorem dX18_side_47 : decode cX18_side 47 = .ok (.istore 5, 2) := by decide +kernel
theorem dX18_side_49 : decode cX18_side 49 = .ok (.aload_n 0, 1) := by decide +kernel
theorem dX18_side_50 : decode cX18_side 50 = .ok (.iload 5, 2) := by decide +kernel
theorem dX18_side_52 : decode cX18_side 52 = .ok (.aload_n 0, 1) := by decide +kernel
theorem dX18_side_53 : decode cX18_side 53 = .ok (.getfield 12, 3) := by decide +kernel
theorem dX18_side_56 : decode cX18_side 56 = .ok (.getfield 238, 3) := by decide +kernel
theorem dX18_side_59 : decode cX18_side 59 = .ok (.invokevirtual 199, 3) := by decide +kernel
theorem dX18_side_62 : decode cX18_side 62 = .ok (.ifCond .eq 18, 3) := by decide +kernel
theorem dX18_side_80 : decode cX18_side 80 = .ok (.iconst 0, 1) := by decide +kernel
theorem dX18_side_81 : decode cX18_side 81 = .ok (.ireturn, 1) := by decide +kernel
theorem dX18_side_65 : decode cX18_side 65 = .ok (.aload_n 0, 1) := by decide +kernel
theorem dX18_side_66 : decode cX18_side 66 = .ok (.getfield 12, 3) := by decide +kernel
theorem dX18_side_69 : decode cX18_side 69 = .ok (.iload_n 1, 1) := by decide +kernel
theorem dX18_side_70 : decode cX18_side 70 = .ok (.iload_n 2, 1) := by decide +kernel
theorem dX18_side_71 : decode cX18_side 71 = .ok (.iload_n 3, 1) := by decide +kernel
theorem dX18_side_72 : decode cX18_side 72 = .ok (.iload 4, 2) := by decide +kernel
theorem dX18_side_74 : decode cX18_side 74 = .ok (.invokevirtual 260, 3) := by decide +kernel
theorem dX18_side_77 : decode cX18_side 77 = .ok (.goto 4, 3) := by decide +kernel
theorem dX18_side_11 : decode cX18_side 11 = .ok (.iload_n 2, 1) := by decide +kernel
theorem dX18_side_12 : decode cX18_side 12 = .ok (.ifCond .lt 34, 3) := by decide +kernel
theorem dX18_side_15 : decode cX18_side 15 = .ok (.iload_n 3, 1) := by decide +kernel
theorem dX18_side_16 : decode cX18_side 16 = .ok (.ifCond .lt 30, 3) := by decide +kernel
theorem dX18_side_19 : decode cX18_side 19 = .ok (.iload_n 3, 1) := by decide +kernel
theorem dX18_side_20 : decode cX18_side 20 = .ok (.aload_n 0, 1) := by decide +kernel
theorem dX18_side_21 : decode cX18_side 21 = .ok (.getfield 12, 3) := by decide +kernel
theorem dX18_side_24 : decode cX18_side 24 = .ok (.iload_n 1, 1) := by decide +kernel
theorem dX18_side_25 : decode cX18_side 25 = .ok (.iload_n 2, 1) := by decide +kernel
theorem dX18_side_26 : decode cX18_side 26 = .ok (.invokevirtual 256, 3) := by decide +kernel
theorem dX18_side_29 : decode cX18_side 29 = .ok (.if_icmp .ge 17, 3) := by decide +kernel
theorem dX18_side_32 : decode cX18_side 32 = .ok (.iload 4, 2) := by decide +kernel
theorem dX18_side_34 : decode cX18_side 34 = .ok (.bipush 6, 2) := by decide +kernel
theorem dX18_side_36 : decode cX18_side 36 = .ok (.invokestatic 207, 3) := by decide +kernel
theorem dX18_side_39 : decode cX18_side 39 = .ok (.ifCond .eq 7, 3) := by decide +kernel
theorem dX18_side_42 : decode cX18_side 42 = .ok (.iconst 1, 1) := by decide +kernel
theorem dX18_side_43 : decode cX18_side 43 = .ok (.goto 4, 3) := by decide +kernel
theorem dX18_size_0 : decode cX18_size 0 = .ok (.aload_n 0, 1) := by decide +kernel
theorem dX18_size_1 : decode cX18_size 1 = .ok (.aload_n 0, 1) := by decide +kernel
theorem dX18_size_2 : decode cX18_size 2 = .ok (.getfield 12, 3) := by decide +kernel
theorem dX18_size_5 : decode cX18_size 5 = .ok (.iload_n 1, 1) := by decide +kernel
theorem dX18_size_6 : decode cX18_size 6 = .ok (.invokevirtual 253, 3) := by decide +kernel
theorem dX18_size_9 : decode cX18_size 9 = .ok (.ifCond .eq 15, 3) := by decide +kernel
theorem dX18_size_24 : decode cX18_size 24 = .ok (.iconst 0, 1) := by decide +kernel
theorem dX18_size_25 : decode cX18_size 25 = .ok (.aload_n 0, 1) := by decide +kernel
theorem dX18_size_26 : decode cX18_size 26 = .ok (.getfield 12, 3) := by decide +kernel
theorem dX18_size_29 : decode cX18_size 29 = .ok (.getfield 238, 3) := by decide +kernel
theorem dX18_size_32 : decode cX18_size 32 = .ok (.invokevirtual 199, 3) := by decide +kernel
theorem dX18_size_35 : decode cX18_size 35 = .ok (.ifCond .eq 15, 3) := by decide +kernel
theorem dX18_size_50 : decode cX18_size 50 = .ok (.iconst 0, 1) := by decide +kernel
theorem dX18_size_51 : decode cX18_size 51 = .ok (.ireturn, 1) := by decide +kernel
theorem dX18_size_38 : decode cX18_size 38 = .ok (.aload_n 0, 1) := by decide +kernel
theorem dX18_size_39 : decode cX18_size 39 = .ok (.getfield 12, 3) := by decide +kernel
theorem dX18_size_42 : decode cX18_size 42 = .ok (.iload_n 1, 1) := by decide +kernel
theorem dX18_size_43 : decode cX18_size 43 = .ok (.iload_n 2, 1) := by decide +kernel
theorem dX18_size_44 : decode cX18_size 44 = .ok (.invokevirtual 263, 3) := by decide +kernel
theorem dX18_size_47 : decode cX18_size 47 = .ok (.goto 4, 3) := by decide +kernel
theorem dX18_size_12 : decode cX18_size 12 = .ok (.iload_n 2, 1) := by decide +kernel
theorem dX18_size_13 : decode cX18_size 13 = .ok (.iconst 3, 1) := by decide +kernel
theorem dX18_size_14 : decode cX18_size 14 = .ok (.invokestatic 207, 3) := by decide +kernel
theorem dX18_size_17 : decode cX18_size 17 = .ok (.ifCond .eq 7, 3) := by decide +kernel
theorem dX18_size_20 : decode cX18_size 20 = .ok (.iconst 1, 1) := by decide +kernel
theorem dX18_size_21 : decode cX18_size 21 = .ok (.goto 4, 3) := by decide +kernel
theorem dX18_isCell_0 : decode cX18_isCell 0 = .ok (.iload_n 0, 1) := by decide +kernel
theorem dX18_isCell_1 : decode cX18_isCell 1 = .ok (.bipush 24, 2) := by decide +kernel
theorem dX18_isCell_3 : decode cX18_isCell 3 = .ok (.invokestatic 207, 3) := by decide +kernel
theorem dX18_isCell_6 : decode cX18_isCell 6 = .ok (.ifCond .eq 16, 3) := by decide +kernel
theorem dX18_isCell_22 : decode cX18_isCell 22 = .ok (.iconst 0, 1) := by decide +kernel
theorem dX18_isCell_23 : decode cX18_isCell 23 = .ok (.ireturn, 1) := by decide +kernel
theorem dX18_isCell_9 : decode cX18_isCell 9 = .ok (.iload_n 1, 1) := by decide +kernel
theorem dX18_isCell_10 : decode cX18_isCell 10 = .ok (.bipush 24, 2) := by decide +kernel
theorem dX18_isCell_12 : decode cX18_isCell 12 = .ok (.invokestatic 207, 3) := by decide +kernel
theorem dX18_isCell_15 : decode cX18_isCell 15 = .ok (.ifCond .eq 7, 3) := by decide +kernel
theorem dX18_isCell_18 : decode cX18_isCell 18 = .ok (.iconst 1, 1) := by decide +kernel
theorem dX18_isCell_19 : decode cX18_isCell 19 = .ok (.goto 4, 3) := by decide +kernel
theorem dX18_at_0 : decode cX18_at 0 = .ok (.aload_n 0, 1) := by decide +kernel
theorem dX18_at_1 : decode cX18_at 1 = .ok (.iload_n 1, 1) := by decide +kernel
theorem dX18_at_2 : decode cX18_at 2 = .ok (.iload_n 2, 1) := by decide +kernel
theorem dX18_at_3 : decode cX18_at 3 = .ok (.invokestatic 266, 3) := by decide +kernel
theorem dX18_at_6 : decode cX18_at 6 = .ok (.aload_n 0, 1) := by decide +kernel
theorem dX18_at_7 : decode cX18_at 7 = .ok (.getfield 12, 3) := by decide +kernel
theorem dX18_at_10 : decode cX18_at 10 = .ok (.getfield 238, 3) := by decide +kernel
theorem dX18_at_13 : decode cX18_at 13 = .ok (.invokevirtual 199, 3) := by decide +kernel
theorem dX18_at_16 : decode cX18_at 16 = .ok (.ifCond .eq 15, 3) := by decide +kernel
theorem dX18_at_31 : decode cX18_at 31 = .ok (.iconst 0, 1) := by decide +kernel
theorem dX18_at_32 : decode cX18_at 32 = .ok (.ireturn, 1) := by decide +kernel
theorem dX18_at_19 : decode cX18_at 19 = .ok (.aload_n 0, 1) := by decide +kernel
theorem dX18_at_20 : decode cX18_at 20 = .ok (.getfield 12, 3) := by decide +kernel
theorem dX18_at_23 : decode cX18_at 23 = .ok (.iload_n 1, 1) := by decide +kernel
theorem dX18_at_24 : decode cX18_at 24 = .ok (.iload_n 2, 1) := by decide +kernel
theorem dX18_at_25 : decode cX18_at 25 = .ok (.invokevirtual 269, 3) := by decide +kernel
theorem dX18_at_28 : decode cX18_at 28 = .ok (.goto 4, 3) := by decide +kernel
theorem dX18_between_0 : decode cX18_between 0 = .ok (.aload_n 0, 1) := by decide +kernel
theorem dX18_between_1 : decode cX18_between 1 = .ok (.aload_n 0, 1) := by decide +kernel
theorem dX18_between_2 : decode cX18_between 2 = .ok (.getfield 12, 3) := by decide +kernel
theorem dX18_between_5 : decode cX18_between 5 = .ok (.iload_n 1, 1) := by decide +kernel
theorem dX18_between_6 : decode cX18_between 6 = .ok (.invokevirtual 253, 3) := by decide +kernel
theorem dX18_between_9 : decode cX18_between 9 = .ok (.ifCond .eq 18, 3) := by decide +kernel
theorem dX18_between_27 : decode cX18_between 27 = .ok (.iconst 0, 1) := by decide +kernel
theorem dX18_between_28 : decode cX18_between 28 = .ok (.aload_n 0, 1) := by decide +kernel
theorem dX18_between_29 : decode cX18_between 29 = .ok (.getfield 12, 3) := by decide +kernel
theorem dX18_between_32 : decode cX18_between 32 = .ok (.getfield 238, 3) := by decide +kernel
theorem dX18_between_35 : decode cX18_between 35 = .ok (.invokevirtual 199, 3) := by decide +kernel
theorem dX18_between_38 : decode cX18_between 38 = .ok (.ifCond .eq 15, 3) := by decide +kernel
theorem dX18_between_53 : decode cX18_between 53 = .ok (.iconst 0, 1) := by decide +kernel
theorem dX18_between_54 : decode cX18_between 54 = .ok (.ireturn, 1) := by decide +kernel
theorem dX18_between_41 : decode cX18_between 41 = .ok (.aload_n 0, 1) := by decide +kernel
theorem dX18_between_42 : decode cX18_between 42 = .ok (.getfield 12, 3) := by decide +kernel
theorem dX18_between_45 : decode cX18_between 45 = .ok (.iload_n 1, 1) := by decide +kernel
theorem dX18_between_46 : decode cX18_between 46 = .ok (.iload_n 2, 1) := by decide +kernel
theorem dX18_between_47 : decode cX18_between 47 = .ok (.invokevirtual 275, 3) := by decide +kernel
theorem dX18_between_50 : decode cX18_between 50 = .ok (.goto 4, 3) := by decide +kernel
theorem dX18_between_12 : decode cX18_between 12 = .ok (.aload_n 0, 1) := by decide +kernel
theorem dX18_between_13 : decode cX18_between 13 = .ok (.getfield 12, 3) := by decide +kernel
theorem dX18_between_16 : decode cX18_between 16 = .ok (.iload_n 2, 1) := by decide +kernel
theorem dX18_between_17 : decode cX18_between 17 = .ok (.invokevirtual 272, 3) := by decide +kernel
theorem dX18_between_20 : decode cX18_between 20 = .ok (.ifCond .eq 7, 3) := by decide +kernel
theorem dX18_between_23 : decode cX18_between 23 = .ok (.iconst 1, 1) := by decide +kernel
theorem dX18_between_24 : decode cX18_between 24 = .ok (.goto 4, 3) := by decide +kernel
theorem dX18_way_0 : decode cX18_way 0 = .ok (.aload_n 0, 1) := by decide +kernel
theorem dX18_way_1 : decode cX18_way 1 = .ok (.aload_n 0, 1) := by decide +kernel
theorem dX18_way_2 : decode cX18_way 2 = .ok (.getfield 12, 3) := by decide +kernel
theorem dX18_way_5 : decode cX18_way 5 = .ok (.iload_n 1, 1) := by decide +kernel
theorem dX18_way_6 : decode cX18_way 6 = .ok (.invokevirtual 272, 3) := by decide +kernel
theorem dX18_way_9 : decode cX18_way 9 = .ok (.ifCond .eq 18, 3) := by decide +kernel
theorem dX18_way_27 : decode cX18_way 27 = .ok (.iconst 0, 1) := by decide +kernel
theorem dX18_way_28 : decode cX18_way 28 = .ok (.aload_n 0, 1) := by decide +kernel
theorem dX18_way_29 : decode cX18_way 29 = .ok (.getfield 12, 3) := by decide +kernel
theorem dX18_way_32 : decode cX18_way 32 = .ok (.getfield 238, 3) := by decide +kernel
theorem dX18_way_35 : decode cX18_way 35 = .ok (.invokevirtual 199, 3) := by decide +kernel
theorem dX18_way_38 : decode cX18_way 38 = .ok (.ifCond .eq 15, 3) := by decide +kernel
theorem dX18_way_53 : decode cX18_way 53 = .ok (.iconst 0, 1) := by decide +kernel
theorem dX18_way_54 : decode cX18_way 54 = .ok (.ireturn, 1) := by decide +kernel
theorem dX18_way_41 : decode cX18_way 41 = .ok (.aload_n 0, 1) := by decide +kernel
theorem dX18_way_42 : decode cX18_way 42 = .ok (.getfield 12, 3) := by decide +kernel
theorem dX18_way_45 : decode cX18_way 45 = .ok (.iload_n 1, 1) := by decide +kernel
theorem dX18_way_46 : decode cX18_way 46 = .ok (.iload_n 2, 1) := by decide +kernel
theorem dX18_way_47 : decode cX18_way 47 = .ok (.invokevirtual 278, 3) := by decide +kernel
theorem dX18_way_50 : decode cX18_way 50 = .ok (.goto 4, 3) := by decide +kernel
theorem dX18_way_12 : decode cX18_way 12 = .ok (.aload_n 0, 1) := by decide +kernel
theorem dX18_way_13 : decode cX18_way 13 = .ok (.getfield 12, 3) := by decide +kernel
theorem dX18_way_16 : decode cX18_way 16 = .ok (.iload_n 2, 1) := by decide +kernel
theorem dX18_way_17 : decode cX18_way 17 = .ok (.invokevirtual 272, 3) := by decide +kernel
theorem dX18_way_20 : decode cX18_way 20 = .ok (.ifCond .eq 7, 3) := by decide +kernel
theorem dX18_way_23 : decode cX18_way 23 = .ok (.iconst 1, 1) := by decide +kernel
theorem dX18_way_24 : decode cX18_way 24 = .ok (.goto 4, 3) := by decide +kernel
theorem dX18_name_0 : decode cX18_name 0 = .ok (.aload_n 0, 1) := by decide +kernel
theorem dX18_name_1 : decode cX18_name 1 = .ok (.aload_n 0, 1) := by decide +kernel
theorem dX18_name_2 : decode cX18_name 2 = .ok (.getfield 12, 3) := by decide +kernel
theorem dX18_name_5 : decode cX18_name 5 = .ok (.iload_n 1, 1) := by decide +kernel
theorem dX18_name_6 : decode cX18_name 6 = .ok (.invokevirtual 253, 3) := by decide +kernel
theorem dX18_name_9 : decode cX18_name 9 = .ok (.ifCond .eq 18, 3) := by decide +kernel
theorem dX18_name_27 : decode cX18_name 27 = .ok (.iconst 0, 1) := by decide +kernel
theorem dX18_name_28 : decode cX18_name 28 = .ok (.aload_n 0, 1) := by decide +kernel
theorem dX18_name_29 : decode cX18_name 29 = .ok (.getfield 12, 3) := by decide +kernel
theorem dX18_name_32 : decode cX18_name 32 = .ok (.getfield 238, 3) := by decide +kernel
theorem dX18_name_35 : decode cX18_name 35 = .ok (.ifCond .eq 14, 3) := by decide +kernel
theorem dX18_name_49 : decode cX18_name 49 = .ok (.iconst 0, 1) := by decide +kernel
theorem dX18_name_50 : decode cX18_name 50 = .ok (.invokevirtual 199, 3) := by decide +kernel
theorem dX18_name_53 : decode cX18_name 53 = .ok (.ifCond .ne 5, 3) := by decide +kernel
theorem dX18_name_58 : decode cX18_name 58 = .ok (.aload_n 0, 1) := by decide +kernel
theorem dX18_name_59 : decode cX18_name 59 = .ok (.getfield 12, 3) := by decide +kernel
theorem dX18_name_62 : decode cX18_name 62 = .ok (.getfield 281, 3) := by decide +kernel
theorem dX18_name_65 : decode cX18_name 65 = .ok (.iload_n 1, 1) := by decide +kernel
theorem dX18_name_66 : decode cX18_name 66 = .ok (.iaload, 1) := by decide +kernel
theorem dX18_name_67 : decode cX18_name 67 = .ok (.istore_n 3, 1) := by decide +kernel
theorem dX18_name_68 : decode cX18_name 68 = .ok (.aload_n 0, 1) := by decide +kernel
theorem dX18_name_69 : decode cX18_name 69 = .ok (.getfield 12, 3) := by decide +kernel
theorem dX18_name_72 : decode cX18_name 72 = .ok (.getfield 281, 3) := by decide +kernel
theorem dX18_name_75 : decode cX18_name 75 = .ok (.iload_n 1, 1) := by decide +kernel
theorem dX18_name_76 : decode cX18_name 76 = .ok (.iload_n 2, 1) := by decide +kernel
theorem dX18_name_77 : decode cX18_name 77 = .ok (.iastore, 1) := by decide +kernel
theorem dX18_name_78 : decode cX18_name 78 = .ok (.iload_n 3, 1) := by decide +kernel
theorem dX18_name_79 : decode cX18_name 79 = .ok (.ireturn, 1) := by decide +kernel
theorem dX18_name_56 : decode cX18_name 56 = .ok (.iconst 0, 1) := by decide +kernel
theorem dX18_name_57 : decode cX18_name 57 = .ok (.ireturn, 1) := by decide +kernel
theorem dX18_name_38 : decode cX18_name 38 = .ok (.aload_n 0, 1) := by decide +kernel
theorem dX18_name_39 : decode cX18_name 39 = .ok (.getfield 192, 3) := by decide +kernel
theorem dX18_name_42 : decode cX18_name 42 = .ok (.ifCond .ne 7, 3) := by decide +kernel
theorem dX18_name_45 : decode cX18_name 45 = .ok (.iconst 1, 1) := by decide +kernel
theorem dX18_name_46 : decode cX18_name 46 = .ok (.goto 4, 3) := by decide +kernel
theorem dX18_name_12 : decode cX18_name 12 = .ok (.iload_n 2, 1) := by decide +kernel
theorem dX18_name_13 : decode cX18_name 13 = .ok (.ifCond .lt 14, 3) := by decide +kernel
theorem dX18_name_16 : decode cX18_name 16 = .ok (.iload_n 2, 1) := by decide +kernel
theorem dX18_name_17 : decode cX18_name 17 = .ok (.sipush 1000, 3) := by decide +kernel
theorem dX18_name_20 : decode cX18_name 20 = .ok (.if_icmp .gt 7, 3) := by decide +kernel
theorem dX18_name_23 : decode cX18_name 23 = .ok (.iconst 1, 1) := by decide +kernel
theorem dX18_name_24 : decode cX18_name 24 = .ok (.goto 4, 3) := by decide +kernel
theorem dX18_nameOf_0 : decode cX18_nameOf 0 = .ok (.aload_n 0, 1) := by decide +kernel
theorem dX18_nameOf_1 : decode cX18_nameOf 1 = .ok (.aload_n 0, 1) := by decide +kernel
theorem dX18_nameOf_2 : decode cX18_nameOf 2 = .ok (.getfield 12, 3) := by decide +kernel
theorem dX18_nameOf_5 : decode cX18_nameOf 5 = .ok (.iload_n 1, 1) := by decide +kernel
theorem dX18_nameOf_6 : decode cX18_nameOf 6 = .ok (.invokevirtual 253, 3) := by decide +kernel
theorem dX18_nameOf_9 : decode cX18_nameOf 9 = .ok (.aload_n 0, 1) := by decide +kernel
theorem dX18_nameOf_10 : decode cX18_nameOf 10 = .ok (.getfield 12, 3) := by decide +kernel
theorem dX18_nameOf_13 : decode cX18_nameOf 13 = .ok (.getfield 238, 3) := by decide +kernel
theorem dX18_nameOf_16 : decode cX18_nameOf 16 = .ok (.invokevirtual 199, 3) := by decide +kernel
theorem dX18_nameOf_19 : decode cX18_nameOf 19 = .ok (.ifCond .eq 15, 3) := by decide +kernel
theorem dX18_nameOf_34 : decode cX18_nameOf 34 = .ok (.iconst 0, 1) := by decide +kernel
theorem dX18_nameOf_35 : decode cX18_nameOf 35 = .ok (.ireturn, 1) := by decide +kernel
theorem dX18_nameOf_22 : decode cX18_nameOf 22 = .ok (.aload_n 0, 1) := by decide +kernel
theorem dX18_nameOf_23 : decode cX18_nameOf 23 = .ok (.getfield 12, 3) := by decide +kernel
theorem dX18_nameOf_26 : decode cX18_nameOf 26 = .ok (.getfield 281, 3) := by decide +kernel
theorem dX18_nameOf_29 : decode cX18_nameOf 29 = .ok (.iload_n 1, 1) := by decide +kernel
theorem dX18_nameOf_30 : decode cX18_nameOf 30 = .ok (.iaload, 1) := by decide +kernel
theorem dX18_nameOf_31 : decode cX18_nameOf 31 = .ok (.goto 4, 3) := by decide +kernel
theorem dX18_say_0 : decode cX18_say 0 = .ok (.lload_n 1, 1) := by decide +kernel
theorem dX18_say_1 : decode cX18_say 1 = .ok (.invokestatic 284, 3) := by decide +kernel
theorem dX18_say_4 : decode cX18_say 4 = .ok (.istore_n 3, 1) := by decide +kernel
theorem dX18_say_5 : decode cX18_say 5 = .ok (.aload_n 0, 1) := by decide +kernel
theorem dX18_say_6 : decode cX18_say 6 = .ok (.iload_n 3, 1) := by decide +kernel
theorem dX18_say_7 : decode cX18_say 7 = .ok (.ifCond .lt 7, 3) := by decide +kernel
theorem dX18_say_14 : decode cX18_say 14 = .ok (.iconst 0, 1) := by decide +kernel
theorem dX18_say_15 : decode cX18_say 15 = .ok (.aload_n 0, 1) := by decide +kernel
theorem dX18_say_16 : decode cX18_say 16 = .ok (.getfield 21, 3) := by decide +kernel
theorem dX18_say_19 : decode cX18_say 19 = .ok (.getfield 288, 3) := by decide +kernel
theorem dX18_say_22 : decode cX18_say 22 = .ok (.iload_n 3, 1) := by decide +kernel
theorem dX18_say_23 : decode cX18_say 23 = .ok (.iadd, 1) := by decide +kernel
theorem dX18_say_24 : decode cX18_say 24 = .ok (.sipush 800, 3) := by decide +kernel
theorem dX18_say_27 : decode cX18_say 27 = .ok (.if_icmp .gt 7, 3) := by decide +kernel
theorem dX18_say_34 : decode cX18_say 34 = .ok (.iconst 0, 1) := by decide +kernel
theorem dX18_say_35 : decode cX18_say 35 = .ok (.invokevirtual 199, 3) := by decide +kernel
theorem dX18_say_38 : decode cX18_say 38 = .ok (.ifCond .eq 14, 3) := by decide +kernel
theorem dX18_say_52 : decode cX18_say 52 = .ok (.iconst 0, 1) := by decide +kernel
theorem dX18_say_53 : decode cX18_say 53 = .ok (.ireturn, 1) := by decide +kernel
theorem dX18_say_41 : decode cX18_say 41 = .ok (.aload_n 0, 1) := by decide +kernel
theorem dX18_say_42 : decode cX18_say 42 = .ok (.getfield 21, 3) := by decide +kernel
theorem dX18_say_45 : decode cX18_say 45 = .ok (.lload_n 1, 1) := by decide +kernel
theorem dX18_say_46 : decode cX18_say 46 = .ok (.invokevirtual 290, 3) := by decide +kernel
theorem dX18_say_49 : decode cX18_say 49 = .ok (.goto 4, 3) := by decide +kernel
theorem dX18_say_30 : decode cX18_say 30 = .ok (.iconst 1, 1) := by decide +kernel
theorem dX18_say_31 : decode cX18_say 31 = .ok (.goto 4, 3) := by decide +kernel
theorem dX18_say_10 : decode cX18_say 10 = .ok (.iconst 1, 1) := by decide +kernel
theorem dX18_say_11 : decode cX18_say 11 = .ok (.goto 4, 3) := by decide +kernel
theorem dX18_trim_0 : decode cX18_trim 0 = .ok (.aload_n 0, 1) := by decide +kernel
theorem dX18_trim_1 : decode cX18_trim 1 = .ok (.iload_n 1, 1) := by decide +kernel
theorem dX18_trim_2 : decode cX18_trim 2 = .ok (.ifCond .lt 18, 3) := by decide +kernel
theorem dX18_trim_20 : decode cX18_trim 20 = .ok (.iconst 0, 1) := by decide +kernel
theorem dX18_trim_21 : decode cX18_trim 21 = .ok (.iconst 1, 1) := by decide +kernel
theorem dX18_trim_22 : decode cX18_trim 22 = .ok (.invokevirtual 199, 3) := by decide +kernel
theorem dX18_trim_25 : decode cX18_trim 25 = .ok (.ifCond .ne 5, 3) := by decide +kernel
theorem dX18_trim_30 : decode cX18_trim 30 = .ok (.aload_n 0, 1) := by decide +kernel
theorem dX18_trim_31 : decode cX18_trim 31 = .ok (.getfield 21, 3) := by decide +kernel
theorem dX18_trim_34 : decode cX18_trim 34 = .ok (.dup, 1) := by decide +kernel
theorem dX18_trim_35 : decode cX18_trim 35 = .ok (.getfield 288, 3) := by decide +kernel
theorem dX18_trim_38 : decode cX18_trim 38 = .ok (.iload_n 1, 1) := by decide +kernel
theorem dX18_trim_39 : decode cX18_trim 39 = .ok (.isub, 1) := by decide +kernel
theorem dX18_trim_40 : decode cX18_trim 40 = .ok (.putfield 288, 3) := by decide +kernel
theorem dX18_trim_43 : decode cX18_trim 43 = .ok (.aload_n 0, 1) := by decide +kernel
theorem dX18_trim_44 : decode cX18_trim 44 = .ok (.getfield 21, 3) := by decide +kernel
theorem dX18_trim_47 : decode cX18_trim 47 = .ok (.getfield 288, 3) := by decide +kernel
theorem dX18_trim_50 : decode cX18_trim 50 = .ok (.ireturn, 1) := by decide +kernel
theorem dX18_trim_28 : decode cX18_trim 28 = .ok (.iconst 0, 1) := by decide +kernel
theorem dX18_trim_29 : decode cX18_trim 29 = .ok (.ireturn, 1) := by decide +kernel
theorem dX18_trim_5 : decode cX18_trim 5 = .ok (.iload_n 1, 1) := by decide +kernel
theorem dX18_trim_6 : decode cX18_trim 6 = .ok (.aload_n 0, 1) := by decide +kernel
theorem dX18_trim_7 : decode cX18_trim 7 = .ok (.getfield 21, 3) := by decide +kernel
theorem dX18_trim_10 : decode cX18_trim 10 = .ok (.getfield 288, 3) := by decide +kernel
theorem dX18_trim_13 : decode cX18_trim 13 = .ok (.if_icmp .gt 7, 3) := by decide +kernel
theorem dX18_trim_16 : decode cX18_trim 16 = .ok (.iconst 1, 1) := by decide +kernel
theorem dX18_trim_17 : decode cX18_trim 17 = .ok (.goto 4, 3) := by decide +kernel
theorem dX18_rules_0 : decode cX18_rules 0 = .ok (.aload_n 0, 1) := by decide +kernel
theorem dX18_rules_1 : decode cX18_rules 1 = .ok (.iconst 0, 1) := by decide +kernel
theorem dX18_rules_2 : decode cX18_rules 2 = .ok (.putfield 184, 3) := by decide +kernel
theorem dX18_rules_5 : decode cX18_rules 5 = .ok (.aload_n 0, 1) := by decide +kernel
theorem dX18_rules_6 : decode cX18_rules 6 = .ok (.getfield 21, 3) := by decide +kernel
theorem dX18_rules_9 : decode cX18_rules 9 = .ok (.invokevirtual 293, 3) := by decide +kernel
theorem dX18_rules_12 : decode cX18_rules 12 = .ok (.ireturn, 1) := by decide +kernel
theorem dX18_hasRoom_0 : decode cX18_hasRoom 0 = .ok (.aload_n 0, 1) := by decide +kernel
theorem dX18_hasRoom_1 : decode cX18_hasRoom 1 = .ok (.getfield 21, 3) := by decide +kernel
theorem dX18_hasRoom_4 : decode cX18_hasRoom 4 = .ok (.lload_n 1, 1) := by decide +kernel
theorem dX18_hasRoom_5 : decode cX18_hasRoom 5 = .ok (.invokevirtual 296, 3) := by decide +kernel
theorem dX18_hasRoom_8 : decode cX18_hasRoom 8 = .ok (.ifCond .ge 15, 3) := by decide +kernel
theorem dX18_hasRoom_23 : decode cX18_hasRoom 23 = .ok (.iconst 1, 1) := by decide +kernel
theorem dX18_hasRoom_24 : decode cX18_hasRoom 24 = .ok (.goto 4, 3) := by decide +kernel
theorem dX18_hasRoom_28 : decode cX18_hasRoom 28 = .ok (.ireturn, 1) := by decide +kernel
theorem dX18_hasRoom_11 : decode cX18_hasRoom 11 = .ok (.aload_n 0, 1) := by decide +kernel
theorem dX18_hasRoom_12 : decode cX18_hasRoom 12 = .ok (.getfield 21, 3) := by decide +kernel
theorem dX18_hasRoom_15 : decode cX18_hasRoom 15 = .ok (.getfield 299, 3) := by decide +kernel
theorem dX18_hasRoom_18 : decode cX18_hasRoom 18 = .ok (.bipush 40, 2) := by decide +kernel
theorem dX18_hasRoom_20 : decode cX18_hasRoom 20 = .ok (.if_icmp .ge 7, 3) := by decide +kernel
theorem dX18_hasRoom_27 : decode cX18_hasRoom 27 = .ok (.iconst 0, 1) := by decide +kernel
theorem dX18_fact_0 : decode cX18_fact 0 = .ok (.aload_n 0, 1) := by decide +kernel
theorem dX18_fact_1 : decode cX18_fact 1 = .ok (.lload_n 1, 1) := by decide +kernel
theorem dX18_fact_2 : decode cX18_fact 2 = .ok (.invokestatic 302, 3) := by decide +kernel
theorem dX18_fact_5 : decode cX18_fact 5 = .ok (.ifCond .eq 21, 3) := by decide +kernel
theorem dX18_fact_26 : decode cX18_fact 26 = .ok (.iconst 0, 1) := by decide +kernel
theorem dX18_fact_27 : decode cX18_fact 27 = .ok (.aload_n 0, 1) := by decide +kernel
theorem dX18_fact_28 : decode cX18_fact 28 = .ok (.lload_n 1, 1) := by decide +kernel
theorem dX18_fact_29 : decode cX18_fact 29 = .ok (.invokevirtual 308, 3) := by decide +kernel
theorem dX18_fact_32 : decode cX18_fact 32 = .ok (.invokevirtual 199, 3) := by decide +kernel
theorem dX18_fact_35 : decode cX18_fact 35 = .ok (.ifCond .eq 15, 3) := by decide +kernel
theorem dX18_fact_50 : decode cX18_fact 50 = .ok (.lconst 0, 1) := by decide +kernel
theorem dX18_fact_51 : decode cX18_fact 51 = .ok (.lreturn, 1) := by decide +kernel
theorem dX18_fact_38 : decode cX18_fact 38 = .ok (.aload_n 0, 1) := by decide +kernel
theorem dX18_fact_39 : decode cX18_fact 39 = .ok (.getfield 21, 3) := by decide +kernel
theorem dX18_fact_42 : decode cX18_fact 42 = .ok (.lload_n 1, 1) := by decide +kernel
theorem dX18_fact_43 : decode cX18_fact 43 = .ok (.iload_n 3, 1) := by decide +kernel
theorem dX18_fact_44 : decode cX18_fact 44 = .ok (.invokevirtual 311, 3) := by decide +kernel
theorem dX18_fact_47 : decode cX18_fact 47 = .ok (.goto 4, 3) := by decide +kernel
theorem dX18_fact_8 : decode cX18_fact 8 = .ok (.iload_n 3, 1) := by decide +kernel
theorem dX18_fact_9 : decode cX18_fact 9 = .ok (.ldc_w 306, 3) := by decide +kernel
theorem dX18_fact_12 : decode cX18_fact 12 = .ok (.if_icmp .lt 14, 3) := by decide +kernel
theorem dX18_fact_15 : decode cX18_fact 15 = .ok (.iload_n 3, 1) := by decide +kernel
theorem dX18_fact_16 : decode cX18_fact 16 = .ok (.ldc_w 307, 3) := by decide +kernel
theorem dX18_fact_19 : decode cX18_fact 19 = .ok (.if_icmp .gt 7, 3) := by decide +kernel
theorem dX18_fact_22 : decode cX18_fact 22 = .ok (.iconst 1, 1) := by decide +kernel
theorem dX18_fact_23 : decode cX18_fact 23 = .ok (.goto 4, 3) := by decide +kernel
theorem dX18_measure_0 : decode cX18_measure 0 = .ok (.aload_n 0, 1) := by decide +kernel
theorem dX18_measure_1 : decode cX18_measure 1 = .ok (.aload_n 0, 1) := by decide +kernel
theorem dX18_measure_2 : decode cX18_measure 2 = .ok (.getfield 12, 3) := by decide +kernel
theorem dX18_measure_5 : decode cX18_measure 5 = .ok (.iload_n 1, 1) := by decide +kernel
theorem dX18_measure_6 : decode cX18_measure 6 = .ok (.invokevirtual 253, 3) := by decide +kernel
theorem dX18_measure_9 : decode cX18_measure 9 = .ok (.ifCond .eq 22, 3) := by decide +kernel
theorem dX18_measure_31 : decode cX18_measure 31 = .ok (.iconst 0, 1) := by decide +kernel
theorem dX18_measure_32 : decode cX18_measure 32 = .ok (.aload_n 0, 1) := by decide +kernel
theorem dX18_measure_33 : decode cX18_measure 33 = .ok (.getfield 12, 3) := by decide +kernel
theorem dX18_measure_36 : decode cX18_measure 36 = .ok (.getfield 238, 3) := by decide +kernel
theorem dX18_measure_39 : decode cX18_measure 39 = .ok (.ifCond .eq 15, 3) := by decide +kernel
theorem dX18_measure_54 : decode cX18_measure 54 = .ok (.iconst 0, 1) := by decide +kernel
theorem dX18_measure_55 : decode cX18_measure 55 = .ok (.invokevirtual 199, 3) := by decide +kernel
theorem dX18_measure_58 : decode cX18_measure 58 = .ok (.ifCond .ne 5, 3) := by decide +kernel
theorem dX18_measure_63 : decode cX18_measure 63 = .ok (.aload_n 0, 1) := by decide +kernel
theorem dX18_measure_64 : decode cX18_measure 64 = .ok (.getfield 12, 3) := by decide +kernel
theorem dX18_measure_67 : decode cX18_measure 67 = .ok (.iload_n 1, 1) := by decide +kernel
theorem dX18_measure_68 : decode cX18_measure 68 = .ok (.iload_n 2, 1) := by decide +kernel
theorem dX18_measure_69 : decode cX18_measure 69 = .ok (.invokevirtual 263, 3) := by decide +kernel
theorem dX18_measure_72 : decode cX18_measure 72 = .ok (.istore 5, 2) := by decide +kernel
theorem dX18_measure_74 : decode cX18_measure 74 = .ok (.aload_n 0, 1) := by decide +kernel
theorem dX18_measure_75 : decode cX18_measure 75 = .ok (.getfield 21, 3) := by decide +kernel
theorem dX18_measure_78 : decode cX18_measure 78 = .ok (.lload_n 3, 1) := by decide +kernel
theorem dX18_measure_79 : decode cX18_measure 79 = .ok (.iload 5, 2) := by decide +kernel
theorem dX18_measure_81 : decode cX18_measure 81 = .ok (.invokevirtual 311, 3) := by decide +kernel
theorem dX18_measure_84 : decode cX18_measure 84 = .ok (.lstore 6, 2) := by decide +kernel
theorem dX18_measure_86 : decode cX18_measure 86 = .ok (.iload 5, 2) := by decide +kernel
theorem dX18_measure_88 : decode cX18_measure 88 = .ok (.ireturn, 1) := by decide +kernel
theorem dX18_measure_61 : decode cX18_measure 61 = .ok (.iconst 0, 1) := by decide +kernel
theorem dX18_measure_62 : decode cX18_measure 62 = .ok (.ireturn, 1) := by decide +kernel
theorem dX18_measure_42 : decode cX18_measure 42 = .ok (.aload_n 0, 1) := by decide +kernel
theorem dX18_measure_43 : decode cX18_measure 43 = .ok (.lload_n 3, 1) := by decide +kernel
theorem dX18_measure_44 : decode cX18_measure 44 = .ok (.invokevirtual 308, 3) := by decide +kernel
theorem dX18_measure_47 : decode cX18_measure 47 = .ok (.ifCond .eq 7, 3) := by decide +kernel
theorem dX18_measure_50 : decode cX18_measure 50 = .ok (.iconst 1, 1) := by decide +kernel
theorem dX18_measure_51 : decode cX18_measure 51 = .ok (.goto 4, 3) := by decide +kernel
theorem dX18_measure_12 : decode cX18_measure 12 = .ok (.iload_n 2, 1) := by decide +kernel
theorem dX18_measure_13 : decode cX18_measure 13 = .ok (.iconst 3, 1) := by decide +kernel
theorem dX18_measure_14 : decode cX18_measure 14 = .ok (.invokestatic 207, 3) := by decide +kernel
theorem dX18_measure_17 : decode cX18_measure 17 = .ok (.ifCond .eq 14, 3) := by decide +kernel
theorem dX18_measure_20 : decode cX18_measure 20 = .ok (.lload_n 3, 1) := by decide +kernel
theorem dX18_measure_21 : decode cX18_measure 21 = .ok (.invokestatic 302, 3) := by decide +kernel
theorem dX18_measure_24 : decode cX18_measure 24 = .ok (.ifCond .eq 7, 3) := by decide +kernel
theorem dX18_measure_27 : decode cX18_measure 27 = .ok (.iconst 1, 1) := by decide +kernel
theorem dX18_measure_28 : decode cX18_measure 28 = .ok (.goto 4, 3) := by decide +kernel
theorem dX18_isDay_0 : decode cX18_isDay 0 = .ok (.iload_n 0, 1) := by decide +kernel
theorem dX18_isDay_1 : decode cX18_isDay 1 = .ok (.ifCond .lt 14, 3) := by decide +kernel
theorem dX18_isDay_15 : decode cX18_isDay 15 = .ok (.iconst 0, 1) := by decide +kernel
theorem dX18_isDay_16 : decode cX18_isDay 16 = .ok (.ireturn, 1) := by decide +kernel
theorem dX18_isDay_4 : decode cX18_isDay 4 = .ok (.iload_n 0, 1) := by decide +kernel
theorem dX18_isDay_5 : decode cX18_isDay 5 = .ok (.ldc_w 315, 3) := by decide +kernel
theorem dX18_isDay_8 : decode cX18_isDay 8 = .ok (.if_icmp .gt 7, 3) := by decide +kernel
theorem dX18_isDay_11 : decode cX18_isDay 11 = .ok (.iconst 1, 1) := by decide +kernel
theorem dX18_isDay_12 : decode cX18_isDay 12 = .ok (.goto 4, 3) := by decide +kernel
theorem dX18_check_0 : decode cX18_check 0 = .ok (.aload_n 0, 1) := by decide +kernel
theorem dX18_check_1 : decode cX18_check 1 = .ok (.iload_n 1, 1) := by decide +kernel
theorem dX18_check_2 : decode cX18_check 2 = .ok (.invokestatic 316, 3) := by decide +kernel
theorem dX18_check_5 : decode cX18_check 5 = .ok (.iconst 1, 1) := by decide +kernel
theorem dX18_check_6 : decode cX18_check 6 = .ok (.invokevirtual 199, 3) := by decide +kernel
theorem dX18_check_9 : decode cX18_check 9 = .ok (.ifCond .eq 14, 3) := by decide +kernel
theorem dX18_check_23 : decode cX18_check 23 = .ok (.iconst 0, 1) := by decide +kernel
theorem dX18_check_24 : decode cX18_check 24 = .ok (.ireturn, 1) := by decide +kernel
theorem dX18_check_12 : decode cX18_check 12 = .ok (.aload_n 0, 1) := by decide +kernel
theorem dX18_check_13 : decode cX18_check 13 = .ok (.getfield 21, 3) := by decide +kernel
theorem dX18_check_16 : decode cX18_check 16 = .ok (.iload_n 1, 1) := by decide +kernel
theorem dX18_check_17 : decode cX18_check 17 = .ok (.invokevirtual 319, 3) := by decide +kernel
theorem dX18_check_20 : decode cX18_check 20 = .ok (.goto 4, 3) := by decide +kernel
theorem dX18_rule_0 : decode cX18_rule 0 = .ok (.aload_n 0, 1) := by decide +kernel
theorem dX18_rule_1 : decode cX18_rule 1 = .ok (.iload_n 1, 1) := by decide +kernel
theorem dX18_rule_2 : decode cX18_rule 2 = .ok (.aload_n 0, 1) := by decide +kernel
theorem dX18_rule_3 : decode cX18_rule 3 = .ok (.getfield 21, 3) := by decide +kernel
theorem dX18_rule_6 : decode cX18_rule 6 = .ok (.getfield 321, 3) := by decide +kernel
theorem dX18_rule_9 : decode cX18_rule 9 = .ok (.invokestatic 207, 3) := by decide +kernel
theorem dX18_rule_12 : decode cX18_rule 12 = .ok (.ifCond .eq 16, 3) := by decide +kernel
theorem dX18_rule_28 : decode cX18_rule 28 = .ok (.iconst 0, 1) := by decide +kernel
theorem dX18_rule_29 : decode cX18_rule 29 = .ok (.aload_n 0, 1) := by decide +kernel
theorem dX18_rule_30 : decode cX18_rule 30 = .ok (.getfield 21, 3) := by decide +kernel
theorem dX18_rule_33 : decode cX18_rule 33 = .ok (.getfield 324, 3) := by decide +kernel
theorem dX18_rule_36 : decode cX18_rule 36 = .ok (.ifCond .lt 7, 3) := by decide +kernel
theorem dX18_rule_43 : decode cX18_rule 43 = .ok (.iconst 0, 1) := by decide +kernel
theorem dX18_rule_44 : decode cX18_rule 44 = .ok (.invokevirtual 199, 3) := by decide +kernel
theorem dX18_rule_47 : decode cX18_rule 47 = .ok (.ifCond .eq 15, 3) := by decide +kernel
theorem dX18_rule_62 : decode cX18_rule 62 = .ok (.lconst 0, 1) := by decide +kernel
theorem dX18_rule_63 : decode cX18_rule 63 = .ok (.lreturn, 1) := by decide +kernel
theorem dX18_rule_50 : decode cX18_rule 50 = .ok (.aload_n 0, 1) := by decide +kernel
theorem dX18_rule_51 : decode cX18_rule 51 = .ok (.getfield 21, 3) := by decide +kernel
theorem dX18_rule_54 : decode cX18_rule 54 = .ok (.iload_n 1, 1) := by decide +kernel
theorem dX18_rule_55 : decode cX18_rule 55 = .ok (.iload_n 2, 1) := by decide +kernel
theorem dX18_rule_56 : decode cX18_rule 56 = .ok (.invokevirtual 327, 3) := by decide +kernel
theorem dX18_rule_59 : decode cX18_rule 59 = .ok (.goto 4, 3) := by decide +kernel
theorem dX18_rule_39 : decode cX18_rule 39 = .ok (.iconst 1, 1) := by decide +kernel
theorem dX18_rule_40 : decode cX18_rule 40 = .ok (.goto 4, 3) := by decide +kernel
theorem dX18_rule_15 : decode cX18_rule 15 = .ok (.iload_n 2, 1) := by decide +kernel
theorem dX18_rule_16 : decode cX18_rule 16 = .ok (.bipush 7, 2) := by decide +kernel
theorem dX18_rule_18 : decode cX18_rule 18 = .ok (.invokestatic 207, 3) := by decide +kernel
theorem dX18_rule_21 : decode cX18_rule 21 = .ok (.ifCond .eq 7, 3) := by decide +kernel
theorem dX18_rule_24 : decode cX18_rule 24 = .ok (.iconst 1, 1) := by decide +kernel
theorem dX18_rule_25 : decode cX18_rule 25 = .ok (.goto 4, 3) := by decide +kernel
theorem dX18_roomOf_0 : decode cX18_roomOf 0 = .ok (.iload_n 1, 1) := by decide +kernel
theorem dX18_roomOf_1 : decode cX18_roomOf 1 = .ok (.ifCond .ge 10, 3) := by decide +kernel
theorem dX18_roomOf_11 : decode cX18_roomOf 11 = .ok (.iload_n 1, 1) := by decide +kernel
theorem dX18_roomOf_12 : decode cX18_roomOf 12 = .ok (.ireturn, 1) := by decide +kernel
theorem dX18_roomOf_4 : decode cX18_roomOf 4 = .ok (.aload_n 0, 1) := by decide +kernel
theorem dX18_roomOf_5 : decode cX18_roomOf 5 = .ok (.getfield 338, 3) := by decide +kernel
theorem dX18_roomOf_8 : decode cX18_roomOf 8 = .ok (.goto 4, 3) := by decide +kernel
theorem dX18_portal_0 : decode cX18_portal 0 = .ok (.aload_n 0, 1) := by decide +kernel
theorem dX18_portal_1 : decode cX18_portal 1 = .ok (.aload_n 0, 1) := by decide +kernel
theorem dX18_portal_2 : decode cX18_portal 2 = .ok (.getfield 12, 3) := by decide +kernel
theorem dX18_portal_5 : decode cX18_portal 5 = .ok (.iload_n 3, 1) := by decide +kernel
theorem dX18_portal_6 : decode cX18_portal 6 = .ok (.iconst 1, 1) := by decide +kernel
theorem dX18_portal_7 : decode cX18_portal 7 = .ok (.invokevirtual 341, 3) := by decide +kernel
theorem dX18_portal_10 : decode cX18_portal 10 = .ok (.invokevirtual 345, 3) := by decide +kernel
theorem dX18_portal_13 : decode cX18_portal 13 = .ok (.istore 4, 2) := by decide +kernel
theorem dX18_portal_15 : decode cX18_portal 15 = .ok (.aload_n 0, 1) := by decide +kernel
theorem dX18_portal_16 : decode cX18_portal 16 = .ok (.aload_n 0, 1) := by decide +kernel
theorem dX18_portal_17 : decode cX18_portal 17 = .ok (.getfield 12, 3) := by decide +kernel
theorem dX18_portal_20 : decode cX18_portal 20 = .ok (.iload_n 3, 1) := by decide +kernel
theorem dX18_portal_21 : decode cX18_portal 21 = .ok (.iconst 0, 1) := by decide +kernel
theorem dX18_portal_22 : decode cX18_portal 22 = .ok (.invokevirtual 341, 3) := by decide +kernel
theorem dX18_portal_25 : decode cX18_portal 25 = .ok (.invokevirtual 345, 3) := by decide +kernel
theorem dX18_portal_28 : decode cX18_portal 28 = .ok (.istore 5, 2) := by decide +kernel
theorem dX18_portal_30 : decode cX18_portal 30 = .ok (.iload 4, 2) := by decide +kernel
theorem dX18_portal_32 : decode cX18_portal 32 = .ok (.iload 5, 2) := by decide +kernel
theorem dX18_portal_34 : decode cX18_portal 34 = .ok (.if_icmp .eq 97, 3) := by decide +kernel
theorem dX18_portal_131 : decode cX18_portal 131 = .ok (.return_, 1) := by decide +kernel
theorem dX18_portal_37 : decode cX18_portal 37 = .ok (.aload_n 0, 1) := by decide +kernel
theorem dX18_portal_38 : decode cX18_portal 38 = .ok (.getfield 12, 3) := by decide +kernel
theorem dX18_portal_41 : decode cX18_portal 41 = .ok (.iload_n 3, 1) := by decide +kernel
theorem dX18_portal_42 : decode cX18_portal 42 = .ok (.iload_n 2, 1) := by decide +kernel
theorem dX18_portal_43 : decode cX18_portal 43 = .ok (.invokevirtual 348, 3) := by decide +kernel
theorem dX18_portal_46 : decode cX18_portal 46 = .ok (.ifCond .lt 85, 3) := by decide +kernel
theorem dX18_portal_49 : decode cX18_portal 49 = .ok (.aload_n 0, 1) := by decide +kernel
theorem dX18_portal_50 : decode cX18_portal 50 = .ok (.getfield 53, 3) := by decide +kernel
theorem dX18_portal_53 : decode cX18_portal 53 = .ok (.aload_n 0, 1) := by decide +kernel
theorem dX18_portal_54 : decode cX18_portal 54 = .ok (.getfield 351, 3) := by decide +kernel
theorem dX18_portal_57 : decode cX18_portal 57 = .ok (.iload 4, 2) := by decide +kernel
theorem dX18_portal_59 : decode cX18_portal 59 = .ok (.iastore, 1) := by decide +kernel
theorem dX18_portal_60 : decode cX18_portal 60 = .ok (.aload_n 0, 1) := by decide +kernel
theorem dX18_portal_61 : decode cX18_portal 61 = .ok (.getfield 57, 3) := by decide +kernel
theorem dX18_portal_64 : decode cX18_portal 64 = .ok (.aload_n 0, 1) := by decide +kernel
theorem dX18_portal_65 : decode cX18_portal 65 = .ok (.getfield 351, 3) := by decide +kernel
theorem dX18_portal_68 : decode cX18_portal 68 = .ok (.iload 5, 2) := by decide +kernel
theorem dX18_portal_70 : decode cX18_portal 70 = .ok (.iastore, 1) := by decide +kernel
theorem dX18_portal_71 : decode cX18_portal 71 = .ok (.aload_n 0, 1) := by decide +kernel
theorem dX18_portal_72 : decode cX18_portal 72 = .ok (.getfield 60, 3) := by decide +kernel
theorem dX18_portal_75 : decode cX18_portal 75 = .ok (.aload_n 0, 1) := by decide +kernel
theorem dX18_portal_76 : decode cX18_portal 76 = .ok (.getfield 351, 3) := by decide +kernel
theorem dX18_portal_79 : decode cX18_portal 79 = .ok (.iload_n 1, 1) := by decide +kernel
theorem dX18_portal_80 : decode cX18_portal 80 = .ok (.iastore, 1) := by decide +kernel
theorem dX18_portal_81 : decode cX18_portal 81 = .ok (.aload_n 0, 1) := by decide +kernel
theorem dX18_portal_82 : decode cX18_portal 82 = .ok (.getfield 63, 3) := by decide +kernel
theorem dX18_portal_85 : decode cX18_portal 85 = .ok (.aload_n 0, 1) := by decide +kernel
theorem dX18_portal_86 : decode cX18_portal 86 = .ok (.getfield 351, 3) := by decide +kernel
theorem dX18_portal_89 : decode cX18_portal 89 = .ok (.iload_n 2, 1) := by decide +kernel
theorem dX18_portal_90 : decode cX18_portal 90 = .ok (.iastore, 1) := by decide +kernel
theorem dX18_portal_91 : decode cX18_portal 91 = .ok (.aload_n 0, 1) := by decide +kernel
theorem dX18_portal_92 : decode cX18_portal 92 = .ok (.getfield 66, 3) := by decide +kernel
theorem dX18_portal_95 : decode cX18_portal 95 = .ok (.aload_n 0, 1) := by decide +kernel
theorem dX18_portal_96 : decode cX18_portal 96 = .ok (.getfield 351, 3) := by decide +kernel
theorem dX18_portal_99 : decode cX18_portal 99 = .ok (.aload_n 0, 1) := by decide +kernel
theorem dX18_portal_100 : decode cX18_portal 100 = .ok (.getfield 12, 3) := by decide +kernel
theorem dX18_portal_103 : decode cX18_portal 103 = .ok (.iload_n 3, 1) := by decide +kernel
theorem dX18_portal_104 : decode cX18_portal 104 = .ok (.iload_n 2, 1) := by decide +kernel
theorem dX18_portal_105 : decode cX18_portal 105 = .ok (.invokevirtual 348, 3) := by decide +kernel
theorem dX18_portal_108 : decode cX18_portal 108 = .ok (.iastore, 1) := by decide +kernel
theorem dX18_portal_109 : decode cX18_portal 109 = .ok (.aload_n 0, 1) := by decide +kernel
theorem dX18_portal_110 : decode cX18_portal 110 = .ok (.getfield 79, 3) := by decide +kernel
theorem dX18_portal_113 : decode cX18_portal 113 = .ok (.aload_n 0, 1) := by decide +kernel
theorem dX18_portal_114 : decode cX18_portal 114 = .ok (.getfield 351, 3) := by decide +kernel
theorem dX18_portal_117 : decode cX18_portal 117 = .ok (.ldc_w 354, 3) := by decide +kernel
theorem dX18_portal_120 : decode cX18_portal 120 = .ok (.iastore, 1) := by decide +kernel
theorem dX18_portal_121 : decode cX18_portal 121 = .ok (.aload_n 0, 1) := by decide +kernel
theorem dX18_portal_122 : decode cX18_portal 122 = .ok (.dup, 1) := by decide +kernel
theorem dX18_portal_123 : decode cX18_portal 123 = .ok (.getfield 351, 3) := by decide +kernel
theorem dX18_portal_126 : decode cX18_portal 126 = .ok (.iconst 1, 1) := by decide +kernel
theorem dX18_portal_127 : decode cX18_portal 127 = .ok (.iadd, 1) := by decide +kernel
theorem dX18_portal_128 : decode cX18_portal 128 = .ok (.putfield 351, 3) := by decide +kernel
theorem dX18_findPortals_0 : decode cX18_findPortals 0 = .ok (.iconst 0, 1) := by decide +kernel
theorem dX18_findPortals_1 : decode cX18_findPortals 1 = .ok (.istore_n 1, 1) := by decide +kernel
theorem dX18_findPortals_2 : decode cX18_findPortals 2 = .ok (.iload_n 1, 1) := by decide +kernel
theorem dX18_findPortals_3 : decode cX18_findPortals 3 = .ok (.aload_n 0, 1) := by decide +kernel
theorem dX18_findPortals_4 : decode cX18_findPortals 4 = .ok (.getfield 12, 3) := by decide +kernel
theorem dX18_findPortals_7 : decode cX18_findPortals 7 = .ok (.getfield 196, 3) := by decide +kernel
theorem dX18_findPortals_10 : decode cX18_findPortals 10 = .ok (.if_icmp .ge 71, 3) := by decide +kernel
theorem dX18_findPortals_13 : decode cX18_findPortals 13 = .ok (.iconst 0, 1) := by decide +kernel
theorem dX18_findPortals_14 : decode cX18_findPortals 14 = .ok (.istore_n 2, 1) := by decide +kernel
theorem dX18_findPortals_15 : decode cX18_findPortals 15 = .ok (.iload_n 2, 1) := by decide +kernel
theorem dX18_findPortals_16 : decode cX18_findPortals 16 = .ok (.aload_n 0, 1) := by decide +kernel
theorem dX18_findPortals_17 : decode cX18_findPortals 17 = .ok (.getfield 12, 3) := by decide +kernel
theorem dX18_findPortals_20 : decode cX18_findPortals 20 = .ok (.getfield 221, 3) := by decide +kernel
theorem dX18_findPortals_23 : decode cX18_findPortals 23 = .ok (.iload_n 1, 1) := by decide +kernel
theorem dX18_findPortals_24 : decode cX18_findPortals 24 = .ok (.iaload, 1) := by decide +kernel
theorem dX18_findPortals_25 : decode cX18_findPortals 25 = .ok (.if_icmp .ge 50, 3) := by decide +kernel
theorem dX18_findPortals_28 : decode cX18_findPortals 28 = .ok (.aload_n 0, 1) := by decide +kernel
theorem dX18_findPortals_29 : decode cX18_findPortals 29 = .ok (.getfield 12, 3) := by decide +kernel
theorem dX18_findPortals_32 : decode cX18_findPortals 32 = .ok (.iload_n 1, 1) := by decide +kernel
theorem dX18_findPortals_33 : decode cX18_findPortals 33 = .ok (.iconst 0, 1) := by decide +kernel
theorem dX18_findPortals_34 : decode cX18_findPortals 34 = .ok (.invokevirtual 331, 3) := by decide +kernel
theorem dX18_findPortals_37 : decode cX18_findPortals 37 = .ok (.istore_n 3, 1) := by decide +kernel
theorem dX18_findPortals_38 : decode cX18_findPortals 38 = .ok (.iconst 1, 1) := by decide +kernel
theorem dX18_findPortals_39 : decode cX18_findPortals 39 = .ok (.istore 4, 2) := by decide +kernel
theorem dX18_findPortals_41 : decode cX18_findPortals 41 = .ok (.iload_n 3, 1) := by decide +kernel
theorem dX18_findPortals_42 : decode cX18_findPortals 42 = .ok (.ifCond .lt 27, 3) := by decide +kernel
theorem dX18_findPortals_45 : decode cX18_findPortals 45 = .ok (.aload_n 0, 1) := by decide +kernel
theorem dX18_findPortals_46 : decode cX18_findPortals 46 = .ok (.iload_n 1, 1) := by decide +kernel
theorem dX18_findPortals_47 : decode cX18_findPortals 47 = .ok (.iload_n 2, 1) := by decide +kernel
theorem dX18_findPortals_48 : decode cX18_findPortals 48 = .ok (.iload_n 3, 1) := by decide +kernel
theorem dX18_findPortals_49 : decode cX18_findPortals 49 = .ok (.invokevirtual 334, 3) := by decide +kernel
theorem dX18_findPortals_52 : decode cX18_findPortals 52 = .ok (.aload_n 0, 1) := by decide +kernel
theorem dX18_findPortals_53 : decode cX18_findPortals 53 = .ok (.getfield 12, 3) := by decide +kernel
theorem dX18_findPortals_56 : decode cX18_findPortals 56 = .ok (.iload_n 1, 1) := by decide +kernel
theorem dX18_findPortals_57 : decode cX18_findPortals 57 = .ok (.iload 4, 2) := by decide +kernel
theorem dX18_findPortals_59 : decode cX18_findPortals 59 = .ok (.invokevirtual 331, 3) := by decide +kernel
theorem dX18_findPortals_62 : decode cX18_findPortals 62 = .ok (.istore_n 3, 1) := by decide +kernel
theorem dX18_findPortals_63 : decode cX18_findPortals 63 = .ok (.iinc 4 1, 3) := by decide +kernel
theorem dX18_findPortals_66 : decode cX18_findPortals 66 = .ok (.goto (-25), 3) := by decide +kernel
theorem dX18_findPortals_69 : decode cX18_findPortals 69 = .ok (.iinc 2 1, 3) := by decide +kernel
theorem dX18_findPortals_72 : decode cX18_findPortals 72 = .ok (.goto (-57), 3) := by decide +kernel
theorem dX18_findPortals_75 : decode cX18_findPortals 75 = .ok (.iinc 1 1, 3) := by decide +kernel
theorem dX18_findPortals_78 : decode cX18_findPortals 78 = .ok (.goto (-76), 3) := by decide +kernel
theorem dX18_findPortals_81 : decode cX18_findPortals 81 = .ok (.return_, 1) := by decide +kernel
theorem dX18_isOutside_0 : decode cX18_isOutside 0 = .ok (.iload_n 1, 1) := by decide +kernel
theorem dX18_isOutside_1 : decode cX18_isOutside 1 = .ok (.iload_n 2, 1) := by decide +kernel
theorem dX18_isOutside_2 : decode cX18_isOutside 2 = .ok (.invokestatic 266, 3) := by decide +kernel
theorem dX18_isOutside_5 : decode cX18_isOutside 5 = .ok (.ifCond .eq 17, 3) := by decide +kernel
theorem dX18_isOutside_22 : decode cX18_isOutside 22 = .ok (.iconst 1, 1) := by decide +kernel
theorem dX18_isOutside_23 : decode cX18_isOutside 23 = .ok (.goto 4, 3) := by decide +kernel
theorem dX18_isOutside_27 : decode cX18_isOutside 27 = .ok (.ireturn, 1) := by decide +kernel
theorem dX18_isOutside_8 : decode cX18_isOutside 8 = .ok (.aload_n 0, 1) := by decide +kernel
theorem dX18_isOutside_9 : decode cX18_isOutside 9 = .ok (.getfield 175, 3) := by decide +kernel
theorem dX18_isOutside_12 : decode cX18_isOutside 12 = .ok (.bipush 24, 2) := by decide +kernel
theorem dX18_isOutside_14 : decode cX18_isOutside 14 = .ok (.iload_n 2, 1) := by decide +kernel
theorem dX18_isOutside_15 : decode cX18_isOutside 15 = .ok (.imul, 1) := by decide +kernel
theorem dX18_isOutside_16 : decode cX18_isOutside 16 = .ok (.iload_n 1, 1) := by decide +kernel
theorem dX18_isOutside_17 : decode cX18_isOutside 17 = .ok (.iadd, 1) := by decide +kernel
theorem dX18_isOutside_18 : decode cX18_isOutside 18 = .ok (.iaload, 1) := by decide +kernel
theorem dX18_isOutside_19 : decode cX18_isOutside 19 = .ok (.ifCond .ge 7, 3) := by decide +kernel
theorem dX18_isOutside_26 : decode cX18_isOutside 26 = .ok (.iconst 0, 1) := by decide +kernel
theorem dX18_nextX_0 : decode cX18_nextX 0 = .ok (.iload_n 0, 1) := by decide +kernel
theorem dX18_nextX_1 : decode cX18_nextX 1 = .ok (.iload_n 1, 1) := by decide +kernel
theorem dX18_nextX_2 : decode cX18_nextX 2 = .ok (.ifCond .ne 7, 3) := by decide +kernel
theorem dX18_nextX_9 : decode cX18_nextX 9 = .ok (.iload_n 1, 1) := by decide +kernel
theorem dX18_nextX_10 : decode cX18_nextX 10 = .ok (.iconst 1, 1) := by decide +kernel
theorem dX18_nextX_11 : decode cX18_nextX 11 = .ok (.if_icmp .ne 7, 3) := by decide +kernel
theorem dX18_nextX_18 : decode cX18_nextX 18 = .ok (.iconst 0, 1) := by decide +kernel
theorem dX18_nextX_19 : decode cX18_nextX 19 = .ok (.iadd, 1) := by decide +kernel
theorem dX18_nextX_20 : decode cX18_nextX 20 = .ok (.ireturn, 1) := by decide +kernel
theorem dX18_nextX_14 : decode cX18_nextX 14 = .ok (.iconst (-1), 1) := by decide +kernel
theorem dX18_nextX_15 : decode cX18_nextX 15 = .ok (.goto 4, 3) := by decide +kernel
theorem dX18_nextX_5 : decode cX18_nextX 5 = .ok (.iconst 1, 1) := by decide +kernel
theorem dX18_nextX_6 : decode cX18_nextX 6 = .ok (.goto 13, 3) := by decide +kernel
theorem zl_X17_95 : zm_L zk_E RX17 95 yX17_failure (.code yX17_failure cX17_failure 4 (some .int)) 1 ∧ Cond.instanceMethod yX17_failure ∈ zk_E.2.2.1 ∧ Cond.selects yX17_failure.cls yX17_failure yX17_failure ∈ zk_E.2.2.1 := ⟨⟨zk_b21 112 (by decide +kernel) rfl, zk_b1 17 (by decide +kernel) rfl, zk_b21 109 (by decide +kernel) rfl, by decide +kernel, by decide +kernel, by decide +kernel⟩, zk_b21 111 (by decide +kernel) rfl, zk_s18 (q := (yX17_failure, 19)) 10 (by decide +kernel)⟩
theorem zl_X17_105 : zm_L zk_E RX17 105 yX17_kept (.code yX17_kept cX17_kept 5 (some .int)) 3 ∧ Cond.instanceMethod yX17_kept ∈ zk_E.2.2.1 ∧ Cond.selects yX17_kept.cls yX17_kept yX17_kept ∈ zk_E.2.2.1 := ⟨⟨zk_b21 128 (by decide +kernel) rfl, zk_b1 17 (by decide +kernel) rfl, zk_b21 125 (by decide +kernel) rfl, by decide +kernel, by decide +kernel, by decide +kernel⟩, zk_b21 127 (by decide +kernel) rfl, zk_s18 (q := (yX17_kept, 19)) 14 (by decide +kernel)⟩
theorem zl_X17_102 : zm_L zk_E RX17 102 yX17_plain (.code yX17_plain cX17_plain 4 (some .int)) 3 ∧ Cond.instanceMethod yX17_plain ∈ zk_E.2.2.1 ∧ Cond.selects yX17_plain.cls yX17_plain yX17_plain ∈ zk_E.2.2.1 := ⟨⟨zk_b21 124 (by decide +kernel) rfl, zk_b1 17 (by decide +kernel) rfl, zk_b21 121 (by decide +kernel) rfl, by decide +kernel, by decide +kernel, by decide +kernel⟩, zk_b21 123 (by decide +kernel) rfl, zk_s18 (q := (yX17_plain, 19)) 13 (by decide +kernel)⟩
theorem zl_X17_98 : zm_L zk_E RX17 98 yX17_fails (.code yX17_fails cX17_fails 3 none) 2 ∧ Cond.instanceMethod yX17_fails ∈ zk_E.2.2.1 ∧ Cond.selects yX17_fails.cls yX17_fails yX17_fails ∈ zk_E.2.2.1 := ⟨⟨zk_b21 120 (by decide +kernel) rfl, zk_b1 17 (by decide +kernel) rfl, zk_b21 117 (by decide +kernel) rfl, by decide +kernel, by decide +kernel, by decide +kernel⟩, zk_b21 119 (by decide +kernel) rfl, zk_s18 (q := (yX17_fails, 19)) 12 (by decide +kernel)⟩
theorem zl_X17_108 : zm_F zk_E RX17 108 17 18 := ⟨RX17, TX17, 19, rfl, zk_i17, by decide, zk_b15 35 (by decide +kernel) rfl⟩
theorem zl_X17_112 : zm_L zk_E RX17 112 yX17_reckon (.code yX17_reckon cX17_reckon 6 none) 1 ∧ Cond.instanceMethod yX17_reckon ∈ zk_E.2.2.1 ∧ Cond.selects yX17_reckon.cls yX17_reckon yX17_reckon ∈ zk_E.2.2.1 := ⟨⟨zk_b21 108 (by decide +kernel) rfl, zk_b1 17 (by decide +kernel) rfl, zk_b21 105 (by decide +kernel) rfl, by decide +kernel, by decide +kernel, by decide +kernel⟩, zk_b21 107 (by decide +kernel) rfl, zk_s18 (q := (yX17_reckon, 19)) 9 (by decide +kernel)⟩
theorem zt_17_18 : zm_T zk_E RX17 17 18 .boolean false := ⟨RX17, TX17, 19, tyX17, rfl, tyX17_ok, nmX17, rfl, rfl, rfl⟩
theorem zl_X18_3 : Cond.methodLink RX18 3 Lib.objectInit ∈ zk_E.2.2.1 ∧ Cond.instanceMethod Lib.objectInit ∈ zk_E.2.2.1 ∧ Cond.code Lib.objectInit ⟨#[0xb1]⟩ 1 none ∈ zk_E.2.2.1 := ⟨zk_b13 67 (by decide +kernel) rfl, zk_b1 43 (by decide +kernel) rfl, zk_b1 44 (by decide +kernel) rfl⟩
theorem zl_X18_9 : zm_N zk_E RX18 9 16 zk_fs16 := ⟨RX16, TX16, 40, tyX16, rfl, zk_i16, tyX16_ok, zk_b13 68 (by decide +kernel) rfl, zk_b13 69 (by decide +kernel) rfl, zk_b1 14 (by decide +kernel) rfl, rfl⟩
theorem zl_X18_11 : zm_LN zk_E RX18 11 yX16_init (.code yX16_init cX16_init 1 none) 0 ∧ Cond.instanceMethod yX16_init ∈ zk_E.2.2.1 := ⟨⟨zk_b13 72 (by decide +kernel) rfl, zk_b1 14 (by decide +kernel) rfl, ⟨"TowerHouseModel", zk_n13 70 (by decide +kernel) rfl⟩, by decide +kernel, by decide +kernel, by decide +kernel⟩, zk_b13 71 (by decide +kernel) rfl⟩
theorem zl_X18_12 : zm_F zk_E RX18 12 18 3 := ⟨RX18, TX18, 60, rfl, zk_i18, by decide, zk_b16 30 (by decide +kernel) rfl⟩
theorem zt_18_3 : zm_T zk_E RX18 18 3 (.object "TowerHouseModel$Plan") true := ⟨RX18, TX18, 60, tyX18, rfl, tyX18_ok, nmX18, rfl, rfl, rfl⟩
theorem zl_X18_18 : zm_N zk_E RX18 18 15 zk_fs15 := ⟨RX15, TX15, 44, tyX15, rfl, zk_i15, tyX15_ok, zk_b13 204 (by decide +kernel) rfl, zk_b13 205 (by decide +kernel) rfl, zk_b1 15 (by decide +kernel) rfl, rfl⟩
theorem zl_X18_20 : zm_LN zk_E RX18 20 yX15_init (.code yX15_init cX15_init 1 none) 0 ∧ Cond.instanceMethod yX15_init ∈ zk_E.2.2.1 := ⟨⟨zk_b13 208 (by decide +kernel) rfl, zk_b1 15 (by decide +kernel) rfl, ⟨"TowerHouseModel", zk_n13 206 (by decide +kernel) rfl⟩, by decide +kernel, by decide +kernel, by decide +kernel⟩, zk_b13 207 (by decide +kernel) rfl⟩
theorem zl_X18_21 : zm_F zk_E RX18 21 18 4 := ⟨RX18, TX18, 60, rfl, zk_i18, by decide, zk_b16 31 (by decide +kernel) rfl⟩
theorem zt_18_4 : zm_T zk_E RX18 18 4 (.object "TowerHouseModel$Permits") true := ⟨RX18, TX18, 60, tyX18, rfl, tyX18_ok, nmX18, rfl, rfl, rfl⟩
theorem zl_X18_25 : zm_N zk_E RX18 25 14 zk_fs14 := ⟨RX14, TX14, 36, tyX14, rfl, zk_i14, tyX14_ok, zk_b14 108 (by decide +kernel) rfl, zk_b14 109 (by decide +kernel) rfl, zk_b1 16 (by decide +kernel) rfl, rfl⟩
theorem zl_X18_27 : zm_LN zk_E RX18 27 yX14_init (.code yX14_init cX14_init 1 none) 0 ∧ Cond.instanceMethod yX14_init ∈ zk_E.2.2.1 := ⟨⟨zk_b14 112 (by decide +kernel) rfl, zk_b1 16 (by decide +kernel) rfl, ⟨"TowerHouseModel", zk_n14 110 (by decide +kernel) rfl⟩, by decide +kernel, by decide +kernel, by decide +kernel⟩, zk_b14 111 (by decide +kernel) rfl⟩
theorem zl_X18_28 : zm_F zk_E RX18 28 18 5 := ⟨RX18, TX18, 60, rfl, zk_i18, by decide, zk_b16 32 (by decide +kernel) rfl⟩
theorem zt_18_5 : zm_T zk_E RX18 18 5 (.object "TowerHouseModel$Matrix") true := ⟨RX18, TX18, 60, tyX18, rfl, tyX18_ok, nmX18, rfl, rfl, rfl⟩
theorem zl_X18_32 : zm_N zk_E RX18 32 17 zk_fs17 := ⟨RX17, TX17, 19, tyX17, rfl, zk_i17, tyX17_ok, zk_b14 235 (by decide +kernel) rfl, zk_b14 236 (by decide +kernel) rfl, zk_b1 17 (by decide +kernel) rfl, rfl⟩
theorem zl_X18_34 : zm_LN zk_E RX18 34 yX17_init (.code yX17_init cX17_init 1 none) 0 ∧ Cond.instanceMethod yX17_init ∈ zk_E.2.2.1 := ⟨⟨zk_b14 239 (by decide +kernel) rfl, zk_b1 17 (by decide +kernel) rfl, ⟨"TowerHouseModel", zk_n14 237 (by decide +kernel) rfl⟩, by decide +kernel, by decide +kernel, by decide +kernel⟩, zk_b14 238 (by decide +kernel) rfl⟩
theorem zl_X18_35 : zm_F zk_E RX18 35 18 6 := ⟨RX18, TX18, 60, rfl, zk_i18, by decide, zk_b16 33 (by decide +kernel) rfl⟩
theorem zt_18_6 : zm_T zk_E RX18 18 6 (.object "TowerHouseModel$Program") true := ⟨RX18, TX18, 60, tyX18, rfl, tyX18_ok, nmX18, rfl, rfl, rfl⟩
theorem zl_X18_39 : zm_N zk_E RX18 39 12 zk_fs12 := ⟨RX12, TX12, 29, tyX12, rfl, zk_i12, tyX12_ok, zk_b15 75 (by decide +kernel) rfl, zk_b15 76 (by decide +kernel) rfl, zk_b1 18 (by decide +kernel) rfl, rfl⟩
theorem zl_X18_41 : zm_L zk_E RX18 41 yX12_init (.code yX12_init cX12_init 2 none) 0 ∧ Cond.instanceMethod yX12_init ∈ zk_E.2.2.1 := ⟨⟨zk_b15 79 (by decide +kernel) rfl, zk_b1 18 (by decide +kernel) rfl, zk_b15 77 (by decide +kernel) rfl, by decide +kernel, by decide +kernel, by decide +kernel⟩, zk_b15 78 (by decide +kernel) rfl⟩
theorem zl_X18_42 : zm_F zk_E RX18 42 18 7 := ⟨RX18, TX18, 60, rfl, zk_i18, by decide, zk_b16 34 (by decide +kernel) rfl⟩
theorem zt_18_7 : zm_T zk_E RX18 18 7 (.object "TowerHouseModel$Bus") true := ⟨RX18, TX18, 60, tyX18, rfl, tyX18_ok, nmX18, rfl, rfl, rfl⟩
theorem zl_X18_46 : zm_N zk_E RX18 46 13 zk_fs13 := ⟨RX13, TX13, 24, tyX13, rfl, zk_i13, tyX13_ok, zk_b15 179 (by decide +kernel) rfl, zk_b15 180 (by decide +kernel) rfl, zk_b1 19 (by decide +kernel) rfl, rfl⟩
theorem zl_X18_48 : zm_L zk_E RX18 48 yX13_init (.code yX13_init cX13_init 2 none) 0 ∧ Cond.instanceMethod yX13_init ∈ zk_E.2.2.1 := ⟨⟨zk_b15 183 (by decide +kernel) rfl, zk_b1 19 (by decide +kernel) rfl, zk_b15 181 (by decide +kernel) rfl, by decide +kernel, by decide +kernel, by decide +kernel⟩, zk_b15 182 (by decide +kernel) rfl⟩
theorem zl_X18_49 : zm_F zk_E RX18 49 18 8 := ⟨RX18, TX18, 60, rfl, zk_i18, by decide, zk_b16 35 (by decide +kernel) rfl⟩
theorem zt_18_8 : zm_T zk_E RX18 18 8 (.object "TowerHouseModel$Lifts") true := ⟨RX18, TX18, 60, tyX18, rfl, tyX18_ok, nmX18, rfl, rfl, rfl⟩
theorem zl_X18_53 : zm_F zk_E RX18 53 18 11 := ⟨RX18, TX18, 60, rfl, zk_i18, by decide, zk_b16 38 (by decide +kernel) rfl⟩
theorem zt_18_11 : zm_T zk_E RX18 18 11 (.array .int) true := ⟨RX18, TX18, 60, tyX18, rfl, tyX18_ok, nmX18, rfl, rfl, rfl⟩
theorem zl_X18_57 : zm_F zk_E RX18 57 18 12 := ⟨RX18, TX18, 60, rfl, zk_i18, by decide, zk_b16 39 (by decide +kernel) rfl⟩
theorem zt_18_12 : zm_T zk_E RX18 18 12 (.array .int) true := ⟨RX18, TX18, 60, tyX18, rfl, tyX18_ok, nmX18, rfl, rfl, rfl⟩
theorem zl_X18_60 : zm_F zk_E RX18 60 18 13 := ⟨RX18, TX18, 60, rfl, zk_i18, by decide, zk_b16 40 (by decide +kernel) rfl⟩
theorem zt_18_13 : zm_T zk_E RX18 18 13 (.array .int) true := ⟨RX18, TX18, 60, tyX18, rfl, tyX18_ok, nmX18, rfl, rfl, rfl⟩
theorem zl_X18_63 : zm_F zk_E RX18 63 18 14 := ⟨RX18, TX18, 60, rfl, zk_i18, by decide, zk_b16 41 (by decide +kernel) rfl⟩
theorem zt_18_14 : zm_T zk_E RX18 18 14 (.array .int) true := ⟨RX18, TX18, 60, tyX18, rfl, tyX18_ok, nmX18, rfl, rfl, rfl⟩
theorem zl_X18_66 : zm_F zk_E RX18 66 18 15 := ⟨RX18, TX18, 60, rfl, zk_i18, by decide, zk_b16 42 (by decide +kernel) rfl⟩
theorem zt_18_15 : zm_T zk_E RX18 18 15 (.array .int) true := ⟨RX18, TX18, 60, tyX18, rfl, tyX18_ok, nmX18, rfl, rfl, rfl⟩
theorem zl_X18_69 : zm_F zk_E RX18 69 18 16 := ⟨RX18, TX18, 60, rfl, zk_i18, by decide, zk_b16 43 (by decide +kernel) rfl⟩
theorem zt_18_16 : zm_T zk_E RX18 18 16 (.array .boolean) true := ⟨RX18, TX18, 60, tyX18, rfl, tyX18_ok, nmX18, rfl, rfl, rfl⟩
theorem zl_X18_73 : zm_F zk_E RX18 73 18 17 := ⟨RX18, TX18, 60, rfl, zk_i18, by decide, zk_b16 44 (by decide +kernel) rfl⟩
theorem zt_18_17 : zm_T zk_E RX18 18 17 (.array .boolean) true := ⟨RX18, TX18, 60, tyX18, rfl, tyX18_ok, nmX18, rfl, rfl, rfl⟩
theorem zl_X18_76 : zm_F zk_E RX18 76 18 18 := ⟨RX18, TX18, 60, rfl, zk_i18, by decide, zk_b16 45 (by decide +kernel) rfl⟩
theorem zt_18_18 : zm_T zk_E RX18 18 18 (.array .int) true := ⟨RX18, TX18, 60, tyX18, rfl, tyX18_ok, nmX18, rfl, rfl, rfl⟩
theorem zl_X18_79 : zm_F zk_E RX18 79 18 19 := ⟨RX18, TX18, 60, rfl, zk_i18, by decide, zk_b16 46 (by decide +kernel) rfl⟩
theorem zt_18_19 : zm_T zk_E RX18 18 19 (.array .int) true := ⟨RX18, TX18, 60, tyX18, rfl, tyX18_ok, nmX18, rfl, rfl, rfl⟩
theorem zl_X18_82 : zm_F zk_E RX18 82 18 20 := ⟨RX18, TX18, 60, rfl, zk_i18, by decide, zk_b16 47 (by decide +kernel) rfl⟩
theorem zt_18_20 : zm_T zk_E RX18 18 20 (.array .int) true := ⟨RX18, TX18, 60, tyX18, rfl, tyX18_ok, nmX18, rfl, rfl, rfl⟩
theorem zl_X18_85 : zm_F zk_E RX18 85 18 21 := ⟨RX18, TX18, 60, rfl, zk_i18, by decide, zk_b16 48 (by decide +kernel) rfl⟩
theorem zt_18_21 : zm_T zk_E RX18 18 21 (.array .int) true := ⟨RX18, TX18, 60, tyX18, rfl, tyX18_ok, nmX18, rfl, rfl, rfl⟩
theorem zl_X18_88 : zm_F zk_E RX18 88 18 22 := ⟨RX18, TX18, 60, rfl, zk_i18, by decide, zk_b16 49 (by decide +kernel) rfl⟩
theorem zt_18_22 : zm_T zk_E RX18 18 22 (.array .int) true := ⟨RX18, TX18, 60, tyX18, rfl, tyX18_ok, nmX18, rfl, rfl, rfl⟩
theorem zl_X18_91 : zm_F zk_E RX18 91 18 23 := ⟨RX18, TX18, 60, rfl, zk_i18, by decide, zk_b16 50 (by decide +kernel) rfl⟩
theorem zt_18_23 : zm_T zk_E RX18 18 23 (.array .int) true := ⟨RX18, TX18, 60, tyX18, rfl, tyX18_ok, nmX18, rfl, rfl, rfl⟩
theorem zl_X18_94 : zm_F zk_E RX18 94 18 25 := ⟨RX18, TX18, 60, rfl, zk_i18, by decide, zk_b16 52 (by decide +kernel) rfl⟩
theorem zt_18_25 : zm_T zk_E RX18 18 25 (.array .int) false := ⟨RX18, TX18, 60, tyX18, rfl, tyX18_ok, nmX18, rfl, rfl, rfl⟩
theorem zl_X18_97 : zm_F zk_E RX18 97 18 26 := ⟨RX18, TX18, 60, rfl, zk_i18, by decide, zk_b16 53 (by decide +kernel) rfl⟩
theorem zt_18_26 : zm_T zk_E RX18 18 26 (.array .int) false := ⟨RX18, TX18, 60, tyX18, rfl, tyX18_ok, nmX18, rfl, rfl, rfl⟩
theorem zl_X18_100 : zm_F zk_E RX18 100 18 28 := ⟨RX18, TX18, 60, rfl, zk_i18, by decide, zk_b16 55 (by decide +kernel) rfl⟩
theorem zt_18_28 : zm_T zk_E RX18 18 28 (.array .int) true := ⟨RX18, TX18, 60, tyX18, rfl, tyX18_ok, nmX18, rfl, rfl, rfl⟩
theorem zl_X18_103 : zm_F zk_E RX18 103 18 29 := ⟨RX18, TX18, 60, rfl, zk_i18, by decide, zk_b16 56 (by decide +kernel) rfl⟩
theorem zt_18_29 : zm_T zk_E RX18 18 29 (.array .int) true := ⟨RX18, TX18, 60, tyX18, rfl, tyX18_ok, nmX18, rfl, rfl, rfl⟩
theorem zl_X18_106 : zm_F zk_E RX18 106 18 30 := ⟨RX18, TX18, 60, rfl, zk_i18, by decide, zk_b16 57 (by decide +kernel) rfl⟩
theorem zt_18_30 : zm_T zk_E RX18 18 30 (.array .int) true := ⟨RX18, TX18, 60, tyX18, rfl, tyX18_ok, nmX18, rfl, rfl, rfl⟩
theorem zl_X18_109 : zm_F zk_E RX18 109 18 31 := ⟨RX18, TX18, 60, rfl, zk_i18, by decide, zk_b16 58 (by decide +kernel) rfl⟩
theorem zt_18_31 : zm_T zk_E RX18 18 31 (.array .int) true := ⟨RX18, TX18, 60, tyX18, rfl, tyX18_ok, nmX18, rfl, rfl, rfl⟩
theorem zl_X18_112 : zm_F zk_E RX18 112 18 32 := ⟨RX18, TX18, 60, rfl, zk_i18, by decide, zk_b16 59 (by decide +kernel) rfl⟩
theorem zt_18_32 : zm_T zk_E RX18 18 32 (.array .int) true := ⟨RX18, TX18, 60, tyX18, rfl, tyX18_ok, nmX18, rfl, rfl, rfl⟩
theorem zl_X18_115 : zm_F zk_E RX18 115 18 33 := ⟨RX18, TX18, 60, rfl, zk_i18, by decide, zk_b16 60 (by decide +kernel) rfl⟩
theorem zt_18_33 : zm_T zk_E RX18 18 33 (.array .int) true := ⟨RX18, TX18, 60, tyX18, rfl, tyX18_ok, nmX18, rfl, rfl, rfl⟩
theorem zl_X18_118 : zm_F zk_E RX18 118 18 34 := ⟨RX18, TX18, 60, rfl, zk_i18, by decide, zk_b16 61 (by decide +kernel) rfl⟩
theorem zt_18_34 : zm_T zk_E RX18 18 34 (.array .int) true := ⟨RX18, TX18, 60, tyX18, rfl, tyX18_ok, nmX18, rfl, rfl, rfl⟩
theorem zl_X18_121 : zm_F zk_E RX18 121 18 35 := ⟨RX18, TX18, 60, rfl, zk_i18, by decide, zk_b16 62 (by decide +kernel) rfl⟩
theorem zt_18_35 : zm_T zk_E RX18 18 35 (.array .int) true := ⟨RX18, TX18, 60, tyX18, rfl, tyX18_ok, nmX18, rfl, rfl, rfl⟩
theorem zl_X18_124 : zm_F zk_E RX18 124 18 37 := ⟨RX18, TX18, 60, rfl, zk_i18, by decide, zk_b16 64 (by decide +kernel) rfl⟩
theorem zt_18_37 : zm_T zk_E RX18 18 37 (.array .int) true := ⟨RX18, TX18, 60, tyX18, rfl, tyX18_ok, nmX18, rfl, rfl, rfl⟩
theorem zl_X18_127 : zm_F zk_E RX18 127 18 38 := ⟨RX18, TX18, 60, rfl, zk_i18, by decide, zk_b16 65 (by decide +kernel) rfl⟩
theorem zt_18_38 : zm_T zk_E RX18 18 38 (.array .int) true := ⟨RX18, TX18, 60, tyX18, rfl, tyX18_ok, nmX18, rfl, rfl, rfl⟩
theorem zl_X18_130 : zm_F zk_E RX18 130 18 40 := ⟨RX18, TX18, 60, rfl, zk_i18, by decide, zk_b16 67 (by decide +kernel) rfl⟩
theorem zt_18_40 : zm_T zk_E RX18 18 40 (.array .int) true := ⟨RX18, TX18, 60, tyX18, rfl, tyX18_ok, nmX18, rfl, rfl, rfl⟩
theorem zl_X18_133 : zm_F zk_E RX18 133 18 41 := ⟨RX18, TX18, 60, rfl, zk_i18, by decide, zk_b16 68 (by decide +kernel) rfl⟩
theorem zt_18_41 : zm_T zk_E RX18 18 41 (.array .int) true := ⟨RX18, TX18, 60, tyX18, rfl, tyX18_ok, nmX18, rfl, rfl, rfl⟩
theorem zl_X18_136 : zm_F zk_E RX18 136 18 42 := ⟨RX18, TX18, 60, rfl, zk_i18, by decide, zk_b16 69 (by decide +kernel) rfl⟩
theorem zt_18_42 : zm_T zk_E RX18 18 42 (.array .int) true := ⟨RX18, TX18, 60, tyX18, rfl, tyX18_ok, nmX18, rfl, rfl, rfl⟩
theorem zl_X18_139 : zm_F zk_E RX18 139 18 43 := ⟨RX18, TX18, 60, rfl, zk_i18, by decide, zk_b16 70 (by decide +kernel) rfl⟩
theorem zt_18_43 : zm_T zk_E RX18 18 43 (.array .int) true := ⟨RX18, TX18, 60, tyX18, rfl, tyX18_ok, nmX18, rfl, rfl, rfl⟩
theorem zl_X18_142 : zm_F zk_E RX18 142 18 44 := ⟨RX18, TX18, 60, rfl, zk_i18, by decide, zk_b16 71 (by decide +kernel) rfl⟩
theorem zt_18_44 : zm_T zk_E RX18 18 44 (.array .int) true := ⟨RX18, TX18, 60, tyX18, rfl, tyX18_ok, nmX18, rfl, rfl, rfl⟩
theorem zl_X18_145 : zm_F zk_E RX18 145 18 46 := ⟨RX18, TX18, 60, rfl, zk_i18, by decide, zk_b16 73 (by decide +kernel) rfl⟩
theorem zt_18_46 : zm_T zk_E RX18 18 46 (.array .int) false := ⟨RX18, TX18, 60, tyX18, rfl, tyX18_ok, nmX18, rfl, rfl, rfl⟩
theorem zl_X18_148 : zm_F zk_E RX18 148 18 47 := ⟨RX18, TX18, 60, rfl, zk_i18, by decide, zk_b16 74 (by decide +kernel) rfl⟩
theorem zt_18_47 : zm_T zk_E RX18 18 47 (.array .int) false := ⟨RX18, TX18, 60, tyX18, rfl, tyX18_ok, nmX18, rfl, rfl, rfl⟩
theorem zl_X18_151 : zm_F zk_E RX18 151 18 48 := ⟨RX18, TX18, 60, rfl, zk_i18, by decide, zk_b16 75 (by decide +kernel) rfl⟩
theorem zt_18_48 : zm_T zk_E RX18 18 48 (.array .int) false := ⟨RX18, TX18, 60, tyX18, rfl, tyX18_ok, nmX18, rfl, rfl, rfl⟩
theorem zl_X18_154 : zm_F zk_E RX18 154 18 50 := ⟨RX18, TX18, 60, rfl, zk_i18, by decide, zk_b16 77 (by decide +kernel) rfl⟩
theorem zt_18_50 : zm_T zk_E RX18 18 50 (.array .int) true := ⟨RX18, TX18, 60, tyX18, rfl, tyX18_ok, nmX18, rfl, rfl, rfl⟩
theorem zl_X18_157 : zm_F zk_E RX18 157 18 51 := ⟨RX18, TX18, 60, rfl, zk_i18, by decide, zk_b16 78 (by decide +kernel) rfl⟩
theorem zt_18_51 : zm_T zk_E RX18 18 51 (.array .int) true := ⟨RX18, TX18, 60, tyX18, rfl, tyX18_ok, nmX18, rfl, rfl, rfl⟩
theorem zl_X18_160 : zm_F zk_E RX18 160 18 52 := ⟨RX18, TX18, 60, rfl, zk_i18, by decide, zk_b16 79 (by decide +kernel) rfl⟩
theorem zt_18_52 : zm_T zk_E RX18 18 52 (.array .int) true := ⟨RX18, TX18, 60, tyX18, rfl, tyX18_ok, nmX18, rfl, rfl, rfl⟩
theorem zl_X18_163 : zm_F zk_E RX18 163 18 53 := ⟨RX18, TX18, 60, rfl, zk_i18, by decide, zk_b16 80 (by decide +kernel) rfl⟩
theorem zt_18_53 : zm_T zk_E RX18 18 53 (.array .int) true := ⟨RX18, TX18, 60, tyX18, rfl, tyX18_ok, nmX18, rfl, rfl, rfl⟩
theorem zl_X18_166 : zm_F zk_E RX18 166 18 54 := ⟨RX18, TX18, 60, rfl, zk_i18, by decide, zk_b16 81 (by decide +kernel) rfl⟩
theorem zt_18_54 : zm_T zk_E RX18 18 54 (.array .boolean) true := ⟨RX18, TX18, 60, tyX18, rfl, tyX18_ok, nmX18, rfl, rfl, rfl⟩
theorem zl_X18_169 : zm_F zk_E RX18 169 18 55 := ⟨RX18, TX18, 60, rfl, zk_i18, by decide, zk_b16 82 (by decide +kernel) rfl⟩
theorem zt_18_55 : zm_T zk_E RX18 18 55 (.array .boolean) true := ⟨RX18, TX18, 60, tyX18, rfl, tyX18_ok, nmX18, rfl, rfl, rfl⟩
theorem zl_X18_172 : zm_F zk_E RX18 172 18 56 := ⟨RX18, TX18, 60, rfl, zk_i18, by decide, zk_b16 83 (by decide +kernel) rfl⟩
theorem zt_18_56 : zm_T zk_E RX18 18 56 (.array .int) true := ⟨RX18, TX18, 60, tyX18, rfl, tyX18_ok, nmX18, rfl, rfl, rfl⟩
theorem zl_X18_175 : zm_F zk_E RX18 175 18 57 := ⟨RX18, TX18, 60, rfl, zk_i18, by decide, zk_b16 84 (by decide +kernel) rfl⟩
theorem zt_18_57 : zm_T zk_E RX18 18 57 (.array .int) true := ⟨RX18, TX18, 60, tyX18, rfl, tyX18_ok, nmX18, rfl, rfl, rfl⟩
theorem zl_X18_178 : zm_F zk_E RX18 178 18 58 := ⟨RX18, TX18, 60, rfl, zk_i18, by decide, zk_b16 85 (by decide +kernel) rfl⟩
theorem zt_18_58 : zm_T zk_E RX18 18 58 (.array .int) true := ⟨RX18, TX18, 60, tyX18, rfl, tyX18_ok, nmX18, rfl, rfl, rfl⟩
theorem zl_X18_181 : zm_F zk_E RX18 181 18 59 := ⟨RX18, TX18, 60, rfl, zk_i18, by decide, zk_b16 86 (by decide +kernel) rfl⟩
theorem zt_18_59 : zm_T zk_E RX18 18 59 (.array .boolean) true := ⟨RX18, TX18, 60, tyX18, rfl, tyX18_ok, nmX18, rfl, rfl, rfl⟩
theorem zl_X18_184 : zm_F zk_E RX18 184 18 0 := ⟨RX18, TX18, 60, rfl, zk_i18, by decide, zk_b16 27 (by decide +kernel) rfl⟩
theorem zt_18_0 : zm_T zk_E RX18 18 0 .int false := ⟨RX18, TX18, 60, tyX18, rfl, tyX18_ok, nmX18, rfl, rfl, rfl⟩
theorem zl_X18_188 : zm_L zk_E RX18 188 yX16_isIn (.code yX16_isIn cX16_isIn 1 (some .boolean)) 1 ∧ Cond.static yX16_isIn ∈ zk_E.2.2.1 := ⟨⟨zk_b16 218 (by decide +kernel) rfl, zk_b1 14 (by decide +kernel) rfl, zk_b16 216 (by decide +kernel) rfl, by decide +kernel, by decide +kernel, by decide +kernel⟩, zk_b16 217 (by decide +kernel) rfl⟩
theorem zl_X18_192 : zm_F zk_E RX18 192 18 1 := ⟨RX18, TX18, 60, rfl, zk_i18, by decide, zk_b16 28 (by decide +kernel) rfl⟩
theorem zl_X18_199 : zm_L zk_E RX18 199 yX18_goes (.code yX18_goes cX18_goes 3 (some .boolean)) 2 ∧ Cond.instanceMethod yX18_goes ∈ zk_E.2.2.1 ∧ Cond.selects yX18_goes.cls yX18_goes yX18_goes ∈ zk_E.2.2.1 := ⟨⟨zk_b16 222 (by decide +kernel) rfl, zk_b1 13 (by decide +kernel) rfl, zk_b16 219 (by decide +kernel) rfl, by decide +kernel, by decide +kernel, by decide +kernel⟩, zk_b16 221 (by decide +kernel) rfl, zk_s11 (q := (yX18_goes, 60)) 7 (by decide +kernel)⟩
theorem zl_X18_203 : zm_L zk_E RX18 203 yX16_line (.code yX16_line cX16_line 5 (some .int)) 4 ∧ Cond.instanceMethod yX16_line ∈ zk_E.2.2.1 ∧ Cond.selects yX16_line.cls yX16_line yX16_line ∈ zk_E.2.2.1 := ⟨⟨zk_b16 226 (by decide +kernel) rfl, zk_b1 14 (by decide +kernel) rfl, zk_b16 223 (by decide +kernel) rfl, by decide +kernel, by decide +kernel, by decide +kernel⟩, zk_b16 224 (by decide +kernel) rfl, zk_b16 225 (by decide +kernel) rfl⟩
theorem zl_X18_196 : zm_F zk_E RX18 196 16 0 := ⟨RX16, TX16, 40, rfl, zk_i16, by decide, zk_b13 75 (by decide +kernel) rfl⟩
theorem zl_X18_207 : zm_L zk_E RX18 207 yX18_isIn (.code yX18_isIn cX18_isIn 2 (some .boolean)) 2 ∧ Cond.static yX18_isIn ∈ zk_E.2.2.1 := ⟨⟨zk_b17 9 (by decide +kernel) rfl, zk_b1 13 (by decide +kernel) rfl, zk_b17 7 (by decide +kernel) rfl, by decide +kernel, by decide +kernel, by decide +kernel⟩, zk_b17 8 (by decide +kernel) rfl⟩
theorem zl_X18_214 : zm_L zk_E RX18 214 yX16_move (.code yX16_move cX16_move 5 (some .boolean)) 3 ∧ Cond.instanceMethod yX16_move ∈ zk_E.2.2.1 ∧ Cond.selects yX16_move.cls yX16_move yX16_move ∈ zk_E.2.2.1 := ⟨⟨zk_b17 18 (by decide +kernel) rfl, zk_b1 14 (by decide +kernel) rfl, zk_b17 15 (by decide +kernel) rfl, by decide +kernel, by decide +kernel, by decide +kernel⟩, zk_b17 16 (by decide +kernel) rfl, zk_b17 17 (by decide +kernel) rfl⟩
theorem zl_X18_210 : zm_L zk_E RX18 210 yX16_mayGo (.code yX16_mayGo cX16_mayGo 4 (some .boolean)) 3 ∧ Cond.instanceMethod yX16_mayGo ∈ zk_E.2.2.1 ∧ Cond.selects yX16_mayGo.cls yX16_mayGo yX16_mayGo ∈ zk_E.2.2.1 := ⟨⟨zk_b17 13 (by decide +kernel) rfl, zk_b1 14 (by decide +kernel) rfl, zk_b17 10 (by decide +kernel) rfl, by decide +kernel, by decide +kernel, by decide +kernel⟩, zk_b17 11 (by decide +kernel) rfl, zk_b17 12 (by decide +kernel) rfl⟩
theorem zl_X18_224 : zm_L zk_E RX18 224 yX16_door (.code yX16_door cX16_door 5 (some .int)) 4 ∧ Cond.instanceMethod yX16_door ∈ zk_E.2.2.1 ∧ Cond.selects yX16_door.cls yX16_door yX16_door ∈ zk_E.2.2.1 := ⟨⟨zk_b17 30 (by decide +kernel) rfl, zk_b1 14 (by decide +kernel) rfl, zk_b17 27 (by decide +kernel) rfl, by decide +kernel, by decide +kernel, by decide +kernel⟩, zk_b17 28 (by decide +kernel) rfl, zk_b17 29 (by decide +kernel) rfl⟩
theorem zl_X18_221 : zm_F zk_E RX18 221 16 5 := ⟨RX16, TX16, 40, rfl, zk_i16, by decide, zk_b13 81 (by decide +kernel) rfl⟩
theorem zl_X18_217 : zm_L zk_E RX18 217 yX16_lengthOf (.code yX16_lengthOf cX16_lengthOf 2 (some .int)) 1 ∧ Cond.instanceMethod yX16_lengthOf ∈ zk_E.2.2.1 ∧ Cond.selects yX16_lengthOf.cls yX16_lengthOf yX16_lengthOf ∈ zk_E.2.2.1 := ⟨⟨zk_b17 26 (by decide +kernel) rfl, zk_b1 14 (by decide +kernel) rfl, zk_b17 23 (by decide +kernel) rfl, by decide +kernel, by decide +kernel, by decide +kernel⟩, zk_b17 24 (by decide +kernel) rfl, zk_b17 25 (by decide +kernel) rfl⟩
theorem zl_X18_230 : zm_L zk_E RX18 230 yX18_stays (.code yX18_stays cX18_stays 2 (some .boolean)) 1 ∧ Cond.instanceMethod yX18_stays ∈ zk_E.2.2.1 ∧ Cond.selects yX18_stays.cls yX18_stays yX18_stays ∈ zk_E.2.2.1 := ⟨⟨zk_b17 38 (by decide +kernel) rfl, zk_b1 13 (by decide +kernel) rfl, zk_b17 35 (by decide +kernel) rfl, by decide +kernel, by decide +kernel, by decide +kernel⟩, zk_b17 37 (by decide +kernel) rfl, zk_s11 (q := (yX18_stays, 60)) 12 (by decide +kernel)⟩
theorem zl_X18_234 : zm_L zk_E RX18 234 yX16_run (.code yX16_run cX16_run 2 (some .int)) 0 ∧ Cond.instanceMethod yX16_run ∈ zk_E.2.2.1 ∧ Cond.selects yX16_run.cls yX16_run yX16_run ∈ zk_E.2.2.1 := ⟨⟨zk_b17 42 (by decide +kernel) rfl, zk_b1 14 (by decide +kernel) rfl, zk_b17 39 (by decide +kernel) rfl, by decide +kernel, by decide +kernel, by decide +kernel⟩, zk_b17 40 (by decide +kernel) rfl, zk_b17 41 (by decide +kernel) rfl⟩
theorem zl_X18_227 : zm_F zk_E RX18 227 16 11 := ⟨RX16, TX16, 40, rfl, zk_i16, by decide, zk_b13 89 (by decide +kernel) rfl⟩
theorem zl_X18_238 : zm_F zk_E RX18 238 16 10 := ⟨RX16, TX16, 40, rfl, zk_i16, by decide, zk_b13 88 (by decide +kernel) rfl⟩
theorem zl_X18_250 : zm_L zk_E RX18 250 yX16_outerSides (.code yX16_outerSides cX16_outerSides 3 (some .int)) 0 ∧ Cond.instanceMethod yX16_outerSides ∈ zk_E.2.2.1 ∧ Cond.selects yX16_outerSides.cls yX16_outerSides yX16_outerSides ∈ zk_E.2.2.1 := ⟨⟨zk_b17 131 (by decide +kernel) rfl, zk_b1 14 (by decide +kernel) rfl, zk_b17 128 (by decide +kernel) rfl, by decide +kernel, by decide +kernel, by decide +kernel⟩, zk_b17 129 (by decide +kernel) rfl, zk_b17 130 (by decide +kernel) rfl⟩
theorem zl_X18_247 : zm_F zk_E RX18 247 16 30 := ⟨RX16, TX16, 40, rfl, zk_i16, by decide, zk_b13 112 (by decide +kernel) rfl⟩
theorem zl_X18_244 : zm_F zk_E RX18 244 16 27 := ⟨RX16, TX16, 40, rfl, zk_i16, by decide, zk_b13 108 (by decide +kernel) rfl⟩
theorem zl_X18_241 : zm_F zk_E RX18 241 16 17 := ⟨RX16, TX16, 40, rfl, zk_i16, by decide, zk_b13 96 (by decide +kernel) rfl⟩
theorem zl_X18_253 : zm_L zk_E RX18 253 yX16_isSpace (.code yX16_isSpace cX16_isSpace 2 (some .boolean)) 1 ∧ Cond.instanceMethod yX16_isSpace ∈ zk_E.2.2.1 ∧ Cond.selects yX16_isSpace.cls yX16_isSpace yX16_isSpace ∈ zk_E.2.2.1 := ⟨⟨zk_b17 139 (by decide +kernel) rfl, zk_b1 14 (by decide +kernel) rfl, zk_b17 136 (by decide +kernel) rfl, by decide +kernel, by decide +kernel, by decide +kernel⟩, zk_b17 137 (by decide +kernel) rfl, zk_b17 138 (by decide +kernel) rfl⟩
theorem zl_X18_256 : zm_L zk_E RX18 256 yX16_sides (.code yX16_sides cX16_sides 4 (some .int)) 2 ∧ Cond.instanceMethod yX16_sides ∈ zk_E.2.2.1 ∧ Cond.selects yX16_sides.cls yX16_sides yX16_sides ∈ zk_E.2.2.1 := ⟨⟨zk_b17 143 (by decide +kernel) rfl, zk_b1 14 (by decide +kernel) rfl, zk_b17 140 (by decide +kernel) rfl, by decide +kernel, by decide +kernel, by decide +kernel⟩, zk_b17 141 (by decide +kernel) rfl, zk_b17 142 (by decide +kernel) rfl⟩
theorem zl_X18_260 : zm_L zk_E RX18 260 yX16_side (.code yX16_side cX16_side 7 (some .int)) 4 ∧ Cond.instanceMethod yX16_side ∈ zk_E.2.2.1 ∧ Cond.selects yX16_side.cls yX16_side yX16_side ∈ zk_E.2.2.1 := ⟨⟨zk_b17 156 (by decide +kernel) rfl, zk_b1 14 (by decide +kernel) rfl, zk_b17 153 (by decide +kernel) rfl, by decide +kernel, by decide +kernel, by decide +kernel⟩, zk_b17 154 (by decide +kernel) rfl, zk_b17 155 (by decide +kernel) rfl⟩
theorem zl_X18_263 : zm_L zk_E RX18 263 yX16_size (.code yX16_size cX16_size 6 (some .int)) 2 ∧ Cond.instanceMethod yX16_size ∈ zk_E.2.2.1 ∧ Cond.selects yX16_size.cls yX16_size yX16_size ∈ zk_E.2.2.1 := ⟨⟨zk_b17 168 (by decide +kernel) rfl, zk_b1 14 (by decide +kernel) rfl, zk_b17 165 (by decide +kernel) rfl, by decide +kernel, by decide +kernel, by decide +kernel⟩, zk_b17 166 (by decide +kernel) rfl, zk_b17 167 (by decide +kernel) rfl⟩
theorem zl_X18_266 : zm_L zk_E RX18 266 yX18_isCell (.code yX18_isCell cX18_isCell 2 (some .boolean)) 2 ∧ Cond.static yX18_isCell ∈ zk_E.2.2.1 := ⟨⟨zk_b17 183 (by decide +kernel) rfl, zk_b1 13 (by decide +kernel) rfl, zk_b17 181 (by decide +kernel) rfl, by decide +kernel, by decide +kernel, by decide +kernel⟩, zk_b17 182 (by decide +kernel) rfl⟩
theorem zl_X18_269 : zm_L zk_E RX18 269 yX16_at (.code yX16_at cX16_at 5 (some .int)) 2 ∧ Cond.instanceMethod yX16_at ∈ zk_E.2.2.1 ∧ Cond.selects yX16_at.cls yX16_at yX16_at ∈ zk_E.2.2.1 := ⟨⟨zk_b17 187 (by decide +kernel) rfl, zk_b1 14 (by decide +kernel) rfl, zk_b17 184 (by decide +kernel) rfl, by decide +kernel, by decide +kernel, by decide +kernel⟩, zk_b17 185 (by decide +kernel) rfl, zk_b17 186 (by decide +kernel) rfl⟩
theorem zl_X18_275 : zm_L zk_E RX18 275 yX16_between (.code yX16_between cX16_between 3 (some .int)) 2 ∧ Cond.instanceMethod yX16_between ∈ zk_E.2.2.1 ∧ Cond.selects yX16_between.cls yX16_between yX16_between ∈ zk_E.2.2.1 := ⟨⟨zk_b17 199 (by decide +kernel) rfl, zk_b1 14 (by decide +kernel) rfl, zk_b17 196 (by decide +kernel) rfl, by decide +kernel, by decide +kernel, by decide +kernel⟩, zk_b17 197 (by decide +kernel) rfl, zk_b17 198 (by decide +kernel) rfl⟩
theorem zl_X18_272 : zm_L zk_E RX18 272 yX16_isAny (.code yX16_isAny cX16_isAny 2 (some .boolean)) 1 ∧ Cond.instanceMethod yX16_isAny ∈ zk_E.2.2.1 ∧ Cond.selects yX16_isAny.cls yX16_isAny yX16_isAny ∈ zk_E.2.2.1 := ⟨⟨zk_b17 195 (by decide +kernel) rfl, zk_b1 14 (by decide +kernel) rfl, zk_b17 192 (by decide +kernel) rfl, by decide +kernel, by decide +kernel, by decide +kernel⟩, zk_b17 193 (by decide +kernel) rfl, zk_b17 194 (by decide +kernel) rfl⟩
theorem zl_X18_278 : zm_L zk_E RX18 278 yX16_way (.code yX16_way cX16_way 5 (some .int)) 2 ∧ Cond.instanceMethod yX16_way ∈ zk_E.2.2.1 ∧ Cond.selects yX16_way.cls yX16_way yX16_way ∈ zk_E.2.2.1 := ⟨⟨zk_b17 211 (by decide +kernel) rfl, zk_b1 14 (by decide +kernel) rfl, zk_b17 208 (by decide +kernel) rfl, by decide +kernel, by decide +kernel, by decide +kernel⟩, zk_b17 209 (by decide +kernel) rfl, zk_b17 210 (by decide +kernel) rfl⟩
theorem zl_X18_281 : zm_F zk_E RX18 281 16 25 := ⟨RX16, TX16, 40, rfl, zk_i16, by decide, zk_b13 106 (by decide +kernel) rfl⟩
theorem zl_X18_284 : zm_L zk_E RX18 284 yX15_characters (.code yX15_characters cX15_characters 5 (some .int)) 1 ∧ Cond.static yX15_characters ∈ zk_E.2.2.1 := ⟨⟨zk_b17 230 (by decide +kernel) rfl, zk_b1 15 (by decide +kernel) rfl, zk_b17 228 (by decide +kernel) rfl, by decide +kernel, by decide +kernel, by decide +kernel⟩, zk_b17 229 (by decide +kernel) rfl⟩
theorem zl_X18_288 : zm_F zk_E RX18 288 15 1 := ⟨RX15, TX15, 44, rfl, zk_i15, by decide, zk_b13 212 (by decide +kernel) rfl⟩
theorem zl_X18_290 : zm_L zk_E RX18 290 yX15_say (.code yX15_say cX15_say 4 (some .int)) 1 ∧ Cond.instanceMethod yX15_say ∈ zk_E.2.2.1 ∧ Cond.selects yX15_say.cls yX15_say yX15_say ∈ zk_E.2.2.1 := ⟨⟨zk_b17 238 (by decide +kernel) rfl, zk_b1 15 (by decide +kernel) rfl, zk_b17 235 (by decide +kernel) rfl, by decide +kernel, by decide +kernel, by decide +kernel⟩, zk_b17 236 (by decide +kernel) rfl, zk_b17 237 (by decide +kernel) rfl⟩
theorem zl_X18_293 : zm_L zk_E RX18 293 yX15_read (.code yX15_read cX15_read 1 (some .int)) 0 ∧ Cond.instanceMethod yX15_read ∈ zk_E.2.2.1 ∧ Cond.selects yX15_read.cls yX15_read yX15_read ∈ zk_E.2.2.1 := ⟨⟨zk_b18 10 (by decide +kernel) rfl, zk_b1 15 (by decide +kernel) rfl, zk_b18 7 (by decide +kernel) rfl, by decide +kernel, by decide +kernel, by decide +kernel⟩, zk_b18 8 (by decide +kernel) rfl, zk_b18 9 (by decide +kernel) rfl⟩
theorem zl_X18_296 : zm_L zk_E RX18 296 yX15_factOf (.code yX15_factOf cX15_factOf 5 (some .int)) 1 ∧ Cond.instanceMethod yX15_factOf ∈ zk_E.2.2.1 ∧ Cond.selects yX15_factOf.cls yX15_factOf yX15_factOf ∈ zk_E.2.2.1 := ⟨⟨zk_b18 84 (by decide +kernel) rfl, zk_b1 15 (by decide +kernel) rfl, zk_b18 81 (by decide +kernel) rfl, by decide +kernel, by decide +kernel, by decide +kernel⟩, zk_b18 82 (by decide +kernel) rfl, zk_b18 83 (by decide +kernel) rfl⟩
theorem zl_X18_299 : zm_F zk_E RX18 299 15 2 := ⟨RX15, TX15, 44, rfl, zk_i15, by decide, zk_b13 214 (by decide +kernel) rfl⟩
theorem zl_X18_302 : zm_L zk_E RX18 302 yX15_isName (.code yX15_isName cX15_isName 6 (some .boolean)) 1 ∧ Cond.static yX15_isName ∈ zk_E.2.2.1 := ⟨⟨zk_b18 74 (by decide +kernel) rfl, zk_b1 15 (by decide +kernel) rfl, zk_b18 72 (by decide +kernel) rfl, by decide +kernel, by decide +kernel, by decide +kernel⟩, zk_b18 73 (by decide +kernel) rfl⟩
theorem zl_X18_308 : zm_L zk_E RX18 308 yX18_hasRoom (.code yX18_hasRoom cX18_hasRoom 3 (some .boolean)) 1 ∧ Cond.instanceMethod yX18_hasRoom ∈ zk_E.2.2.1 ∧ Cond.selects yX18_hasRoom.cls yX18_hasRoom yX18_hasRoom ∈ zk_E.2.2.1 := ⟨⟨zk_b18 80 (by decide +kernel) rfl, zk_b1 13 (by decide +kernel) rfl, zk_b18 77 (by decide +kernel) rfl, by decide +kernel, by decide +kernel, by decide +kernel⟩, zk_b18 79 (by decide +kernel) rfl, zk_s13 (q := (yX18_hasRoom, 60)) 15 (by decide +kernel)⟩
theorem zl_X18_311 : zm_L zk_E RX18 311 yX15_fact (.code yX15_fact cX15_fact 7 (some .long)) 2 ∧ Cond.instanceMethod yX15_fact ∈ zk_E.2.2.1 ∧ Cond.selects yX15_fact.cls yX15_fact yX15_fact ∈ zk_E.2.2.1 := ⟨⟨zk_b18 88 (by decide +kernel) rfl, zk_b1 15 (by decide +kernel) rfl, zk_b18 85 (by decide +kernel) rfl, by decide +kernel, by decide +kernel, by decide +kernel⟩, zk_b18 86 (by decide +kernel) rfl, zk_b18 87 (by decide +kernel) rfl⟩
theorem zl_X18_306 : Cond.constant RX18 306 (-1000000000 : Int32) ∈ zk_E.2.2.1 := zk_b18 75 (by decide +kernel) rfl
theorem zl_X18_307 : Cond.constant RX18 307 (1000000000 : Int32) ∈ zk_E.2.2.1 := zk_b18 76 (by decide +kernel) rfl
theorem zl_X18_315 : Cond.constant RX18 315 (1000000 : Int32) ∈ zk_E.2.2.1 := zk_b18 102 (by decide +kernel) rfl
theorem zl_X18_316 : zm_L zk_E RX18 316 yX18_isDay (.code yX18_isDay cX18_isDay 1 (some .boolean)) 1 ∧ Cond.static yX18_isDay ∈ zk_E.2.2.1 := ⟨⟨zk_b18 101 (by decide +kernel) rfl, zk_b1 13 (by decide +kernel) rfl, zk_b18 99 (by decide +kernel) rfl, by decide +kernel, by decide +kernel, by decide +kernel⟩, zk_b18 100 (by decide +kernel) rfl⟩
theorem zl_X18_319 : zm_L zk_E RX18 319 yX15_run (.code yX15_run cX15_run 4 (some .int)) 1 ∧ Cond.instanceMethod yX15_run ∈ zk_E.2.2.1 ∧ Cond.selects yX15_run.cls yX15_run yX15_run ∈ zk_E.2.2.1 := ⟨⟨zk_b18 106 (by decide +kernel) rfl, zk_b1 15 (by decide +kernel) rfl, zk_b18 103 (by decide +kernel) rfl, by decide +kernel, by decide +kernel, by decide +kernel⟩, zk_b18 104 (by decide +kernel) rfl, zk_b18 105 (by decide +kernel) rfl⟩
theorem zl_X18_321 : zm_F zk_E RX18 321 15 5 := ⟨RX15, TX15, 44, rfl, zk_i15, by decide, zk_b13 218 (by decide +kernel) rfl⟩
theorem zl_X18_324 : zm_F zk_E RX18 324 15 18 := ⟨RX15, TX15, 44, rfl, zk_i15, by decide, zk_b13 232 (by decide +kernel) rfl⟩
theorem zl_X18_327 : zm_L zk_E RX18 327 yX15_told (.code yX15_told cX15_told 3 (some .long)) 2 ∧ Cond.instanceMethod yX15_told ∈ zk_E.2.2.1 ∧ Cond.selects yX15_told.cls yX15_told yX15_told ∈ zk_E.2.2.1 := ⟨⟨zk_b18 147 (by decide +kernel) rfl, zk_b1 15 (by decide +kernel) rfl, zk_b18 144 (by decide +kernel) rfl, by decide +kernel, by decide +kernel, by decide +kernel⟩, zk_b18 145 (by decide +kernel) rfl, zk_b18 146 (by decide +kernel) rfl⟩
theorem zl_X18_338 : zm_F zk_E RX18 338 18 9 := ⟨RX18, TX18, 60, rfl, zk_i18, by decide, zk_b16 36 (by decide +kernel) rfl⟩
theorem zl_X18_341 : zm_L zk_E RX18 341 yX16_roomBeside (.code yX16_roomBeside cX16_roomBeside 3 (some .int)) 2 ∧ Cond.instanceMethod yX16_roomBeside ∈ zk_E.2.2.1 ∧ Cond.selects yX16_roomBeside.cls yX16_roomBeside yX16_roomBeside ∈ zk_E.2.2.1 := ⟨⟨zk_b18 167 (by decide +kernel) rfl, zk_b1 14 (by decide +kernel) rfl, zk_b18 164 (by decide +kernel) rfl, by decide +kernel, by decide +kernel, by decide +kernel⟩, zk_b18 165 (by decide +kernel) rfl, zk_b18 166 (by decide +kernel) rfl⟩
theorem zl_X18_345 : zm_L zk_E RX18 345 yX18_roomOf (.code yX18_roomOf cX18_roomOf 2 (some .int)) 1 ∧ Cond.instanceMethod yX18_roomOf ∈ zk_E.2.2.1 ∧ Cond.selects yX18_roomOf.cls yX18_roomOf yX18_roomOf ∈ zk_E.2.2.1 := ⟨⟨zk_b18 171 (by decide +kernel) rfl, zk_b1 13 (by decide +kernel) rfl, zk_b18 168 (by decide +kernel) rfl, by decide +kernel, by decide +kernel, by decide +kernel⟩, zk_b18 170 (by decide +kernel) rfl, zk_s14 (q := (yX18_roomOf, 60)) 10 (by decide +kernel)⟩
theorem zl_X18_348 : zm_L zk_E RX18 348 yX16_partFrom (.code yX16_partFrom cX16_partFrom 5 (some .int)) 2 ∧ Cond.instanceMethod yX16_partFrom ∈ zk_E.2.2.1 ∧ Cond.selects yX16_partFrom.cls yX16_partFrom yX16_partFrom ∈ zk_E.2.2.1 := ⟨⟨zk_b18 175 (by decide +kernel) rfl, zk_b1 14 (by decide +kernel) rfl, zk_b18 172 (by decide +kernel) rfl, by decide +kernel, by decide +kernel, by decide +kernel⟩, zk_b18 173 (by decide +kernel) rfl, zk_b18 174 (by decide +kernel) rfl⟩
theorem zl_X18_351 : zm_F zk_E RX18 351 18 10 := ⟨RX18, TX18, 60, rfl, zk_i18, by decide, zk_b16 37 (by decide +kernel) rfl⟩
theorem zl_X18_354 : Cond.constant RX18 354 (2147483647 : Int32) ∈ zk_E.2.2.1 := zk_b18 180 (by decide +kernel) rfl
theorem zt_18_10 : zm_T zk_E RX18 18 10 .int false := ⟨RX18, TX18, 60, tyX18, rfl, tyX18_ok, nmX18, rfl, rfl, rfl⟩
theorem zl_X18_331 : zm_L zk_E RX18 331 yX16_pieceOf (.code yX16_pieceOf cX16_pieceOf 5 (some .int)) 2 ∧ Cond.instanceMethod yX16_pieceOf ∈ zk_E.2.2.1 ∧ Cond.selects yX16_pieceOf.cls yX16_pieceOf yX16_pieceOf ∈ zk_E.2.2.1 := ⟨⟨zk_b18 159 (by decide +kernel) rfl, zk_b1 14 (by decide +kernel) rfl, zk_b18 156 (by decide +kernel) rfl, by decide +kernel, by decide +kernel, by decide +kernel⟩, zk_b18 157 (by decide +kernel) rfl, zk_b18 158 (by decide +kernel) rfl⟩
theorem zl_X18_334 : zm_L zk_E RX18 334 yX18_portal (.code yX18_portal cX18_portal 6 none) 3 ∧ Cond.instanceMethod yX18_portal ∈ zk_E.2.2.1 ∧ Cond.selects yX18_portal.cls yX18_portal yX18_portal ∈ zk_E.2.2.1 := ⟨⟨zk_b18 163 (by decide +kernel) rfl, zk_b1 13 (by decide +kernel) rfl, zk_b18 160 (by decide +kernel) rfl, by decide +kernel, by decide +kernel, by decide +kernel⟩, zk_b18 162 (by decide +kernel) rfl, zk_s14 (q := (yX18_portal, 60)) 9 (by decide +kernel)⟩
set_option maxHeartbeats 4000000 in
set_option maxRecDepth 100000 in
theorem zt_X17_reckon_J115 {p : Program} {l : Launch} {e : Env} {R : Room} {s : State} {m : MethodId} {args : Array Value} {below : List Frame} {meth : Method} {c : Code} {V : zm_V} {mc ms d rc rs : Nat} (hX : zm_X p R s m args meth c RX17 "reckon" cX17_reckon 6 zk_E V mc ms) (hr : meth.sig.returnType = none) (hR : R.frames = d ∧ R.locals = 64 * d) (hd : 3 ≤ d) {N : Nat} {a0 : Nat} {i1 : Int32} {out : (Unit × zm_S)} {S : zm_S} (h : zf_X17_reckon_J115 N a0 i1 S = some out) : zw p l e R s m args below meth c (vx_MQ below (zm_Qc zk_E V (zo_v out)) (zm_XC zk_E V zo_x) args s mc ms (fun q => V.2.2.2.1 ≤ q)) 6 zk_E V mc ms 115 [(0, .ref a0), (1, .int i1)] [] S rc rs := by
  unfold zf_X17_reckon_J115 at h
  refine zw_aload_n hX dX17_reckon_115 rfl ?_
  obtain ⟨b15, g, h⟩ := zb_some h
  refine zw_getr hX zl_X17_28 dX17_reckon_116 g ?_
  refine zw_iload_n hX dX17_reckon_119 rfl ?_
  refine zw_aload_n hX dX17_reckon_120 rfl ?_
  obtain ⟨b16, g, h⟩ := zb_some h
  refine zw_getr hX zl_X17_37 dX17_reckon_121 g ?_
  refine zw_iload_n hX dX17_reckon_124 rfl ?_
  obtain ⟨v17, g, h⟩ := zb_some h
  refine zw_xz hX dX17_reckon_125 g ?_
  refine zw_if_eq (tgt := 138) hX dX17_reckon_126 (by decide) (fun c126 => ?_) (fun c126 => ?_)
  · rw [if_pos c126] at h
    refine zw_aload_n hX dX17_reckon_138 rfl ?_
    obtain ⟨b18, g, h⟩ := zb_some h
    refine zw_getr hX zl_X17_28 dX17_reckon_139 g ?_
    refine zw_iload_n hX dX17_reckon_142 rfl ?_
    obtain ⟨v19, g, h⟩ := zb_some h
    refine zw_xi hX dX17_reckon_143 g ?_
    obtain ⟨S20, g, h⟩ := zb_some h
    refine zw_si hX dX17_reckon_144 g ?_
    obtain rfl := Option.some.inj h
    exact zw_vret hX hr dX17_reckon_145 ⟨rfl, rfl⟩
  · rw [if_neg c126] at h
    refine zw_aload_n hX dX17_reckon_129 rfl ?_
    obtain ⟨b21, g, h⟩ := zb_some h
    refine zw_getr hX zl_X17_41 dX17_reckon_130 g ?_
    refine zw_iload_n hX dX17_reckon_133 rfl ?_
    obtain ⟨v22, g, h⟩ := zb_some h
    refine zw_xi hX dX17_reckon_134 g ?_
    refine zw_goto (tgt := 144) hX dX17_reckon_135 (by decide) ?_
    obtain ⟨S23, g, h⟩ := zb_some h
    refine zw_si hX dX17_reckon_144 g ?_
    obtain rfl := Option.some.inj h
    exact zw_vret hX hr dX17_reckon_145 ⟨rfl, rfl⟩
set_option maxHeartbeats 4000000 in
set_option maxRecDepth 100000 in
theorem zt_X17_reckon_J114 {p : Program} {l : Launch} {e : Env} {R : Room} {s : State} {m : MethodId} {args : Array Value} {below : List Frame} {meth : Method} {c : Code} {V : zm_V} {mc ms d rc rs : Nat} (hX : zm_X p R s m args meth c RX17 "reckon" cX17_reckon 6 zk_E V mc ms) (hr : meth.sig.returnType = none) (hR : R.frames = d ∧ R.locals = 64 * d) (hd : 3 ≤ d) {N : Nat} {a0 : Nat} {i1 : Int32} {t0 : Nat} {t1 : Int32} {t2 : Int32} {out : (Unit × zm_S)} {S : zm_S} (h : zf_X17_reckon_J114 N a0 i1 t0 t1 t2 S = some out) : zw p l e R s m args below meth c (vx_MQ below (zm_Qc zk_E V (zo_v out)) (zm_XC zk_E V zo_x) args s mc ms (fun q => V.2.2.2.1 ≤ q)) 6 zk_E V mc ms 114 [(0, .ref a0), (1, .int i1)] [.int t2, .int t1, .ref t0] S rc rs := by
  unfold zf_X17_reckon_J114 at h
  obtain ⟨S14, g, h⟩ := zb_some h
  refine zw_si hX dX17_reckon_114 g ?_
  refine zw_sub (lv' := [(0, .ref a0), (1, .int i1)]) (List.forall_mem_cons.mpr ⟨rfl, (List.forall_mem_cons.mpr ⟨rfl, zs_nil⟩)⟩) ?_
  exact zt_X17_reckon_J115 hX hr hR hd h
set_option maxHeartbeats 4000000 in
set_option maxRecDepth 100000 in
theorem zt_X17_reckon_J75 {p : Program} {l : Launch} {e : Env} {R : Room} {s : State} {m : MethodId} {args : Array Value} {below : List Frame} {meth : Method} {c : Code} {V : zm_V} {mc ms d rc rs : Nat} (hX : zm_X p R s m args meth c RX17 "reckon" cX17_reckon 6 zk_E V mc ms) (hr : meth.sig.returnType = none) (hR : R.frames = d ∧ R.locals = 64 * d) (hd : 3 ≤ d) {N : Nat} {a0 : Nat} {i1 : Int32} {i4 : Int32} {t0 : Int32} {out : (Unit × zm_S)} {S : zm_S} (h : zf_X17_reckon_J75 N a0 i1 i4 t0 S = some out) : zw p l e R s m args below meth c (vx_MQ below (zm_Qc zk_E V (zo_v out)) (zm_XC zk_E V zo_x) args s mc ms (fun q => V.2.2.2.1 ≤ q)) 6 zk_E V mc ms 75 [(0, .ref a0), (1, .int i1), (4, .int i4)] [.int t0] S rc rs := by
  unfold zf_X17_reckon_J75 at h
  refine zw_istore hX dX17_reckon_75 (by decide) ?_
  refine zw_aload_n hX dX17_reckon_77 rfl ?_
  obtain ⟨b9, g, h⟩ := zb_some h
  refine zw_getr hX zl_X17_28 dX17_reckon_78 g ?_
  refine zw_iload_n hX dX17_reckon_81 rfl ?_
  refine zw_aload_n hX dX17_reckon_82 rfl ?_
  obtain ⟨b10, g, h⟩ := zb_some h
  refine zw_getr hX zl_X17_7 dX17_reckon_83 g ?_
  refine zw_iload_n hX dX17_reckon_86 rfl ?_
  obtain ⟨v11, g, h⟩ := zb_some h
  refine zw_xi hX dX17_reckon_87 g ?_
  refine zw_bipush (v := (16 : Int32)) hX dX17_reckon_88 (by decide) ?_
  refine zw_icmp_ge (tgt := 105) hX dX17_reckon_90 (by decide) (fun c90 => ?_) (fun c90 => ?_)
  · rw [if_pos c90] at h
    refine zw_aload_n hX dX17_reckon_105 rfl ?_
    refine zw_iload_n hX dX17_reckon_106 rfl ?_
    refine zw_iload hX dX17_reckon_107 rfl ?_
    refine zw_iload hX dX17_reckon_109 rfl ?_
    obtain ⟨_, gi, h⟩ := zb_some h
    obtain ⟨r13, g, h⟩ := zb_some h
    refine zc_Vi (as := [.int i1, .int i4, .int t0]) hX gi (zt_X17_kept (d := d - 1) (by omega) g) zl_X17_105 rfl dX17_reckon_111 ⟨rfl, rfl, Nat.le_of_ble_eq_true rfl⟩ ⟨by omega, by omega⟩ ?_
    refine zw_sub (lv' := [(0, .ref a0), (1, .int i1)]) (List.forall_mem_cons.mpr ⟨rfl, (List.forall_mem_cons.mpr ⟨rfl, zs_nil⟩)⟩) ?_
    exact zt_X17_reckon_J114 hX hr hR hd h
  · rw [if_neg c90] at h
    refine zw_aload_n hX dX17_reckon_93 rfl ?_
    refine zw_iload_n hX dX17_reckon_94 rfl ?_
    refine zw_iload hX dX17_reckon_95 rfl ?_
    refine zw_iload hX dX17_reckon_97 rfl ?_
    obtain ⟨_, gi, h⟩ := zb_some h
    obtain ⟨r25, g, h⟩ := zb_some h
    refine zc_Vi (as := [.int i1, .int i4, .int t0]) hX gi (zt_X17_plain (d := d - 1) (by omega) g) zl_X17_102 rfl dX17_reckon_99 ⟨rfl, rfl, Nat.le_of_ble_eq_true rfl⟩ ⟨by omega, by omega⟩ ?_
    refine zw_goto (tgt := 114) hX dX17_reckon_102 (by decide) ?_
    refine zw_sub (lv' := [(0, .ref a0), (1, .int i1)]) (List.forall_mem_cons.mpr ⟨rfl, (List.forall_mem_cons.mpr ⟨rfl, zs_nil⟩)⟩) ?_
    exact zt_X17_reckon_J114 hX hr hR hd h
set_option maxHeartbeats 4000000 in
set_option maxRecDepth 100000 in
theorem zt_X17_reckon_J58 {p : Program} {l : Launch} {e : Env} {R : Room} {s : State} {m : MethodId} {args : Array Value} {below : List Frame} {meth : Method} {c : Code} {V : zm_V} {mc ms d rc rs : Nat} (hX : zm_X p R s m args meth c RX17 "reckon" cX17_reckon 6 zk_E V mc ms) (hr : meth.sig.returnType = none) (hR : R.frames = d ∧ R.locals = 64 * d) (hd : 3 ≤ d) {N : Nat} {a0 : Nat} {i1 : Int32} {i3 : Int32} {t0 : Int32} {out : (Unit × zm_S)} {S : zm_S} (h : zf_X17_reckon_J58 N a0 i1 i3 t0 S = some out) : zw p l e R s m args below meth c (vx_MQ below (zm_Qc zk_E V (zo_v out)) (zm_XC zk_E V zo_x) args s mc ms (fun q => V.2.2.2.1 ≤ q)) 6 zk_E V mc ms 58 [(0, .ref a0), (1, .int i1), (3, .int i3)] [.int t0] S rc rs := by
  unfold zf_X17_reckon_J58 at h
  refine zw_istore hX dX17_reckon_58 (by decide) ?_
  refine zw_iload_n hX dX17_reckon_60 rfl ?_
  refine zw_iconst (v := (1 : Int32)) hX dX17_reckon_61 (by decide) ?_
  refine zw_icmp_le (tgt := 74) hX dX17_reckon_62 (by decide) (fun c62 => ?_) (fun c62 => ?_)
  · rw [if_pos c62] at h
    refine zw_iconst (v := (0 : Int32)) hX dX17_reckon_74 (by decide) ?_
    refine zw_sub (lv' := [(0, .ref a0), (1, .int i1), (4, .int t0)]) (List.forall_mem_cons.mpr ⟨rfl, (List.forall_mem_cons.mpr ⟨rfl, (List.forall_mem_cons.mpr ⟨rfl, zs_nil⟩)⟩)⟩) ?_
    exact zt_X17_reckon_J75 hX hr hR hd h
  · rw [if_neg c62] at h
    refine zw_aload_n hX dX17_reckon_65 rfl ?_
    refine zw_iload_n hX dX17_reckon_66 rfl ?_
    refine zw_iconst (v := (1 : Int32)) hX dX17_reckon_67 (by decide) ?_
    obtain ⟨_, gi, h⟩ := zb_some h
    obtain ⟨r27, g, h⟩ := zb_some h
    refine zc_Vi (as := [.int i1, .int (1 : Int32)]) hX gi (zt_X17_in (d := d - 1) (by omega) g) zl_X17_75 rfl dX17_reckon_68 ⟨rfl, rfl, Nat.le_of_ble_eq_true rfl⟩ ⟨by omega, by omega⟩ ?_
    refine zw_goto (tgt := 75) hX dX17_reckon_71 (by decide) ?_
    refine zw_sub (lv' := [(0, .ref a0), (1, .int i1), (4, .int t0)]) (List.forall_mem_cons.mpr ⟨rfl, (List.forall_mem_cons.mpr ⟨rfl, (List.forall_mem_cons.mpr ⟨rfl, zs_nil⟩)⟩)⟩) ?_
    exact zt_X17_reckon_J75 hX hr hR hd h
set_option maxHeartbeats 4000000 in
set_option maxRecDepth 100000 in
theorem zt_X17_reckon_J43 {p : Program} {l : Launch} {e : Env} {R : Room} {s : State} {m : MethodId} {args : Array Value} {below : List Frame} {meth : Method} {c : Code} {V : zm_V} {mc ms d rc rs : Nat} (hX : zm_X p R s m args meth c RX17 "reckon" cX17_reckon 6 zk_E V mc ms) (hr : meth.sig.returnType = none) (hR : R.frames = d ∧ R.locals = 64 * d) (hd : 3 ≤ d) {N : Nat} {a0 : Nat} {i1 : Int32} {t0 : Int32} {out : (Unit × zm_S)} {S : zm_S} (h : zf_X17_reckon_J43 N a0 i1 t0 S = some out) : zw p l e R s m args below meth c (vx_MQ below (zm_Qc zk_E V (zo_v out)) (zm_XC zk_E V zo_x) args s mc ms (fun q => V.2.2.2.1 ≤ q)) 6 zk_E V mc ms 43 [(0, .ref a0), (1, .int i1)] [.int t0] S rc rs := by
  unfold zf_X17_reckon_J43 at h
  refine zw_istore_n hX dX17_reckon_43 (by decide) ?_
  refine zw_iload_n hX dX17_reckon_44 rfl ?_
  refine zw_if_le (tgt := 57) hX dX17_reckon_45 (by decide) (fun c45 => ?_) (fun c45 => ?_)
  · rw [if_pos c45] at h
    refine zw_iconst (v := (0 : Int32)) hX dX17_reckon_57 (by decide) ?_
    refine zw_sub (lv' := [(0, .ref a0), (1, .int i1), (3, .int t0)]) (List.forall_mem_cons.mpr ⟨rfl, (List.forall_mem_cons.mpr ⟨rfl, (List.forall_mem_cons.mpr ⟨rfl, zs_nil⟩)⟩)⟩) ?_
    exact zt_X17_reckon_J58 hX hr hR hd h
  · rw [if_neg c45] at h
    refine zw_aload_n hX dX17_reckon_48 rfl ?_
    refine zw_iload_n hX dX17_reckon_49 rfl ?_
    refine zw_iconst (v := (0 : Int32)) hX dX17_reckon_50 (by decide) ?_
    obtain ⟨_, gi, h⟩ := zb_some h
    obtain ⟨r29, g, h⟩ := zb_some h
    refine zc_Vi (as := [.int i1, .int (0 : Int32)]) hX gi (zt_X17_in (d := d - 1) (by omega) g) zl_X17_75 rfl dX17_reckon_51 ⟨rfl, rfl, Nat.le_of_ble_eq_true rfl⟩ ⟨by omega, by omega⟩ ?_
    refine zw_goto (tgt := 58) hX dX17_reckon_54 (by decide) ?_
    refine zw_sub (lv' := [(0, .ref a0), (1, .int i1), (3, .int t0)]) (List.forall_mem_cons.mpr ⟨rfl, (List.forall_mem_cons.mpr ⟨rfl, (List.forall_mem_cons.mpr ⟨rfl, zs_nil⟩)⟩)⟩) ?_
    exact zt_X17_reckon_J58 hX hr hR hd h
set_option maxHeartbeats 4000000 in
set_option maxRecDepth 100000 in
theorem zt_X17_reckon {l : Launch} {V : zm_V} {N : Nat} {S : zm_S} {out : (Unit × zm_S)} {d : Nat} {a0 : Nat} {i1 : Int32} (hd : 3 ≤ d) (h : zf_X17_reckon N a0 i1 S = some out) : zm_Met l zk_E V yX17_reckon (.code yX17_reckon cX17_reckon 6 none) d [.ref a0, .int i1] S 0 0 (zo_v out) zo_x := by
  refine zm_of (by decide +kernel) (Nat.le_of_ble_eq_true rfl) ?_
  intro p e R s m args below meth c hRR hX hr hxt
  have hR : R.frames = d ∧ R.locals = 64 * d := by rw [hRR]; exact ⟨rfl, rfl⟩
  have hX : zm_X p R s m args meth c RX17 "reckon" cX17_reckon 6 zk_E V 0 0 := hX
  unfold zf_X17_reckon at h
  refine zw_sub (lv' := [(0, .ref a0), (1, .int i1)]) (List.forall_mem_cons.mpr ⟨rfl, (List.forall_mem_cons.mpr ⟨rfl, zs_nil⟩)⟩) ?_
  refine zw_aload_n hX dX17_reckon_0 rfl ?_
  refine zw_iload_n hX dX17_reckon_1 rfl ?_
  obtain ⟨_, gi, h⟩ := zb_some h
  obtain ⟨r2, g, h⟩ := zb_some h
  refine zc_Vi (as := [.int i1]) hX gi (zt_X17_failure (d := d - 1) (by omega) g) zl_X17_95 rfl dX17_reckon_2 ⟨rfl, rfl, Nat.le_of_ble_eq_true rfl⟩ ⟨by omega, by omega⟩ ?_
  refine zw_istore_n hX dX17_reckon_5 (by decide) ?_
  refine zw_iload_n hX dX17_reckon_6 rfl ?_
  refine zw_if_le (tgt := 19) hX dX17_reckon_7 (by decide) (fun c7 => ?_) (fun c7 => ?_)
  · rw [if_pos c7] at h
    refine zw_aload_n hX dX17_reckon_19 rfl ?_
    obtain ⟨b3, g, h⟩ := zb_some h
    refine zw_getr hX zl_X17_7 dX17_reckon_20 g ?_
    refine zw_iload_n hX dX17_reckon_23 rfl ?_
    obtain ⟨v4, g, h⟩ := zb_some h
    refine zw_xi hX dX17_reckon_24 g ?_
    refine zw_bipush (v := (16 : Int32)) hX dX17_reckon_25 (by decide) ?_
    refine zw_icmp_ne (tgt := 34) hX dX17_reckon_27 (by decide) (fun c27 => ?_) (fun c27 => ?_)
    · rw [if_neg c27] at h
      refine zw_aload_n hX dX17_reckon_34 rfl ?_
      obtain ⟨b5, g, h⟩ := zb_some h
      refine zw_getr hX zl_X17_7 dX17_reckon_35 g ?_
      refine zw_iload_n hX dX17_reckon_38 rfl ?_
      obtain ⟨v6, g, h⟩ := zb_some h
      refine zw_xi hX dX17_reckon_39 g ?_
      obtain ⟨r8, g, h⟩ := zb_some h
      refine zc_Si (as := [.int v6]) hX (zt_X17_inputs (d := d - 1) (by omega) g) zl_X17_59 dX17_reckon_40 ⟨rfl, rfl, Nat.le_of_ble_eq_true rfl⟩ ⟨by omega, by omega⟩ ?_
      refine zw_sub (lv' := [(0, .ref a0), (1, .int i1)]) (List.forall_mem_cons.mpr ⟨rfl, (List.forall_mem_cons.mpr ⟨rfl, zs_nil⟩)⟩) ?_
      exact zt_X17_reckon_J43 hX hr hR hd h
    · rw [if_pos c27] at h
      refine zw_iconst (v := (0 : Int32)) hX dX17_reckon_30 (by decide) ?_
      refine zw_goto (tgt := 43) hX dX17_reckon_31 (by decide) ?_
      refine zw_sub (lv' := [(0, .ref a0), (1, .int i1)]) (List.forall_mem_cons.mpr ⟨rfl, (List.forall_mem_cons.mpr ⟨rfl, zs_nil⟩)⟩) ?_
      exact zt_X17_reckon_J43 hX hr hR hd h
  · rw [if_neg c7] at h
    refine zw_aload_n hX dX17_reckon_10 rfl ?_
    refine zw_iload_n hX dX17_reckon_11 rfl ?_
    refine zw_iload_n hX dX17_reckon_12 rfl ?_
    obtain ⟨_, gi, h⟩ := zb_some h
    obtain ⟨r31, g, h⟩ := zb_some h
    refine zc_Vv (as := [.int i1, .int r2.1]) hX gi (zt_X17_fails (d := d - 1) (by omega) g) zl_X17_98 rfl dX17_reckon_13 ⟨rfl, rfl, Nat.le_of_ble_eq_true rfl⟩ ⟨by omega, by omega⟩ ?_
    refine zw_goto (tgt := 115) hX dX17_reckon_16 (by decide) ?_
    refine zw_sub (lv' := [(0, .ref a0), (1, .int i1)]) (List.forall_mem_cons.mpr ⟨rfl, (List.forall_mem_cons.mpr ⟨rfl, zs_nil⟩)⟩) ?_
    exact zt_X17_reckon_J115 hX hr hR hd h
set_option maxHeartbeats 4000000 in
set_option maxRecDepth 100000 in
theorem zt_X17_tick_L21 {p : Program} {l : Launch} {e : Env} {R : Room} {s : State} {m : MethodId} {args : Array Value} {below : List Frame} {meth : Method} {c : Code} {V : zm_V} {mc ms d rc rs : Nat} (hX : zm_X p R s m args meth c RX17 "tick" cX17_tick 2 zk_E V mc ms) (hr : meth.sig.returnType = none) (hR : R.frames = d ∧ R.locals = 64 * d) (hd : 4 ≤ d) {N : Nat} {res : (Unit × zm_S) ⊕ ((Unit) × zm_S)} {out : (Unit × zm_S)} (a0 : Nat) (hf : ∀ o, res = .inl o → o = out) (hk : ∀ (S' : zm_S), res = .inr ((), S') → zw p l e R s m args below meth c (vx_MQ below (zm_Qc zk_E V (zo_v out)) (zm_XC zk_E V zo_x) args s mc ms (fun q => V.2.2.2.1 ≤ q)) 2 zk_E V mc ms 45 [(0, .ref a0)] [] S' rc rs) : ∀ (n : Nat) (i1 : Int32) (S : zm_S), zf_X17_tick_L21 N n a0 i1 S = some res → zw p l e R s m args below meth c (vx_MQ below (zm_Qc zk_E V (zo_v out)) (zm_XC zk_E V zo_x) args s mc ms (fun q => V.2.2.2.1 ≤ q)) 2 zk_E V mc ms 21 [(0, .ref a0), (1, .int i1)] [] S rc rs := by
  intro n
  induction n with
  | zero => intro i1 S h; cases h
  | succ n ih =>
    intro i1 S h
    rw [zf_X17_tick_L21] at h
    refine zw_iload_n hX dX17_tick_21 rfl ?_
    refine zw_aload_n hX dX17_tick_22 rfl ?_
    obtain ⟨v5, g, h⟩ := zb_some h
    refine zw_geti hX zl_X17_63 dX17_tick_23 g ?_
    refine zw_icmp_ge (tgt := 45) hX dX17_tick_26 (by decide) (fun c26 => ?_) (fun c26 => ?_)
    · rw [if_pos c26] at h
      refine zw_sub (lv' := [(0, .ref a0)]) (List.forall_mem_cons.mpr ⟨rfl, zs_nil⟩) ?_
      exact hk  _ (Option.some.inj h).symm
    · rw [if_neg c26] at h
      refine zw_aload_n hX dX17_tick_29 rfl ?_
      refine zw_aload_n hX dX17_tick_30 rfl ?_
      obtain ⟨b6, g, h⟩ := zb_some h
      refine zw_getr hX zl_X17_50 dX17_tick_31 g ?_
      refine zw_iload_n hX dX17_tick_34 rfl ?_
      obtain ⟨v7, g, h⟩ := zb_some h
      refine zw_xi hX dX17_tick_35 g ?_
      obtain ⟨_, gi, h⟩ := zb_some h
      obtain ⟨r9, g, h⟩ := zb_some h
      refine zc_Vv (as := [.int v7]) hX gi (zt_X17_reckon (d := d - 1) (by omega) g) zl_X17_112 rfl dX17_tick_36 ⟨rfl, rfl, Nat.le_of_ble_eq_true rfl⟩ ⟨by omega, by omega⟩ ?_
      refine zw_iinc (v := (i1 + (1 : Int32))) hX dX17_tick_39 rfl rfl (by decide) ?_
      refine zw_goto (tgt := 21) hX dX17_tick_42 (by decide) ?_
      refine zw_sub (lv' := [(0, .ref a0), (1, .int (i1 + (1 : Int32)))]) (List.forall_mem_cons.mpr ⟨rfl, (List.forall_mem_cons.mpr ⟨rfl, zs_nil⟩)⟩) ?_
      exact ih _ _ h
set_option maxHeartbeats 4000000 in
set_option maxRecDepth 100000 in
theorem zt_X17_tick_J116 {p : Program} {l : Launch} {e : Env} {R : Room} {s : State} {m : MethodId} {args : Array Value} {below : List Frame} {meth : Method} {c : Code} {V : zm_V} {mc ms d rc rs : Nat} (hX : zm_X p R s m args meth c RX17 "tick" cX17_tick 2 zk_E V mc ms) (hr : meth.sig.returnType = none) (hR : R.frames = d ∧ R.locals = 64 * d) (hd : 4 ≤ d) {N : Nat} {k : Nat → Int32 → zm_S → Option ((Unit × zm_S) ⊕ ((Unit) × zm_S))} {a0 : Nat} {i1 : Int32} {res : (Unit × zm_S) ⊕ ((Unit) × zm_S)} {out : (Unit × zm_S)}   (hf : ∀ o, res = .inl o → o = out) (hk : ∀ (S' : zm_S), res = .inr ((), S') → zw p l e R s m args below meth c (vx_MQ below (zm_Qc zk_E V (zo_v out)) (zm_XC zk_E V zo_x) args s mc ms (fun q => V.2.2.2.1 ≤ q)) 2 zk_E V mc ms 145 [(0, .ref a0)] [] S' rc rs) (hrec : ∀ (i1' : Int32) (S : zm_S), k a0 i1' S = some res → zw p l e R s m args below meth c (vx_MQ below (zm_Qc zk_E V (zo_v out)) (zm_XC zk_E V zo_x) args s mc ms (fun q => V.2.2.2.1 ≤ q)) 2 zk_E V mc ms 47 [(0, .ref a0), (1, .int i1')] [] S rc rs) {S : zm_S} (h : zf_X17_tick_J116 N k a0 i1 S = some res) : zw p l e R s m args below meth c (vx_MQ below (zm_Qc zk_E V (zo_v out)) (zm_XC zk_E V zo_x) args s mc ms (fun q => V.2.2.2.1 ≤ q)) 2 zk_E V mc ms 116 [(0, .ref a0), (1, .int i1)] [] S rc rs := by
  unfold zf_X17_tick_J116 at h
  refine zw_aload_n hX dX17_tick_116 rfl ?_
  obtain ⟨b14, g, h⟩ := zb_some h
  refine zw_getr hX zl_X17_7 dX17_tick_117 g ?_
  refine zw_iload_n hX dX17_tick_120 rfl ?_
  obtain ⟨v15, g, h⟩ := zb_some h
  refine zw_xi hX dX17_tick_121 g ?_
  refine zw_bipush (v := (16 : Int32)) hX dX17_tick_122 (by decide) ?_
  refine zw_icmp_ne (tgt := 139) hX dX17_tick_124 (by decide) (fun c124 => ?_) (fun c124 => ?_)
  · rw [if_neg c124] at h
    refine zw_iinc (v := (i1 + (1 : Int32))) hX dX17_tick_139 rfl rfl (by decide) ?_
    refine zw_goto (tgt := 47) hX dX17_tick_142 (by decide) ?_
    refine zw_sub (lv' := [(0, .ref a0), (1, .int (i1 + (1 : Int32)))]) (List.forall_mem_cons.mpr ⟨rfl, (List.forall_mem_cons.mpr ⟨rfl, zs_nil⟩)⟩) ?_
    exact hrec _ _ h
  · rw [if_pos c124] at h
    refine zw_aload_n hX dX17_tick_127 rfl ?_
    obtain ⟨b16, g, h⟩ := zb_some h
    refine zw_getr hX zl_X17_31 dX17_tick_128 g ?_
    refine zw_iload_n hX dX17_tick_131 rfl ?_
    refine zw_aload_n hX dX17_tick_132 rfl ?_
    refine zw_iload_n hX dX17_tick_133 rfl ?_
    refine zw_iconst (v := (0 : Int32)) hX dX17_tick_134 (by decide) ?_
    obtain ⟨_, gi, h⟩ := zb_some h
    obtain ⟨r18, g, h⟩ := zb_some h
    refine zc_Vi (as := [.int i1, .int (0 : Int32)]) hX gi (zt_X17_in (d := d - 1) (by omega) g) zl_X17_75 rfl dX17_tick_135 ⟨rfl, rfl, Nat.le_of_ble_eq_true rfl⟩ ⟨by omega, by omega⟩ ?_
    obtain ⟨S19, g, h⟩ := zb_some h
    refine zw_si hX dX17_tick_138 g ?_
    refine zw_iinc (v := (i1 + (1 : Int32))) hX dX17_tick_139 rfl rfl (by decide) ?_
    refine zw_goto (tgt := 47) hX dX17_tick_142 (by decide) ?_
    refine zw_sub (lv' := [(0, .ref a0), (1, .int (i1 + (1 : Int32)))]) (List.forall_mem_cons.mpr ⟨rfl, (List.forall_mem_cons.mpr ⟨rfl, zs_nil⟩)⟩) ?_
    exact hrec _ _ h
set_option maxHeartbeats 4000000 in
set_option maxRecDepth 100000 in
theorem zt_X17_tick_J112 {p : Program} {l : Launch} {e : Env} {R : Room} {s : State} {m : MethodId} {args : Array Value} {below : List Frame} {meth : Method} {c : Code} {V : zm_V} {mc ms d rc rs : Nat} (hX : zm_X p R s m args meth c RX17 "tick" cX17_tick 2 zk_E V mc ms) (hr : meth.sig.returnType = none) (hR : R.frames = d ∧ R.locals = 64 * d) (hd : 4 ≤ d) {N : Nat} {k : Nat → Int32 → zm_S → Option ((Unit × zm_S) ⊕ ((Unit) × zm_S))} {a0 : Nat} {i1 : Int32} {t0 : Nat} {t1 : Int32} {t2 : Int32} {res : (Unit × zm_S) ⊕ ((Unit) × zm_S)} {out : (Unit × zm_S)}   (hf : ∀ o, res = .inl o → o = out) (hk : ∀ (S' : zm_S), res = .inr ((), S') → zw p l e R s m args below meth c (vx_MQ below (zm_Qc zk_E V (zo_v out)) (zm_XC zk_E V zo_x) args s mc ms (fun q => V.2.2.2.1 ≤ q)) 2 zk_E V mc ms 145 [(0, .ref a0)] [] S' rc rs) (hrec : ∀ (i1' : Int32) (S : zm_S), k a0 i1' S = some res → zw p l e R s m args below meth c (vx_MQ below (zm_Qc zk_E V (zo_v out)) (zm_XC zk_E V zo_x) args s mc ms (fun q => V.2.2.2.1 ≤ q)) 2 zk_E V mc ms 47 [(0, .ref a0), (1, .int i1')] [] S rc rs) {S : zm_S} (h : zf_X17_tick_J112 N k a0 i1 t0 t1 t2 S = some res) : zw p l e R s m args below meth c (vx_MQ below (zm_Qc zk_E V (zo_v out)) (zm_XC zk_E V zo_x) args s mc ms (fun q => V.2.2.2.1 ≤ q)) 2 zk_E V mc ms 112 [(0, .ref a0), (1, .int i1)] [.int t2, .int t1, .ref t0] S rc rs := by
  unfold zf_X17_tick_J112 at h
  obtain ⟨S29, g, h⟩ := zb_some h
  refine zw_si hX dX17_tick_112 g ?_
  refine zw_goto (tgt := 139) hX dX17_tick_113 (by decide) ?_
  refine zw_iinc (v := (i1 + (1 : Int32))) hX dX17_tick_139 rfl rfl (by decide) ?_
  refine zw_goto (tgt := 47) hX dX17_tick_142 (by decide) ?_
  refine zw_sub (lv' := [(0, .ref a0), (1, .int (i1 + (1 : Int32)))]) (List.forall_mem_cons.mpr ⟨rfl, (List.forall_mem_cons.mpr ⟨rfl, zs_nil⟩)⟩) ?_
  exact hrec _ _ h
set_option maxHeartbeats 4000000 in
set_option maxRecDepth 100000 in
theorem zt_X17_tick_L47 {p : Program} {l : Launch} {e : Env} {R : Room} {s : State} {m : MethodId} {args : Array Value} {below : List Frame} {meth : Method} {c : Code} {V : zm_V} {mc ms d rc rs : Nat} (hX : zm_X p R s m args meth c RX17 "tick" cX17_tick 2 zk_E V mc ms) (hr : meth.sig.returnType = none) (hR : R.frames = d ∧ R.locals = 64 * d) (hd : 4 ≤ d) {N : Nat} {res : (Unit × zm_S) ⊕ ((Unit) × zm_S)} {out : (Unit × zm_S)} (a0 : Nat) (hf : ∀ o, res = .inl o → o = out) (hk : ∀ (S' : zm_S), res = .inr ((), S') → zw p l e R s m args below meth c (vx_MQ below (zm_Qc zk_E V (zo_v out)) (zm_XC zk_E V zo_x) args s mc ms (fun q => V.2.2.2.1 ≤ q)) 2 zk_E V mc ms 145 [(0, .ref a0)] [] S' rc rs) : ∀ (n : Nat) (i1 : Int32) (S : zm_S), zf_X17_tick_L47 N n a0 i1 S = some res → zw p l e R s m args below meth c (vx_MQ below (zm_Qc zk_E V (zo_v out)) (zm_XC zk_E V zo_x) args s mc ms (fun q => V.2.2.2.1 ≤ q)) 2 zk_E V mc ms 47 [(0, .ref a0), (1, .int i1)] [] S rc rs := by
  intro n
  induction n with
  | zero => intro i1 S h; cases h
  | succ n ih =>
    intro i1 S h
    rw [zf_X17_tick_L47] at h
    refine zw_iload_n hX dX17_tick_47 rfl ?_
    refine zw_aload_n hX dX17_tick_48 rfl ?_
    obtain ⟨v11, g, h⟩ := zb_some h
    refine zw_geti hX zl_X17_63 dX17_tick_49 g ?_
    refine zw_icmp_ge (tgt := 145) hX dX17_tick_52 (by decide) (fun c52 => ?_) (fun c52 => ?_)
    · rw [if_pos c52] at h
      refine zw_sub (lv' := [(0, .ref a0)]) (List.forall_mem_cons.mpr ⟨rfl, zs_nil⟩) ?_
      exact hk  _ (Option.some.inj h).symm
    · rw [if_neg c52] at h
      refine zw_aload_n hX dX17_tick_55 rfl ?_
      obtain ⟨b12, g, h⟩ := zb_some h
      refine zw_getr hX zl_X17_7 dX17_tick_56 g ?_
      refine zw_iload_n hX dX17_tick_59 rfl ?_
      obtain ⟨v13, g, h⟩ := zb_some h
      refine zw_xi hX dX17_tick_60 g ?_
      refine zw_bipush (v := (16 : Int32)) hX dX17_tick_61 (by decide) ?_
      refine zw_icmp_ne (tgt := 116) hX dX17_tick_63 (by decide) (fun c63 => ?_) (fun c63 => ?_)
      · rw [if_neg c63] at h
        refine zw_sub (lv' := [(0, .ref a0), (1, .int i1)]) (List.forall_mem_cons.mpr ⟨rfl, (List.forall_mem_cons.mpr ⟨rfl, zs_nil⟩)⟩) ?_
        exact zt_X17_tick_J116 hX hr hR hd hf hk ih h
      · rw [if_pos c63] at h
        refine zw_aload_n hX dX17_tick_66 rfl ?_
        obtain ⟨b20, g, h⟩ := zb_some h
        refine zw_getr hX zl_X17_22 dX17_tick_67 g ?_
        refine zw_iconst (v := (3 : Int32)) hX dX17_tick_70 (by decide) ?_
        refine zw_iload_n hX dX17_tick_71 rfl ?_
        refine zw_imul hX dX17_tick_72 ?_
        obtain ⟨v21, g, h⟩ := zb_some h
        refine zw_xi hX dX17_tick_73 g ?_
        refine zw_if_ge (tgt := 116) hX dX17_tick_74 (by decide) (fun c74 => ?_) (fun c74 => ?_)
        · rw [if_pos c74] at h
          refine zw_sub (lv' := [(0, .ref a0), (1, .int i1)]) (List.forall_mem_cons.mpr ⟨rfl, (List.forall_mem_cons.mpr ⟨rfl, zs_nil⟩)⟩) ?_
          exact zt_X17_tick_J116 hX hr hR hd hf hk ih h
        · rw [if_neg c74] at h
          refine zw_aload_n hX dX17_tick_77 rfl ?_
          refine zw_iload_n hX dX17_tick_78 rfl ?_
          refine zw_iconst (v := (3 : Int32)) hX dX17_tick_79 (by decide) ?_
          obtain ⟨_, gi, h⟩ := zb_some h
          obtain ⟨r23, g, h⟩ := zb_some h
          refine zc_Vv (as := [.int i1, .int (3 : Int32)]) hX gi (zt_X17_fails (d := d - 1) (by omega) g) zl_X17_98 rfl dX17_tick_80 ⟨rfl, rfl, Nat.le_of_ble_eq_true rfl⟩ ⟨by omega, by omega⟩ ?_
          refine zw_aload_n hX dX17_tick_83 rfl ?_
          obtain ⟨b24, g, h⟩ := zb_some h
          refine zw_getr hX zl_X17_28 dX17_tick_84 g ?_
          refine zw_iload_n hX dX17_tick_87 rfl ?_
          refine zw_aload_n hX dX17_tick_88 rfl ?_
          obtain ⟨b25, g, h⟩ := zb_some h
          refine zw_getr hX zl_X17_37 dX17_tick_89 g ?_
          refine zw_iload_n hX dX17_tick_92 rfl ?_
          obtain ⟨v26, g, h⟩ := zb_some h
          refine zw_xz hX dX17_tick_93 g ?_
          refine zw_if_eq (tgt := 106) hX dX17_tick_94 (by decide) (fun c94 => ?_) (fun c94 => ?_)
          · rw [if_pos c94] at h
            refine zw_aload_n hX dX17_tick_106 rfl ?_
            obtain ⟨b27, g, h⟩ := zb_some h
            refine zw_getr hX zl_X17_28 dX17_tick_107 g ?_
            refine zw_iload_n hX dX17_tick_110 rfl ?_
            obtain ⟨v28, g, h⟩ := zb_some h
            refine zw_xi hX dX17_tick_111 g ?_
            refine zw_sub (lv' := [(0, .ref a0), (1, .int i1)]) (List.forall_mem_cons.mpr ⟨rfl, (List.forall_mem_cons.mpr ⟨rfl, zs_nil⟩)⟩) ?_
            exact zt_X17_tick_J112 hX hr hR hd hf hk ih h
          · rw [if_neg c94] at h
            refine zw_aload_n hX dX17_tick_97 rfl ?_
            obtain ⟨b30, g, h⟩ := zb_some h
            refine zw_getr hX zl_X17_41 dX17_tick_98 g ?_
            refine zw_iload_n hX dX17_tick_101 rfl ?_
            obtain ⟨v31, g, h⟩ := zb_some h
            refine zw_xi hX dX17_tick_102 g ?_
            refine zw_goto (tgt := 112) hX dX17_tick_103 (by decide) ?_
            refine zw_sub (lv' := [(0, .ref a0), (1, .int i1)]) (List.forall_mem_cons.mpr ⟨rfl, (List.forall_mem_cons.mpr ⟨rfl, zs_nil⟩)⟩) ?_
            exact zt_X17_tick_J112 hX hr hR hd hf hk ih h
set_option maxHeartbeats 4000000 in
set_option maxRecDepth 100000 in
theorem zt_X17_tick {l : Launch} {V : zm_V} {N : Nat} {S : zm_S} {out : (Unit × zm_S)} {d : Nat} {a0 : Nat} (hd : 4 ≤ d) (h : zf_X17_tick N a0 S = some out) : zm_Met l zk_E V yX17_tick (.code yX17_tick cX17_tick 2 none) d [.ref a0] S 0 0 (zo_v out) zo_x := by
  refine zm_of (by decide +kernel) (Nat.le_of_ble_eq_true rfl) ?_
  intro p e R s m args below meth c hRR hX hr hxt
  have hR : R.frames = d ∧ R.locals = 64 * d := by rw [hRR]; exact ⟨rfl, rfl⟩
  have hX : zm_X p R s m args meth c RX17 "tick" cX17_tick 2 zk_E V 0 0 := hX
  unfold zf_X17_tick at h
  refine zw_sub (lv' := [(0, .ref a0)]) (List.forall_mem_cons.mpr ⟨rfl, zs_nil⟩) ?_
  refine zw_aload_n hX dX17_tick_0 rfl ?_
  obtain ⟨_, gi, h⟩ := zb_some h
  obtain ⟨r2, g, h⟩ := zb_some h
  refine zc_Vi (as := []) hX gi (zt_X17_sort (d := d - 1) (by omega) g) zl_X17_71 rfl dX17_tick_1 ⟨rfl, rfl, Nat.le_of_ble_eq_true rfl⟩ ⟨by omega, by omega⟩ ?_
  refine zw_aload_n hX dX17_tick_4 rfl ?_
  obtain ⟨v3, g, h⟩ := zb_some h
  refine zw_geti hX zl_X17_63 dX17_tick_5 g ?_
  refine zw_icmp_lt (tgt := 18) hX dX17_tick_8 (by decide) (fun c8 => ?_) (fun c8 => ?_)
  · rw [if_pos c8] at h
    obtain rfl := Option.some.inj h
    exact zw_vret hX hr dX17_tick_18 ⟨rfl, rfl⟩
  · rw [if_neg c8] at h
    refine zw_aload_n hX dX17_tick_11 rfl ?_
    obtain ⟨v4, g, h⟩ := zb_some h
    refine zw_geti hX zl_X17_108 dX17_tick_12 g ?_
    refine zw_if_eq (tgt := 19) hX dX17_tick_15 (by decide) (fun c15 => ?_) (fun c15 => ?_)
    · rw [if_pos c15] at h
      refine zw_iconst (v := (0 : Int32)) hX dX17_tick_19 (by decide) ?_
      refine zw_istore_n hX dX17_tick_20 (by decide) ?_
      obtain ⟨r, g, h⟩ := zb_some h
      refine zw_sub (lv' := [(0, .ref a0), (1, .int (0 : Int32))]) (List.forall_mem_cons.mpr ⟨rfl, (List.forall_mem_cons.mpr ⟨rfl, zs_nil⟩)⟩) ?_
      refine zt_X17_tick_L21 hX hr hR hd (res := r) (out := out) a0 ?_ ?_ N _ _ g
      · intro o ho
        subst ho
        exact Option.some.inj h
      · intro  S10 hx
        subst hx
        try dsimp only at h
        refine zw_iconst (v := (0 : Int32)) hX dX17_tick_45 (by decide) ?_
        refine zw_istore_n hX dX17_tick_46 (by decide) ?_
        obtain ⟨r, g, h⟩ := zb_some h
        refine zw_sub (lv' := [(0, .ref a0), (1, .int (0 : Int32))]) (List.forall_mem_cons.mpr ⟨rfl, (List.forall_mem_cons.mpr ⟨rfl, zs_nil⟩)⟩) ?_
        refine zt_X17_tick_L47 hX hr hR hd (res := r) (out := out) a0 ?_ ?_ N _ _ g
        · intro o ho
          subst ho
          exact Option.some.inj h
        · intro  S32 hx
          subst hx
          try dsimp only at h
          refine zw_aload_n hX dX17_tick_145 rfl ?_
          refine zw_aload_n hX dX17_tick_146 rfl ?_
          obtain ⟨b33, g, h⟩ := zb_some h
          refine zw_getr hX zl_X17_56 dX17_tick_147 g ?_
          refine zw_iconst (v := (0 : Int32)) hX dX17_tick_150 (by decide) ?_
          obtain ⟨v34, g, h⟩ := zb_some h
          refine zw_xi hX dX17_tick_151 g ?_
          refine zw_sipush (v := (20000 : Int32)) hX dX17_tick_152 (by decide) ?_
          refine zw_icmp_lt (tgt := 162) hX dX17_tick_155 (by decide) (fun c155 => ?_) (fun c155 => ?_)
          · rw [if_pos c155] at h
            refine zw_iconst (v := (0 : Int32)) hX dX17_tick_162 (by decide) ?_
            obtain ⟨S35, g, h⟩ := zb_some h
            refine zw_putv hX zl_X17_108 zt_17_18 dX17_tick_163 rfl (by decide) g ?_
            obtain rfl := Option.some.inj h
            exact zw_vret hX hr dX17_tick_166 ⟨rfl, rfl⟩
          · rw [if_neg c155] at h
            refine zw_iconst (v := (1 : Int32)) hX dX17_tick_158 (by decide) ?_
            refine zw_goto (tgt := 163) hX dX17_tick_159 (by decide) ?_
            obtain ⟨S36, g, h⟩ := zb_some h
            refine zw_putv hX zl_X17_108 zt_17_18 dX17_tick_163 rfl (by decide) g ?_
            obtain rfl := Option.some.inj h
            exact zw_vret hX hr dX17_tick_166 ⟨rfl, rfl⟩
    · rw [if_neg c15] at h
      obtain rfl := Option.some.inj h
      exact zw_vret hX hr dX17_tick_18 ⟨rfl, rfl⟩
set_option maxHeartbeats 4000000 in
set_option maxRecDepth 100000 in
theorem zt_X18_init {l : Launch} {V : zm_V} {N : Nat} {S : zm_S} {out : (Unit × zm_S)} {d : Nat} {a0 : Nat} (hd : 3 ≤ d) (h : zf_X18_init N a0 S = some out) : zm_Met l zk_E V yX18_init (.code yX18_init cX18_init 1 none) d [.ref a0] S 175 544284 (zo_v out) zo_x := by
  refine zm_of (by decide +kernel) (Nat.le_of_ble_eq_true rfl) ?_
  intro p e R s m args below meth c hRR hX hr hxt
  have hR : R.frames = d ∧ R.locals = 64 * d := by rw [hRR]; exact ⟨rfl, rfl⟩
  have hX : zm_X p R s m args meth c RX18 "<init>" cX18_init 1 zk_E V 175 544284 := hX
  unfold zf_X18_init at h
  refine zw_sub (lv' := [(0, .ref a0)]) (List.forall_mem_cons.mpr ⟨rfl, zs_nil⟩) ?_
  refine zw_aload_n hX dX18_init_0 rfl ?_
  refine zw_objInit hX zl_X18_3.1 zl_X18_3.2.1 zl_X18_3.2.2 dX18_init_1 (by omega) (by show 0 + 12 ≤ R.locals; omega) ?_
  refine zw_aload_n hX dX18_init_4 rfl ?_
  obtain ⟨S1, g, h⟩ := zb_some h
  refine zw_newo (n := 40) hX zl_X18_9 rfl dX18_init_5 (by omega) (by omega) g ?_
  refine zw_dup hX dX18_init_8 rfl ?_
  obtain ⟨r4, g, h⟩ := zb_some h
  refine zw_callIN (as := []) hX zk_ok (zt_X16_init (d := d - 1) (by omega) g) zl_X18_11.1 zl_X18_11.2 rfl dX18_init_9 rfl rfl (Nat.le_of_ble_eq_true rfl) (by omega) (by omega) (by omega) (by omega) ?_ ?_
  · rintro _ _ ⟨rfl, rfl⟩
    obtain ⟨S5, g, h⟩ := zb_some h
    refine zw_putvF hX zl_X18_12 zt_18_3 dX18_init_12 rfl rfl g ?_
    refine zw_aload_n hX dX18_init_15 rfl ?_
    obtain ⟨S6, g, h⟩ := zb_some h
    refine zw_newo (n := 44) hX zl_X18_18 rfl dX18_init_16 (by omega) (by omega) g ?_
    refine zw_dup hX dX18_init_19 rfl ?_
    obtain ⟨r9, g, h⟩ := zb_some h
    refine zw_callIN (as := []) hX zk_ok (zt_X15_init (d := d - 1) (by omega) g) zl_X18_20.1 zl_X18_20.2 rfl dX18_init_20 rfl rfl (Nat.le_of_ble_eq_true rfl) (by omega) (by omega) (by omega) (by omega) ?_ ?_
    · rintro _ _ ⟨rfl, rfl⟩
      obtain ⟨S10, g, h⟩ := zb_some h
      refine zw_putvF hX zl_X18_21 zt_18_4 dX18_init_23 rfl rfl g ?_
      refine zw_aload_n hX dX18_init_26 rfl ?_
      obtain ⟨S11, g, h⟩ := zb_some h
      refine zw_newo (n := 36) hX zl_X18_25 rfl dX18_init_27 (by omega) (by omega) g ?_
      refine zw_dup hX dX18_init_30 rfl ?_
      obtain ⟨r14, g, h⟩ := zb_some h
      refine zw_callIN (as := []) hX zk_ok (zt_X14_init (d := d - 1) (by omega) g) zl_X18_27.1 zl_X18_27.2 rfl dX18_init_31 rfl rfl (Nat.le_of_ble_eq_true rfl) (by omega) (by omega) (by omega) (by omega) ?_ ?_
      · rintro _ _ ⟨rfl, rfl⟩
        obtain ⟨S15, g, h⟩ := zb_some h
        refine zw_putvF hX zl_X18_28 zt_18_5 dX18_init_34 rfl rfl g ?_
        refine zw_aload_n hX dX18_init_37 rfl ?_
        obtain ⟨S16, g, h⟩ := zb_some h
        refine zw_newo (n := 19) hX zl_X18_32 rfl dX18_init_38 (by omega) (by omega) g ?_
        refine zw_dup hX dX18_init_41 rfl ?_
        obtain ⟨r19, g, h⟩ := zb_some h
        refine zw_callIN (as := []) hX zk_ok (zt_X17_init (d := d - 1) (by omega) g) zl_X18_34.1 zl_X18_34.2 rfl dX18_init_42 rfl rfl (Nat.le_of_ble_eq_true rfl) (by omega) (by omega) (by omega) (by omega) ?_ ?_
        · rintro _ _ ⟨rfl, rfl⟩
          obtain ⟨S20, g, h⟩ := zb_some h
          refine zw_putvF hX zl_X18_35 zt_18_6 dX18_init_45 rfl rfl g ?_
          refine zw_aload_n hX dX18_init_48 rfl ?_
          obtain ⟨S21, g, h⟩ := zb_some h
          refine zw_newo (n := 29) hX zl_X18_39 rfl dX18_init_49 (by omega) (by omega) g ?_
          refine zw_dup hX dX18_init_52 rfl ?_
          obtain ⟨r24, g, h⟩ := zb_some h
          refine zw_callI (as := []) hX zk_ok (zt_X12_init (d := d - 1) (by omega) g) zl_X18_41.1 zl_X18_41.2 rfl dX18_init_53 rfl rfl (Nat.le_of_ble_eq_true rfl) (by omega) (by omega) (by omega) (by omega) ?_ ?_
          · rintro _ _ ⟨rfl, rfl⟩
            obtain ⟨S25, g, h⟩ := zb_some h
            refine zw_putvF hX zl_X18_42 zt_18_7 dX18_init_56 rfl rfl g ?_
            refine zw_aload_n hX dX18_init_59 rfl ?_
            obtain ⟨S26, g, h⟩ := zb_some h
            refine zw_newo (n := 24) hX zl_X18_46 rfl dX18_init_60 (by omega) (by omega) g ?_
            refine zw_dup hX dX18_init_63 rfl ?_
            obtain ⟨r29, g, h⟩ := zb_some h
            refine zw_callI (as := []) hX zk_ok (zt_X13_init (d := d - 1) (by omega) g) zl_X18_48.1 zl_X18_48.2 rfl dX18_init_64 rfl rfl (Nat.le_of_ble_eq_true rfl) (by omega) (by omega) (by omega) (by omega) ?_ ?_
            · rintro _ _ ⟨rfl, rfl⟩
              obtain ⟨S30, g, h⟩ := zb_some h
              refine zw_putvF hX zl_X18_49 zt_18_8 dX18_init_67 rfl rfl g ?_
              refine zw_aload_n hX dX18_init_70 rfl ?_
              refine zw_sipush (v := (1400 : Int32)) hX dX18_init_71 (by decide) ?_
              obtain ⟨S31, g, h⟩ := zb_some h
              refine zw_ni (b := 1400) hX zk_ai dX18_init_74 (by omega) (by omega) (by decide) g ?_
              obtain ⟨S32, g, h⟩ := zb_some h
              refine zw_putvF hX zl_X18_53 zt_18_11 dX18_init_76 rfl rfl g ?_
              refine zw_aload_n hX dX18_init_79 rfl ?_
              refine zw_sipush (v := (1400 : Int32)) hX dX18_init_80 (by decide) ?_
              obtain ⟨S33, g, h⟩ := zb_some h
              refine zw_ni (b := 1400) hX zk_ai dX18_init_83 (by omega) (by omega) (by decide) g ?_
              obtain ⟨S34, g, h⟩ := zb_some h
              refine zw_putvF hX zl_X18_57 zt_18_12 dX18_init_85 rfl rfl g ?_
              refine zw_aload_n hX dX18_init_88 rfl ?_
              refine zw_sipush (v := (1400 : Int32)) hX dX18_init_89 (by decide) ?_
              obtain ⟨S35, g, h⟩ := zb_some h
              refine zw_ni (b := 1400) hX zk_ai dX18_init_92 (by omega) (by omega) (by decide) g ?_
              obtain ⟨S36, g, h⟩ := zb_some h
              refine zw_putvF hX zl_X18_60 zt_18_13 dX18_init_94 rfl rfl g ?_
              refine zw_aload_n hX dX18_init_97 rfl ?_
              refine zw_sipush (v := (1400 : Int32)) hX dX18_init_98 (by decide) ?_
              obtain ⟨S37, g, h⟩ := zb_some h
              refine zw_ni (b := 1400) hX zk_ai dX18_init_101 (by omega) (by omega) (by decide) g ?_
              obtain ⟨S38, g, h⟩ := zb_some h
              refine zw_putvF hX zl_X18_63 zt_18_14 dX18_init_103 rfl rfl g ?_
              refine zw_aload_n hX dX18_init_106 rfl ?_
              refine zw_sipush (v := (1400 : Int32)) hX dX18_init_107 (by decide) ?_
              obtain ⟨S39, g, h⟩ := zb_some h
              refine zw_ni (b := 1400) hX zk_ai dX18_init_110 (by omega) (by omega) (by decide) g ?_
              obtain ⟨S40, g, h⟩ := zb_some h
              refine zw_putvF hX zl_X18_66 zt_18_15 dX18_init_112 rfl rfl g ?_
              refine zw_aload_n hX dX18_init_115 rfl ?_
              refine zw_sipush (v := (1400 : Int32)) hX dX18_init_116 (by decide) ?_
              obtain ⟨S41, g, h⟩ := zb_some h
              refine zw_nb (b := 1400) hX zk_ab dX18_init_119 (by omega) (by omega) (by decide) g ?_
              obtain ⟨S42, g, h⟩ := zb_some h
              refine zw_putvF hX zl_X18_69 zt_18_16 dX18_init_121 rfl rfl g ?_
              refine zw_aload_n hX dX18_init_124 rfl ?_
              refine zw_sipush (v := (1400 : Int32)) hX dX18_init_125 (by decide) ?_
              obtain ⟨S43, g, h⟩ := zb_some h
              refine zw_nb (b := 1400) hX zk_ab dX18_init_128 (by omega) (by omega) (by decide) g ?_
              obtain ⟨S44, g, h⟩ := zb_some h
              refine zw_putvF hX zl_X18_73 zt_18_17 dX18_init_130 rfl rfl g ?_
              refine zw_aload_n hX dX18_init_133 rfl ?_
              refine zw_sipush (v := (1400 : Int32)) hX dX18_init_134 (by decide) ?_
              obtain ⟨S45, g, h⟩ := zb_some h
              refine zw_ni (b := 1400) hX zk_ai dX18_init_137 (by omega) (by omega) (by decide) g ?_
              obtain ⟨S46, g, h⟩ := zb_some h
              refine zw_putvF hX zl_X18_76 zt_18_18 dX18_init_139 rfl rfl g ?_
              refine zw_aload_n hX dX18_init_142 rfl ?_
              refine zw_sipush (v := (1400 : Int32)) hX dX18_init_143 (by decide) ?_
              obtain ⟨S47, g, h⟩ := zb_some h
              refine zw_ni (b := 1400) hX zk_ai dX18_init_146 (by omega) (by omega) (by decide) g ?_
              obtain ⟨S48, g, h⟩ := zb_some h
              refine zw_putvF hX zl_X18_79 zt_18_19 dX18_init_148 rfl rfl g ?_
              refine zw_aload_n hX dX18_init_151 rfl ?_
              refine zw_sipush (v := (1400 : Int32)) hX dX18_init_152 (by decide) ?_
              obtain ⟨S49, g, h⟩ := zb_some h
              refine zw_ni (b := 1400) hX zk_ai dX18_init_155 (by omega) (by omega) (by decide) g ?_
              obtain ⟨S50, g, h⟩ := zb_some h
              refine zw_putvF hX zl_X18_82 zt_18_20 dX18_init_157 rfl rfl g ?_
              refine zw_aload_n hX dX18_init_160 rfl ?_
              refine zw_sipush (v := (28000 : Int32)) hX dX18_init_161 (by decide) ?_
              obtain ⟨S51, g, h⟩ := zb_some h
              refine zw_ni (b := 28000) hX zk_ai dX18_init_164 (by omega) (by omega) (by decide) g ?_
              obtain ⟨S52, g, h⟩ := zb_some h
              refine zw_putvF hX zl_X18_85 zt_18_21 dX18_init_166 rfl rfl g ?_
              refine zw_aload_n hX dX18_init_169 rfl ?_
              refine zw_sipush (v := (28000 : Int32)) hX dX18_init_170 (by decide) ?_
              obtain ⟨S53, g, h⟩ := zb_some h
              refine zw_ni (b := 28000) hX zk_ai dX18_init_173 (by omega) (by omega) (by decide) g ?_
              obtain ⟨S54, g, h⟩ := zb_some h
              refine zw_putvF hX zl_X18_88 zt_18_22 dX18_init_175 rfl rfl g ?_
              refine zw_aload_n hX dX18_init_178 rfl ?_
              refine zw_sipush (v := (28000 : Int32)) hX dX18_init_179 (by decide) ?_
              obtain ⟨S55, g, h⟩ := zb_some h
              refine zw_ni (b := 28000) hX zk_ai dX18_init_182 (by omega) (by omega) (by decide) g ?_
              obtain ⟨S56, g, h⟩ := zb_some h
              refine zw_putvF hX zl_X18_91 zt_18_23 dX18_init_184 rfl rfl g ?_
              refine zw_aload_n hX dX18_init_187 rfl ?_
              refine zw_sipush (v := (4100 : Int32)) hX dX18_init_188 (by decide) ?_
              obtain ⟨S57, g, h⟩ := zb_some h
              refine zw_ni (b := 4100) hX zk_ai dX18_init_191 (by omega) (by omega) (by decide) g ?_
              obtain ⟨S58, g, h⟩ := zb_some h
              refine zw_putv hX zl_X18_94 zt_18_25 dX18_init_193 rfl rfl g ?_
              refine zw_aload_n hX dX18_init_196 rfl ?_
              refine zw_sipush (v := (4100 : Int32)) hX dX18_init_197 (by decide) ?_
              obtain ⟨S59, g, h⟩ := zb_some h
              refine zw_ni (b := 4100) hX zk_ai dX18_init_200 (by omega) (by omega) (by decide) g ?_
              obtain ⟨S60, g, h⟩ := zb_some h
              refine zw_putv hX zl_X18_97 zt_18_26 dX18_init_202 rfl rfl g ?_
              refine zw_aload_n hX dX18_init_205 rfl ?_
              refine zw_bipush (v := (40 : Int32)) hX dX18_init_206 (by decide) ?_
              obtain ⟨S61, g, h⟩ := zb_some h
              refine zw_ni (b := 40) hX zk_ai dX18_init_208 (by omega) (by omega) (by decide) g ?_
              obtain ⟨S62, g, h⟩ := zb_some h
              refine zw_putvF hX zl_X18_100 zt_18_28 dX18_init_210 rfl rfl g ?_
              refine zw_aload_n hX dX18_init_213 rfl ?_
              refine zw_bipush (v := (40 : Int32)) hX dX18_init_214 (by decide) ?_
              obtain ⟨S63, g, h⟩ := zb_some h
              refine zw_ni (b := 40) hX zk_ai dX18_init_216 (by omega) (by omega) (by decide) g ?_
              obtain ⟨S64, g, h⟩ := zb_some h
              refine zw_putvF hX zl_X18_103 zt_18_29 dX18_init_218 rfl rfl g ?_
              refine zw_aload_n hX dX18_init_221 rfl ?_
              refine zw_bipush (v := (40 : Int32)) hX dX18_init_222 (by decide) ?_
              obtain ⟨S65, g, h⟩ := zb_some h
              refine zw_ni (b := 40) hX zk_ai dX18_init_224 (by omega) (by omega) (by decide) g ?_
              obtain ⟨S66, g, h⟩ := zb_some h
              refine zw_putvF hX zl_X18_106 zt_18_30 dX18_init_226 rfl rfl g ?_
              refine zw_aload_n hX dX18_init_229 rfl ?_
              refine zw_bipush (v := (40 : Int32)) hX dX18_init_230 (by decide) ?_
              obtain ⟨S67, g, h⟩ := zb_some h
              refine zw_ni (b := 40) hX zk_ai dX18_init_232 (by omega) (by omega) (by decide) g ?_
              obtain ⟨S68, g, h⟩ := zb_some h
              refine zw_putvF hX zl_X18_109 zt_18_31 dX18_init_234 rfl rfl g ?_
              refine zw_aload_n hX dX18_init_237 rfl ?_
              refine zw_bipush (v := (40 : Int32)) hX dX18_init_238 (by decide) ?_
              obtain ⟨S69, g, h⟩ := zb_some h
              refine zw_ni (b := 40) hX zk_ai dX18_init_240 (by omega) (by omega) (by decide) g ?_
              obtain ⟨S70, g, h⟩ := zb_some h
              refine zw_putvF hX zl_X18_112 zt_18_32 dX18_init_242 rfl rfl g ?_
              refine zw_aload_n hX dX18_init_245 rfl ?_
              refine zw_bipush (v := (40 : Int32)) hX dX18_init_246 (by decide) ?_
              obtain ⟨S71, g, h⟩ := zb_some h
              refine zw_ni (b := 40) hX zk_ai dX18_init_248 (by omega) (by omega) (by decide) g ?_
              obtain ⟨S72, g, h⟩ := zb_some h
              refine zw_putvF hX zl_X18_115 zt_18_33 dX18_init_250 rfl rfl g ?_
              refine zw_aload_n hX dX18_init_253 rfl ?_
              refine zw_bipush (v := (40 : Int32)) hX dX18_init_254 (by decide) ?_
              obtain ⟨S73, g, h⟩ := zb_some h
              refine zw_ni (b := 40) hX zk_ai dX18_init_256 (by omega) (by omega) (by decide) g ?_
              obtain ⟨S74, g, h⟩ := zb_some h
              refine zw_putvF hX zl_X18_118 zt_18_34 dX18_init_258 rfl rfl g ?_
              refine zw_aload_n hX dX18_init_261 rfl ?_
              refine zw_bipush (v := (40 : Int32)) hX dX18_init_262 (by decide) ?_
              obtain ⟨S75, g, h⟩ := zb_some h
              refine zw_ni (b := 40) hX zk_ai dX18_init_264 (by omega) (by omega) (by decide) g ?_
              obtain ⟨S76, g, h⟩ := zb_some h
              refine zw_putvF hX zl_X18_121 zt_18_35 dX18_init_266 rfl rfl g ?_
              refine zw_aload_n hX dX18_init_269 rfl ?_
              refine zw_bipush (v := (60 : Int32)) hX dX18_init_270 (by decide) ?_
              obtain ⟨S77, g, h⟩ := zb_some h
              refine zw_ni (b := 60) hX zk_ai dX18_init_272 (by omega) (by omega) (by decide) g ?_
              obtain ⟨S78, g, h⟩ := zb_some h
              refine zw_putvF hX zl_X18_124 zt_18_37 dX18_init_274 rfl rfl g ?_
              refine zw_aload_n hX dX18_init_277 rfl ?_
              refine zw_bipush (v := (60 : Int32)) hX dX18_init_278 (by decide) ?_
              obtain ⟨S79, g, h⟩ := zb_some h
              refine zw_ni (b := 60) hX zk_ai dX18_init_280 (by omega) (by omega) (by decide) g ?_
              obtain ⟨S80, g, h⟩ := zb_some h
              refine zw_putvF hX zl_X18_127 zt_18_38 dX18_init_282 rfl rfl g ?_
              refine zw_aload_n hX dX18_init_285 rfl ?_
              refine zw_bipush (v := (16 : Int32)) hX dX18_init_286 (by decide) ?_
              obtain ⟨S81, g, h⟩ := zb_some h
              refine zw_ni (b := 16) hX zk_ai dX18_init_288 (by omega) (by omega) (by decide) g ?_
              obtain ⟨S82, g, h⟩ := zb_some h
              refine zw_putvF hX zl_X18_130 zt_18_40 dX18_init_290 rfl rfl g ?_
              refine zw_aload_n hX dX18_init_293 rfl ?_
              refine zw_bipush (v := (16 : Int32)) hX dX18_init_294 (by decide) ?_
              obtain ⟨S83, g, h⟩ := zb_some h
              refine zw_ni (b := 16) hX zk_ai dX18_init_296 (by omega) (by omega) (by decide) g ?_
              obtain ⟨S84, g, h⟩ := zb_some h
              refine zw_putvF hX zl_X18_133 zt_18_41 dX18_init_298 rfl rfl g ?_
              refine zw_aload_n hX dX18_init_301 rfl ?_
              refine zw_bipush (v := (16 : Int32)) hX dX18_init_302 (by decide) ?_
              obtain ⟨S85, g, h⟩ := zb_some h
              refine zw_ni (b := 16) hX zk_ai dX18_init_304 (by omega) (by omega) (by decide) g ?_
              obtain ⟨S86, g, h⟩ := zb_some h
              refine zw_putvF hX zl_X18_136 zt_18_42 dX18_init_306 rfl rfl g ?_
              refine zw_aload_n hX dX18_init_309 rfl ?_
              refine zw_bipush (v := (16 : Int32)) hX dX18_init_310 (by decide) ?_
              obtain ⟨S87, g, h⟩ := zb_some h
              refine zw_ni (b := 16) hX zk_ai dX18_init_312 (by omega) (by omega) (by decide) g ?_
              obtain ⟨S88, g, h⟩ := zb_some h
              refine zw_putvF hX zl_X18_139 zt_18_43 dX18_init_314 rfl rfl g ?_
              refine zw_aload_n hX dX18_init_317 rfl ?_
              refine zw_bipush (v := (16 : Int32)) hX dX18_init_318 (by decide) ?_
              obtain ⟨S89, g, h⟩ := zb_some h
              refine zw_ni (b := 16) hX zk_ai dX18_init_320 (by omega) (by omega) (by decide) g ?_
              obtain ⟨S90, g, h⟩ := zb_some h
              refine zw_putvF hX zl_X18_142 zt_18_44 dX18_init_322 rfl rfl g ?_
              refine zw_aload_n hX dX18_init_325 rfl ?_
              refine zw_sipush (v := (4100 : Int32)) hX dX18_init_326 (by decide) ?_
              obtain ⟨S91, g, h⟩ := zb_some h
              refine zw_ni (b := 4100) hX zk_ai dX18_init_329 (by omega) (by omega) (by decide) g ?_
              obtain ⟨S92, g, h⟩ := zb_some h
              refine zw_putv hX zl_X18_145 zt_18_46 dX18_init_331 rfl rfl g ?_
              refine zw_aload_n hX dX18_init_334 rfl ?_
              refine zw_sipush (v := (4100 : Int32)) hX dX18_init_335 (by decide) ?_
              obtain ⟨S93, g, h⟩ := zb_some h
              refine zw_ni (b := 4100) hX zk_ai dX18_init_338 (by omega) (by omega) (by decide) g ?_
              obtain ⟨S94, g, h⟩ := zb_some h
              refine zw_putv hX zl_X18_148 zt_18_47 dX18_init_340 rfl rfl g ?_
              refine zw_aload_n hX dX18_init_343 rfl ?_
              refine zw_sipush (v := (4100 : Int32)) hX dX18_init_344 (by decide) ?_
              obtain ⟨S95, g, h⟩ := zb_some h
              refine zw_ni (b := 4100) hX zk_ai dX18_init_347 (by omega) (by omega) (by decide) g ?_
              obtain ⟨S96, g, h⟩ := zb_some h
              refine zw_putv hX zl_X18_151 zt_18_48 dX18_init_349 rfl rfl g ?_
              refine zw_aload_n hX dX18_init_352 rfl ?_
              refine zw_bipush (v := (100 : Int32)) hX dX18_init_353 (by decide) ?_
              obtain ⟨S97, g, h⟩ := zb_some h
              refine zw_ni (b := 100) hX zk_ai dX18_init_355 (by omega) (by omega) (by decide) g ?_
              obtain ⟨S98, g, h⟩ := zb_some h
              refine zw_putvF hX zl_X18_154 zt_18_50 dX18_init_357 rfl rfl g ?_
              refine zw_aload_n hX dX18_init_360 rfl ?_
              refine zw_bipush (v := (100 : Int32)) hX dX18_init_361 (by decide) ?_
              obtain ⟨S99, g, h⟩ := zb_some h
              refine zw_ni (b := 100) hX zk_ai dX18_init_363 (by omega) (by omega) (by decide) g ?_
              obtain ⟨S100, g, h⟩ := zb_some h
              refine zw_putvF hX zl_X18_157 zt_18_51 dX18_init_365 rfl rfl g ?_
              refine zw_aload_n hX dX18_init_368 rfl ?_
              refine zw_bipush (v := (100 : Int32)) hX dX18_init_369 (by decide) ?_
              obtain ⟨S101, g, h⟩ := zb_some h
              refine zw_ni (b := 100) hX zk_ai dX18_init_371 (by omega) (by omega) (by decide) g ?_
              obtain ⟨S102, g, h⟩ := zb_some h
              refine zw_putvF hX zl_X18_160 zt_18_52 dX18_init_373 rfl rfl g ?_
              refine zw_aload_n hX dX18_init_376 rfl ?_
              refine zw_bipush (v := (100 : Int32)) hX dX18_init_377 (by decide) ?_
              obtain ⟨S103, g, h⟩ := zb_some h
              refine zw_ni (b := 100) hX zk_ai dX18_init_379 (by omega) (by omega) (by decide) g ?_
              obtain ⟨S104, g, h⟩ := zb_some h
              refine zw_putvF hX zl_X18_163 zt_18_53 dX18_init_381 rfl rfl g ?_
              refine zw_aload_n hX dX18_init_384 rfl ?_
              refine zw_sipush (v := (576 : Int32)) hX dX18_init_385 (by decide) ?_
              obtain ⟨S105, g, h⟩ := zb_some h
              refine zw_nb (b := 576) hX zk_ab dX18_init_388 (by omega) (by omega) (by decide) g ?_
              obtain ⟨S106, g, h⟩ := zb_some h
              refine zw_putvF hX zl_X18_166 zt_18_54 dX18_init_390 rfl rfl g ?_
              refine zw_aload_n hX dX18_init_393 rfl ?_
              refine zw_sipush (v := (576 : Int32)) hX dX18_init_394 (by decide) ?_
              obtain ⟨S107, g, h⟩ := zb_some h
              refine zw_nb (b := 576) hX zk_ab dX18_init_397 (by omega) (by omega) (by decide) g ?_
              obtain ⟨S108, g, h⟩ := zb_some h
              refine zw_putvF hX zl_X18_169 zt_18_55 dX18_init_399 rfl rfl g ?_
              refine zw_aload_n hX dX18_init_402 rfl ?_
              refine zw_sipush (v := (576 : Int32)) hX dX18_init_403 (by decide) ?_
              obtain ⟨S109, g, h⟩ := zb_some h
              refine zw_ni (b := 576) hX zk_ai dX18_init_406 (by omega) (by omega) (by decide) g ?_
              obtain ⟨S110, g, h⟩ := zb_some h
              refine zw_putvF hX zl_X18_172 zt_18_56 dX18_init_408 rfl rfl g ?_
              refine zw_aload_n hX dX18_init_411 rfl ?_
              refine zw_sipush (v := (576 : Int32)) hX dX18_init_412 (by decide) ?_
              obtain ⟨S111, g, h⟩ := zb_some h
              refine zw_ni (b := 576) hX zk_ai dX18_init_415 (by omega) (by omega) (by decide) g ?_
              obtain ⟨S112, g, h⟩ := zb_some h
              refine zw_putvF hX zl_X18_175 zt_18_57 dX18_init_417 rfl rfl g ?_
              refine zw_aload_n hX dX18_init_420 rfl ?_
              refine zw_bipush (v := (120 : Int32)) hX dX18_init_421 (by decide) ?_
              obtain ⟨S113, g, h⟩ := zb_some h
              refine zw_ni (b := 120) hX zk_ai dX18_init_423 (by omega) (by omega) (by decide) g ?_
              obtain ⟨S114, g, h⟩ := zb_some h
              refine zw_putvF hX zl_X18_178 zt_18_58 dX18_init_425 rfl rfl g ?_
              refine zw_aload_n hX dX18_init_428 rfl ?_
              refine zw_bipush (v := (40 : Int32)) hX dX18_init_429 (by decide) ?_
              obtain ⟨S115, g, h⟩ := zb_some h
              refine zw_nb (b := 40) hX zk_ab dX18_init_431 (by omega) (by omega) (by decide) g ?_
              obtain ⟨S116, g, h⟩ := zb_some h
              refine zw_putvF hX zl_X18_181 zt_18_59 dX18_init_433 rfl rfl g ?_
              obtain rfl := Option.some.inj h
              exact zw_vret hX hr dX18_init_436 ⟨rfl, rfl⟩
            · intro _ _ hx
              exact hx.elim
          · intro _ _ hx
            exact hx.elim
        · intro _ _ hx
          exact hx.elim
      · intro _ _ hx
        exact hx.elim
    · intro _ _ hx
      exact hx.elim
  · intro _ _ hx
    exact hx.elim
set_option maxHeartbeats 4000000 in
set_option maxRecDepth 100000 in
theorem zt_X18_thrown {l : Launch} {V : zm_V} {N : Nat} {S : zm_S} {out : (Int32 × zm_S)} {d : Nat} {a0 : Nat} (hd : 1 ≤ d) (h : zf_X18_thrown N a0 S = some out) : zm_Met l zk_E V yX18_thrown (.code yX18_thrown cX18_thrown 1 (some .int)) d [.ref a0] S 0 0 (zo_i out) zo_x := by
  refine zm_of (by decide +kernel) (Nat.le_of_ble_eq_true rfl) ?_
  intro p e R s m args below meth c hRR hX hr hxt
  have hR : R.frames = d ∧ R.locals = 64 * d := by rw [hRR]; exact ⟨rfl, rfl⟩
  have hX : zm_X p R s m args meth c RX18 "thrown" cX18_thrown 1 zk_E V 0 0 := hX
  unfold zf_X18_thrown at h
  refine zw_sub (lv' := [(0, .ref a0)]) (List.forall_mem_cons.mpr ⟨rfl, zs_nil⟩) ?_
  refine zw_aload_n hX dX18_thrown_0 rfl ?_
  obtain ⟨v1, g, h⟩ := zb_some h
  refine zw_geti hX zl_X18_184 dX18_thrown_1 g ?_
  obtain rfl := Option.some.inj h
  exact zw_iret hX hr dX18_thrown_4 rfl ⟨rfl, rfl⟩
set_option maxHeartbeats 4000000 in
set_option maxRecDepth 100000 in
theorem zt_X18_goes_J18 {p : Program} {l : Launch} {e : Env} {R : Room} {s : State} {m : MethodId} {args : Array Value} {below : List Frame} {meth : Method} {c : Code} {V : zm_V} {mc ms d rc rs : Nat} (hX : zm_X p R s m args meth c RX18 "goes" cX18_goes 3 zk_E V mc ms) (hr : meth.sig.returnType = (some .boolean)) (hR : R.frames = d ∧ R.locals = 64 * d) (hd : 1 ≤ d) {N : Nat} {a0 : Nat} {t0 : Nat} {t1 : Int32} {out : (Int32 × zm_S)} {S : zm_S} (h : zf_X18_goes_J18 N a0 t0 t1 S = some out) : zw p l e R s m args below meth c (vx_MQ below (zm_Qc zk_E V (zo_i out)) (zm_XC zk_E V zo_x) args s mc ms (fun q => V.2.2.2.1 ≤ q)) 3 zk_E V mc ms 18 [(0, .ref a0)] [.int t1, .ref t0] S rc rs := by
  unfold zf_X18_goes_J18 at h
  obtain ⟨S1, g, h⟩ := zb_some h
  refine zw_putv hX zl_X18_184 zt_18_0 dX18_goes_18 rfl rfl g ?_
  refine zw_aload_n hX dX18_goes_21 rfl ?_
  obtain ⟨v2, g, h⟩ := zb_some h
  refine zw_geti hX zl_X18_184 dX18_goes_22 g ?_
  refine zw_if_ne (tgt := 32) hX dX18_goes_25 (by decide) (fun c25 => ?_) (fun c25 => ?_)
  · rw [if_neg c25] at h
    refine zw_iconst (v := (0 : Int32)) hX dX18_goes_32 (by decide) ?_
    obtain rfl := Option.some.inj h
    exact zw_iret hX hr dX18_goes_33 rfl ⟨rfl, rfl⟩
  · rw [if_pos c25] at h
    refine zw_iconst (v := (1 : Int32)) hX dX18_goes_28 (by decide) ?_
    refine zw_goto (tgt := 33) hX dX18_goes_29 (by decide) ?_
    obtain rfl := Option.some.inj h
    exact zw_iret hX hr dX18_goes_33 rfl ⟨rfl, rfl⟩
set_option maxHeartbeats 4000000 in
set_option maxRecDepth 100000 in
theorem zt_X18_goes {l : Launch} {V : zm_V} {N : Nat} {S : zm_S} {out : (Int32 × zm_S)} {d : Nat} {a0 : Nat} {i1 : Int32} {i2 : Int32} (hd : 1 ≤ d) (h : zf_X18_goes N a0 i1 i2 S = some out) : zm_Met l zk_E V yX18_goes (.code yX18_goes cX18_goes 3 (some .boolean)) d [.ref a0, .int i1, .int i2] S 0 0 (zo_i out) zo_x := by
  refine zm_of (by decide +kernel) (Nat.le_of_ble_eq_true rfl) ?_
  intro p e R s m args below meth c hRR hX hr hxt
  have hR : R.frames = d ∧ R.locals = 64 * d := by rw [hRR]; exact ⟨rfl, rfl⟩
  have hX : zm_X p R s m args meth c RX18 "goes" cX18_goes 3 zk_E V 0 0 := hX
  unfold zf_X18_goes at h
  refine zw_sub (lv' := [(0, .ref a0), (1, .int i1), (2, .int i2)]) (List.forall_mem_cons.mpr ⟨rfl, (List.forall_mem_cons.mpr ⟨rfl, (List.forall_mem_cons.mpr ⟨rfl, zs_nil⟩)⟩)⟩) ?_
  refine zw_aload_n hX dX18_goes_0 rfl ?_
  refine zw_iload_n hX dX18_goes_1 rfl ?_
  refine zw_if_ne (tgt := 9) hX dX18_goes_2 (by decide) (fun c2 => ?_) (fun c2 => ?_)
  · rw [if_neg c2] at h
    refine zw_iload_n hX dX18_goes_9 rfl ?_
    refine zw_if_ne (tgt := 17) hX dX18_goes_10 (by decide) (fun c10 => ?_) (fun c10 => ?_)
    · rw [if_neg c10] at h
      refine zw_iconst (v := (0 : Int32)) hX dX18_goes_17 (by decide) ?_
      refine zw_sub (lv' := [(0, .ref a0)]) (List.forall_mem_cons.mpr ⟨rfl, zs_nil⟩) ?_
      exact zt_X18_goes_J18 hX hr hR hd h
    · rw [if_pos c10] at h
      refine zw_iconst (v := (2 : Int32)) hX dX18_goes_13 (by decide) ?_
      refine zw_goto (tgt := 18) hX dX18_goes_14 (by decide) ?_
      refine zw_sub (lv' := [(0, .ref a0)]) (List.forall_mem_cons.mpr ⟨rfl, zs_nil⟩) ?_
      exact zt_X18_goes_J18 hX hr hR hd h
  · rw [if_pos c2] at h
    refine zw_iconst (v := (1 : Int32)) hX dX18_goes_5 (by decide) ?_
    refine zw_goto (tgt := 18) hX dX18_goes_6 (by decide) ?_
    refine zw_sub (lv' := [(0, .ref a0)]) (List.forall_mem_cons.mpr ⟨rfl, zs_nil⟩) ?_
    exact zt_X18_goes_J18 hX hr hR hd h
set_option maxHeartbeats 4000000 in
set_option maxRecDepth 100000 in
theorem zt_X18_stays {l : Launch} {V : zm_V} {N : Nat} {S : zm_S} {out : (Int32 × zm_S)} {d : Nat} {a0 : Nat} {i1 : Int32} (hd : 1 ≤ d) (h : zf_X18_stays N a0 i1 S = some out) : zm_Met l zk_E V yX18_stays (.code yX18_stays cX18_stays 2 (some .boolean)) d [.ref a0, .int i1] S 0 0 (zo_i out) zo_x := by
  refine zm_of (by decide +kernel) (Nat.le_of_ble_eq_true rfl) ?_
  intro p e R s m args below meth c hRR hX hr hxt
  have hR : R.frames = d ∧ R.locals = 64 * d := by rw [hRR]; exact ⟨rfl, rfl⟩
  have hX : zm_X p R s m args meth c RX18 "stays" cX18_stays 2 zk_E V 0 0 := hX
  unfold zf_X18_stays at h
  refine zw_sub (lv' := [(0, .ref a0), (1, .int i1)]) (List.forall_mem_cons.mpr ⟨rfl, (List.forall_mem_cons.mpr ⟨rfl, zs_nil⟩)⟩) ?_
  refine zw_aload_n hX dX18_stays_0 rfl ?_
  refine zw_iload_n hX dX18_stays_1 rfl ?_
  refine zw_if_eq (tgt := 9) hX dX18_stays_2 (by decide) (fun c2 => ?_) (fun c2 => ?_)
  · rw [if_pos c2] at h
    refine zw_iconst (v := (1 : Int32)) hX dX18_stays_9 (by decide) ?_
    obtain ⟨S1, g, h⟩ := zb_some h
    refine zw_putv hX zl_X18_184 zt_18_0 dX18_stays_10 rfl rfl g ?_
    refine zw_iload_n hX dX18_stays_13 rfl ?_
    by_cases cz : i1 = 0 ∨ i1 = 1
    · rw [if_pos cz] at h
      obtain rfl := Option.some.inj h
      exact zw_iret hX hr dX18_stays_14 (zn_z cz) ⟨rfl, rfl⟩
    · rw [if_neg cz] at h
      cases h
  · rw [if_neg c2] at h
    refine zw_iconst (v := (0 : Int32)) hX dX18_stays_5 (by decide) ?_
    refine zw_goto (tgt := 10) hX dX18_stays_6 (by decide) ?_
    obtain ⟨S2, g, h⟩ := zb_some h
    refine zw_putv hX zl_X18_184 zt_18_0 dX18_stays_10 rfl rfl g ?_
    refine zw_iload_n hX dX18_stays_13 rfl ?_
    by_cases cz : i1 = 0 ∨ i1 = 1
    · rw [if_pos cz] at h
      obtain rfl := Option.some.inj h
      exact zw_iret hX hr dX18_stays_14 (zn_z cz) ⟨rfl, rfl⟩
    · rw [if_neg cz] at h
      cases h
set_option maxHeartbeats 4000000 in
set_option maxRecDepth 100000 in
theorem zt_X18_isIn {l : Launch} {V : zm_V} {N : Nat} {S : zm_S} {out : (Int32 × zm_S)} {d : Nat} {i0 : Int32} {i1 : Int32} (hd : 1 ≤ d) (h : zf_X18_isIn N i0 i1 S = some out) : zm_Met l zk_E V yX18_isIn (.code yX18_isIn cX18_isIn 2 (some .boolean)) d [.int i0, .int i1] S 0 0 (zo_i out) zo_x := by
  refine zm_of (by decide +kernel) (Nat.le_of_ble_eq_true rfl) ?_
  intro p e R s m args below meth c hRR hX hr hxt
  have hR : R.frames = d ∧ R.locals = 64 * d := by rw [hRR]; exact ⟨rfl, rfl⟩
  have hX : zm_X p R s m args meth c RX18 "isIn" cX18_isIn 2 zk_E V 0 0 := hX
  unfold zf_X18_isIn at h
  refine zw_sub (lv' := [(0, .int i0), (1, .int i1)]) (List.forall_mem_cons.mpr ⟨rfl, (List.forall_mem_cons.mpr ⟨rfl, zs_nil⟩)⟩) ?_
  refine zw_iload_n hX dX18_isIn_0 rfl ?_
  refine zw_if_lt (tgt := 13) hX dX18_isIn_1 (by decide) (fun c1 => ?_) (fun c1 => ?_)
  · rw [if_pos c1] at h
    refine zw_iconst (v := (0 : Int32)) hX dX18_isIn_13 (by decide) ?_
    obtain rfl := Option.some.inj h
    exact zw_iret hX hr dX18_isIn_14 rfl ⟨rfl, rfl⟩
  · rw [if_neg c1] at h
    refine zw_iload_n hX dX18_isIn_4 rfl ?_
    refine zw_iload_n hX dX18_isIn_5 rfl ?_
    refine zw_icmp_ge (tgt := 13) hX dX18_isIn_6 (by decide) (fun c6 => ?_) (fun c6 => ?_)
    · rw [if_pos c6] at h
      refine zw_iconst (v := (0 : Int32)) hX dX18_isIn_13 (by decide) ?_
      obtain rfl := Option.some.inj h
      exact zw_iret hX hr dX18_isIn_14 rfl ⟨rfl, rfl⟩
    · rw [if_neg c6] at h
      refine zw_iconst (v := (1 : Int32)) hX dX18_isIn_9 (by decide) ?_
      refine zw_goto (tgt := 14) hX dX18_isIn_10 (by decide) ?_
      obtain rfl := Option.some.inj h
      exact zw_iret hX hr dX18_isIn_14 rfl ⟨rfl, rfl⟩
set_option maxHeartbeats 4000000 in
set_option maxRecDepth 100000 in
theorem zt_X18_line_J83 {p : Program} {l : Launch} {e : Env} {R : Room} {s : State} {m : MethodId} {args : Array Value} {below : List Frame} {meth : Method} {c : Code} {V : zm_V} {mc ms d rc rs : Nat} (hX : zm_X p R s m args meth c RX18 "line" cX18_line 6 zk_E V mc ms) (hr : meth.sig.returnType = (some .int)) (hR : R.frames = d ∧ R.locals = 64 * d) (hd : 5 ≤ d) {N : Nat} {a0 : Nat} {i1 : Int32} {i2 : Int32} {i3 : Int32} {i4 : Int32} {t0 : Nat} {t1 : Int32} {t2 : Int32} {out : (Int32 × zm_S)} {S : zm_S} (h : zf_X18_line_J83 N a0 i1 i2 i3 i4 t0 t1 t2 S = some out) : zw p l e R s m args below meth c (vx_MQ below (zm_Qc zk_E V (zo_i out)) (zm_XC zk_E V zo_x) args s mc ms (fun q => V.2.2.2.1 ≤ q)) 6 zk_E V mc ms 83 [(0, .ref a0), (1, .int i1), (2, .int i2), (3, .int i3), (4, .int i4)] [.int t2, .int t1, .ref t0] S rc rs := by
  unfold zf_X18_line_J83 at h
  obtain ⟨_, gi, h⟩ := zb_some h
  obtain ⟨r5, g, h⟩ := zb_some h
  refine zc_Vi (as := [.int t1, .int t2]) hX gi (zt_X18_goes (d := d - 1) (by omega) g) zl_X18_199 rfl dX18_line_83 ⟨rfl, rfl, Nat.le_of_ble_eq_true rfl⟩ ⟨by omega, by omega⟩ ?_
  refine zw_if_eq (tgt := 104) hX dX18_line_86 (by decide) (fun c86 => ?_) (fun c86 => ?_)
  · rw [if_pos c86] at h
    refine zw_iconst (v := (0 : Int32)) hX dX18_line_104 (by decide) ?_
    obtain rfl := Option.some.inj h
    exact zw_iret hX hr dX18_line_105 rfl ⟨rfl, rfl⟩
  · rw [if_neg c86] at h
    refine zw_aload_n hX dX18_line_89 rfl ?_
    obtain ⟨b6, g, h⟩ := zb_some h
    refine zw_getr hX zl_X18_12 dX18_line_90 g ?_
    refine zw_iload_n hX dX18_line_93 rfl ?_
    refine zw_iload_n hX dX18_line_94 rfl ?_
    refine zw_iload_n hX dX18_line_95 rfl ?_
    refine zw_iload hX dX18_line_96 rfl ?_
    obtain ⟨_, gi, h⟩ := zb_some h
    obtain ⟨r8, g, h⟩ := zb_some h
    refine zc_Vi (as := [.int i1, .int i2, .int i3, .int i4]) hX gi (zt_X16_line (d := d - 1) (by omega) g) zl_X18_203 rfl dX18_line_98 ⟨rfl, rfl, Nat.le_of_ble_eq_true rfl⟩ ⟨by omega, by omega⟩ ?_
    refine zw_goto (tgt := 105) hX dX18_line_101 (by decide) ?_
    obtain rfl := Option.some.inj h
    exact zw_iret hX hr dX18_line_105 rfl ⟨rfl, rfl⟩
set_option maxHeartbeats 4000000 in
set_option maxRecDepth 100000 in
theorem zt_X18_line_J82 {p : Program} {l : Launch} {e : Env} {R : Room} {s : State} {m : MethodId} {args : Array Value} {below : List Frame} {meth : Method} {c : Code} {V : zm_V} {mc ms d rc rs : Nat} (hX : zm_X p R s m args meth c RX18 "line" cX18_line 6 zk_E V mc ms) (hr : meth.sig.returnType = (some .int)) (hR : R.frames = d ∧ R.locals = 64 * d) (hd : 5 ≤ d) {N : Nat} {a0 : Nat} {i1 : Int32} {i2 : Int32} {i3 : Int32} {i4 : Int32} {t0 : Nat} {t1 : Int32} {out : (Int32 × zm_S)} {S : zm_S} (h : zf_X18_line_J82 N a0 i1 i2 i3 i4 t0 t1 S = some out) : zw p l e R s m args below meth c (vx_MQ below (zm_Qc zk_E V (zo_i out)) (zm_XC zk_E V zo_x) args s mc ms (fun q => V.2.2.2.1 ≤ q)) 6 zk_E V mc ms 82 [(0, .ref a0), (1, .int i1), (2, .int i2), (3, .int i3), (4, .int i4)] [.int t1, .ref t0] S rc rs := by
  unfold zf_X18_line_J82 at h
  refine zw_iconst (v := (0 : Int32)) hX dX18_line_82 (by decide) ?_
  refine zw_sub (lv' := [(0, .ref a0), (1, .int i1), (2, .int i2), (3, .int i3), (4, .int i4)]) (List.forall_mem_cons.mpr ⟨rfl, (List.forall_mem_cons.mpr ⟨rfl, (List.forall_mem_cons.mpr ⟨rfl, (List.forall_mem_cons.mpr ⟨rfl, (List.forall_mem_cons.mpr ⟨rfl, zs_nil⟩)⟩)⟩)⟩)⟩) ?_
  exact zt_X18_line_J83 hX hr hR hd h
set_option maxHeartbeats 4000000 in
set_option maxRecDepth 100000 in
theorem zt_X18_line_J54 {p : Program} {l : Launch} {e : Env} {R : Room} {s : State} {m : MethodId} {args : Array Value} {below : List Frame} {meth : Method} {c : Code} {V : zm_V} {mc ms d rc rs : Nat} (hX : zm_X p R s m args meth c RX18 "line" cX18_line 6 zk_E V mc ms) (hr : meth.sig.returnType = (some .int)) (hR : R.frames = d ∧ R.locals = 64 * d) (hd : 5 ≤ d) {N : Nat} {a0 : Nat} {i1 : Int32} {i2 : Int32} {i3 : Int32} {i4 : Int32} {t0 : Int32} {out : (Int32 × zm_S)} {S : zm_S} (h : zf_X18_line_J54 N a0 i1 i2 i3 i4 t0 S = some out) : zw p l e R s m args below meth c (vx_MQ below (zm_Qc zk_E V (zo_i out)) (zm_XC zk_E V zo_x) args s mc ms (fun q => V.2.2.2.1 ≤ q)) 6 zk_E V mc ms 54 [(0, .ref a0), (1, .int i1), (2, .int i2), (3, .int i3), (4, .int i4)] [.int t0] S rc rs := by
  unfold zf_X18_line_J54 at h
  refine zw_istore hX dX18_line_54 (by decide) ?_
  refine zw_aload_n hX dX18_line_56 rfl ?_
  refine zw_iload hX dX18_line_57 rfl ?_
  refine zw_aload_n hX dX18_line_59 rfl ?_
  obtain ⟨v3, g, h⟩ := zb_some h
  refine zw_geti hX zl_X18_192 dX18_line_60 g ?_
  refine zw_if_ne (tgt := 82) hX dX18_line_63 (by decide) (fun c63 => ?_) (fun c63 => ?_)
  · rw [if_neg c63] at h
    refine zw_sub (lv' := [(0, .ref a0), (1, .int i1), (2, .int i2), (3, .int i3), (4, .int i4)]) (List.forall_mem_cons.mpr ⟨rfl, (List.forall_mem_cons.mpr ⟨rfl, (List.forall_mem_cons.mpr ⟨rfl, (List.forall_mem_cons.mpr ⟨rfl, (List.forall_mem_cons.mpr ⟨rfl, zs_nil⟩)⟩)⟩)⟩)⟩) ?_
    exact zt_X18_line_J82 hX hr hR hd h
  · rw [if_pos c63] at h
    refine zw_aload_n hX dX18_line_66 rfl ?_
    obtain ⟨b9, g, h⟩ := zb_some h
    refine zw_getr hX zl_X18_12 dX18_line_67 g ?_
    obtain ⟨v10, g, h⟩ := zb_some h
    refine zw_geti hX zl_X18_196 dX18_line_70 g ?_
    refine zw_bipush (v := (20 : Int32)) hX dX18_line_73 (by decide) ?_
    refine zw_icmp_ge (tgt := 82) hX dX18_line_75 (by decide) (fun c75 => ?_) (fun c75 => ?_)
    · rw [if_pos c75] at h
      refine zw_sub (lv' := [(0, .ref a0), (1, .int i1), (2, .int i2), (3, .int i3), (4, .int i4)]) (List.forall_mem_cons.mpr ⟨rfl, (List.forall_mem_cons.mpr ⟨rfl, (List.forall_mem_cons.mpr ⟨rfl, (List.forall_mem_cons.mpr ⟨rfl, (List.forall_mem_cons.mpr ⟨rfl, zs_nil⟩)⟩)⟩)⟩)⟩) ?_
      exact zt_X18_line_J82 hX hr hR hd h
    · rw [if_neg c75] at h
      refine zw_iconst (v := (1 : Int32)) hX dX18_line_78 (by decide) ?_
      refine zw_goto (tgt := 83) hX dX18_line_79 (by decide) ?_
      refine zw_sub (lv' := [(0, .ref a0), (1, .int i1), (2, .int i2), (3, .int i3), (4, .int i4)]) (List.forall_mem_cons.mpr ⟨rfl, (List.forall_mem_cons.mpr ⟨rfl, (List.forall_mem_cons.mpr ⟨rfl, (List.forall_mem_cons.mpr ⟨rfl, (List.forall_mem_cons.mpr ⟨rfl, zs_nil⟩)⟩)⟩)⟩)⟩) ?_
      exact zt_X18_line_J83 hX hr hR hd h
set_option maxHeartbeats 4000000 in
set_option maxRecDepth 100000 in
theorem zt_X18_line_J53 {p : Program} {l : Launch} {e : Env} {R : Room} {s : State} {m : MethodId} {args : Array Value} {below : List Frame} {meth : Method} {c : Code} {V : zm_V} {mc ms d rc rs : Nat} (hX : zm_X p R s m args meth c RX18 "line" cX18_line 6 zk_E V mc ms) (hr : meth.sig.returnType = (some .int)) (hR : R.frames = d ∧ R.locals = 64 * d) (hd : 5 ≤ d) {N : Nat} {a0 : Nat} {i1 : Int32} {i2 : Int32} {i3 : Int32} {i4 : Int32} {out : (Int32 × zm_S)} {S : zm_S} (h : zf_X18_line_J53 N a0 i1 i2 i3 i4 S = some out) : zw p l e R s m args below meth c (vx_MQ below (zm_Qc zk_E V (zo_i out)) (zm_XC zk_E V zo_x) args s mc ms (fun q => V.2.2.2.1 ≤ q)) 6 zk_E V mc ms 53 [(0, .ref a0), (1, .int i1), (2, .int i2), (3, .int i3), (4, .int i4)] [] S rc rs := by
  unfold zf_X18_line_J53 at h
  refine zw_iconst (v := (0 : Int32)) hX dX18_line_53 (by decide) ?_
  refine zw_sub (lv' := [(0, .ref a0), (1, .int i1), (2, .int i2), (3, .int i3), (4, .int i4)]) (List.forall_mem_cons.mpr ⟨rfl, (List.forall_mem_cons.mpr ⟨rfl, (List.forall_mem_cons.mpr ⟨rfl, (List.forall_mem_cons.mpr ⟨rfl, (List.forall_mem_cons.mpr ⟨rfl, zs_nil⟩)⟩)⟩)⟩)⟩) ?_
  exact zt_X18_line_J54 hX hr hR hd h
set_option maxHeartbeats 4000000 in
set_option maxRecDepth 100000 in
theorem zt_X18_line_J49 {p : Program} {l : Launch} {e : Env} {R : Room} {s : State} {m : MethodId} {args : Array Value} {below : List Frame} {meth : Method} {c : Code} {V : zm_V} {mc ms d rc rs : Nat} (hX : zm_X p R s m args meth c RX18 "line" cX18_line 6 zk_E V mc ms) (hr : meth.sig.returnType = (some .int)) (hR : R.frames = d ∧ R.locals = 64 * d) (hd : 5 ≤ d) {N : Nat} {a0 : Nat} {i1 : Int32} {i2 : Int32} {i3 : Int32} {i4 : Int32} {out : (Int32 × zm_S)} {S : zm_S} (h : zf_X18_line_J49 N a0 i1 i2 i3 i4 S = some out) : zw p l e R s m args below meth c (vx_MQ below (zm_Qc zk_E V (zo_i out)) (zm_XC zk_E V zo_x) args s mc ms (fun q => V.2.2.2.1 ≤ q)) 6 zk_E V mc ms 49 [(0, .ref a0), (1, .int i1), (2, .int i2), (3, .int i3), (4, .int i4)] [] S rc rs := by
  unfold zf_X18_line_J49 at h
  refine zw_iconst (v := (1 : Int32)) hX dX18_line_49 (by decide) ?_
  refine zw_goto (tgt := 54) hX dX18_line_50 (by decide) ?_
  refine zw_sub (lv' := [(0, .ref a0), (1, .int i1), (2, .int i2), (3, .int i3), (4, .int i4)]) (List.forall_mem_cons.mpr ⟨rfl, (List.forall_mem_cons.mpr ⟨rfl, (List.forall_mem_cons.mpr ⟨rfl, (List.forall_mem_cons.mpr ⟨rfl, (List.forall_mem_cons.mpr ⟨rfl, zs_nil⟩)⟩)⟩)⟩)⟩) ?_
  exact zt_X18_line_J54 hX hr hR hd h
set_option maxHeartbeats 4000000 in
set_option maxRecDepth 100000 in
theorem zt_X18_line {l : Launch} {V : zm_V} {N : Nat} {S : zm_S} {out : (Int32 × zm_S)} {d : Nat} {a0 : Nat} {i1 : Int32} {i2 : Int32} {i3 : Int32} {i4 : Int32} (hd : 5 ≤ d) (h : zf_X18_line N a0 i1 i2 i3 i4 S = some out) : zm_Met l zk_E V yX18_line (.code yX18_line cX18_line 6 (some .int)) d [.ref a0, .int i1, .int i2, .int i3, .int i4] S 0 0 (zo_i out) zo_x := by
  refine zm_of (by decide +kernel) (Nat.le_of_ble_eq_true rfl) ?_
  intro p e R s m args below meth c hRR hX hr hxt
  have hR : R.frames = d ∧ R.locals = 64 * d := by rw [hRR]; exact ⟨rfl, rfl⟩
  have hX : zm_X p R s m args meth c RX18 "line" cX18_line 6 zk_E V 0 0 := hX
  unfold zf_X18_line at h
  refine zw_sub (lv' := [(0, .ref a0), (1, .int i1), (2, .int i2), (3, .int i3), (4, .int i4)]) (List.forall_mem_cons.mpr ⟨rfl, (List.forall_mem_cons.mpr ⟨rfl, (List.forall_mem_cons.mpr ⟨rfl, (List.forall_mem_cons.mpr ⟨rfl, (List.forall_mem_cons.mpr ⟨rfl, zs_nil⟩)⟩)⟩)⟩)⟩) ?_
  refine zw_iload_n hX dX18_line_0 rfl ?_
  obtain ⟨r2, g, h⟩ := zb_some h
  refine zc_Si (as := [.int i1]) hX (zt_X16_isIn (d := d - 1) (by omega) g) zl_X18_188 dX18_line_1 ⟨rfl, rfl, Nat.le_of_ble_eq_true rfl⟩ ⟨by omega, by omega⟩ ?_
  refine zw_if_eq (tgt := 53) hX dX18_line_4 (by decide) (fun c4 => ?_) (fun c4 => ?_)
  · rw [if_pos c4] at h
    refine zw_sub (lv' := [(0, .ref a0), (1, .int i1), (2, .int i2), (3, .int i3), (4, .int i4)]) (List.forall_mem_cons.mpr ⟨rfl, (List.forall_mem_cons.mpr ⟨rfl, (List.forall_mem_cons.mpr ⟨rfl, (List.forall_mem_cons.mpr ⟨rfl, (List.forall_mem_cons.mpr ⟨rfl, zs_nil⟩)⟩)⟩)⟩)⟩) ?_
    exact zt_X18_line_J53 hX hr hR hd h
  · rw [if_neg c4] at h
    refine zw_iload_n hX dX18_line_7 rfl ?_
    obtain ⟨r12, g, h⟩ := zb_some h
    refine zc_Si (as := [.int i2]) hX (zt_X16_isIn (d := d - 1) (by omega) g) zl_X18_188 dX18_line_8 ⟨rfl, rfl, Nat.le_of_ble_eq_true rfl⟩ ⟨by omega, by omega⟩ ?_
    refine zw_if_eq (tgt := 53) hX dX18_line_11 (by decide) (fun c11 => ?_) (fun c11 => ?_)
    · rw [if_pos c11] at h
      refine zw_sub (lv' := [(0, .ref a0), (1, .int i1), (2, .int i2), (3, .int i3), (4, .int i4)]) (List.forall_mem_cons.mpr ⟨rfl, (List.forall_mem_cons.mpr ⟨rfl, (List.forall_mem_cons.mpr ⟨rfl, (List.forall_mem_cons.mpr ⟨rfl, (List.forall_mem_cons.mpr ⟨rfl, zs_nil⟩)⟩)⟩)⟩)⟩) ?_
      exact zt_X18_line_J53 hX hr hR hd h
    · rw [if_neg c11] at h
      refine zw_iload_n hX dX18_line_14 rfl ?_
      obtain ⟨r14, g, h⟩ := zb_some h
      refine zc_Si (as := [.int i3]) hX (zt_X16_isIn (d := d - 1) (by omega) g) zl_X18_188 dX18_line_15 ⟨rfl, rfl, Nat.le_of_ble_eq_true rfl⟩ ⟨by omega, by omega⟩ ?_
      refine zw_if_eq (tgt := 53) hX dX18_line_18 (by decide) (fun c18 => ?_) (fun c18 => ?_)
      · rw [if_pos c18] at h
        refine zw_sub (lv' := [(0, .ref a0), (1, .int i1), (2, .int i2), (3, .int i3), (4, .int i4)]) (List.forall_mem_cons.mpr ⟨rfl, (List.forall_mem_cons.mpr ⟨rfl, (List.forall_mem_cons.mpr ⟨rfl, (List.forall_mem_cons.mpr ⟨rfl, (List.forall_mem_cons.mpr ⟨rfl, zs_nil⟩)⟩)⟩)⟩)⟩) ?_
        exact zt_X18_line_J53 hX hr hR hd h
      · rw [if_neg c18] at h
        refine zw_iload hX dX18_line_21 rfl ?_
        obtain ⟨r16, g, h⟩ := zb_some h
        refine zc_Si (as := [.int i4]) hX (zt_X16_isIn (d := d - 1) (by omega) g) zl_X18_188 dX18_line_23 ⟨rfl, rfl, Nat.le_of_ble_eq_true rfl⟩ ⟨by omega, by omega⟩ ?_
        refine zw_if_eq (tgt := 53) hX dX18_line_26 (by decide) (fun c26 => ?_) (fun c26 => ?_)
        · rw [if_pos c26] at h
          refine zw_sub (lv' := [(0, .ref a0), (1, .int i1), (2, .int i2), (3, .int i3), (4, .int i4)]) (List.forall_mem_cons.mpr ⟨rfl, (List.forall_mem_cons.mpr ⟨rfl, (List.forall_mem_cons.mpr ⟨rfl, (List.forall_mem_cons.mpr ⟨rfl, (List.forall_mem_cons.mpr ⟨rfl, zs_nil⟩)⟩)⟩)⟩)⟩) ?_
          exact zt_X18_line_J53 hX hr hR hd h
        · rw [if_neg c26] at h
          refine zw_iload_n hX dX18_line_29 rfl ?_
          refine zw_iload_n hX dX18_line_30 rfl ?_
          refine zw_icmp_ne (tgt := 43) hX dX18_line_31 (by decide) (fun c31 => ?_) (fun c31 => ?_)
          · rw [if_neg c31] at h
            refine zw_iload_n hX dX18_line_43 rfl ?_
            refine zw_iload hX dX18_line_44 rfl ?_
            refine zw_icmp_ne (tgt := 53) hX dX18_line_46 (by decide) (fun c46 => ?_) (fun c46 => ?_)
            · rw [if_neg c46] at h
              refine zw_sub (lv' := [(0, .ref a0), (1, .int i1), (2, .int i2), (3, .int i3), (4, .int i4)]) (List.forall_mem_cons.mpr ⟨rfl, (List.forall_mem_cons.mpr ⟨rfl, (List.forall_mem_cons.mpr ⟨rfl, (List.forall_mem_cons.mpr ⟨rfl, (List.forall_mem_cons.mpr ⟨rfl, zs_nil⟩)⟩)⟩)⟩)⟩) ?_
              exact zt_X18_line_J53 hX hr hR hd h
            · rw [if_pos c46] at h
              refine zw_sub (lv' := [(0, .ref a0), (1, .int i1), (2, .int i2), (3, .int i3), (4, .int i4)]) (List.forall_mem_cons.mpr ⟨rfl, (List.forall_mem_cons.mpr ⟨rfl, (List.forall_mem_cons.mpr ⟨rfl, (List.forall_mem_cons.mpr ⟨rfl, (List.forall_mem_cons.mpr ⟨rfl, zs_nil⟩)⟩)⟩)⟩)⟩) ?_
              exact zt_X18_line_J49 hX hr hR hd h
          · rw [if_pos c31] at h
            refine zw_iload_n hX dX18_line_34 rfl ?_
            refine zw_iload hX dX18_line_35 rfl ?_
            refine zw_icmp_eq (tgt := 53) hX dX18_line_37 (by decide) (fun c37 => ?_) (fun c37 => ?_)
            · rw [if_pos c37] at h
              refine zw_sub (lv' := [(0, .ref a0), (1, .int i1), (2, .int i2), (3, .int i3), (4, .int i4)]) (List.forall_mem_cons.mpr ⟨rfl, (List.forall_mem_cons.mpr ⟨rfl, (List.forall_mem_cons.mpr ⟨rfl, (List.forall_mem_cons.mpr ⟨rfl, (List.forall_mem_cons.mpr ⟨rfl, zs_nil⟩)⟩)⟩)⟩)⟩) ?_
              exact zt_X18_line_J53 hX hr hR hd h
            · rw [if_neg c37] at h
              refine zw_goto (tgt := 49) hX dX18_line_40 (by decide) ?_
              refine zw_sub (lv' := [(0, .ref a0), (1, .int i1), (2, .int i2), (3, .int i3), (4, .int i4)]) (List.forall_mem_cons.mpr ⟨rfl, (List.forall_mem_cons.mpr ⟨rfl, (List.forall_mem_cons.mpr ⟨rfl, (List.forall_mem_cons.mpr ⟨rfl, (List.forall_mem_cons.mpr ⟨rfl, zs_nil⟩)⟩)⟩)⟩)⟩) ?_
              exact zt_X18_line_J49 hX hr hR hd h
set_option maxHeartbeats 4000000 in
set_option maxRecDepth 100000 in
theorem zt_X18_move_J45 {p : Program} {l : Launch} {e : Env} {R : Room} {s : State} {m : MethodId} {args : Array Value} {below : List Frame} {meth : Method} {c : Code} {V : zm_V} {mc ms d rc rs : Nat} (hX : zm_X p R s m args meth c RX18 "move" cX18_move 4 zk_E V mc ms) (hr : meth.sig.returnType = (some .boolean)) (hR : R.frames = d ∧ R.locals = 64 * d) (hd : 5 ≤ d) {N : Nat} {a0 : Nat} {i1 : Int32} {i2 : Int32} {i3 : Int32} {t0 : Nat} {t1 : Int32} {t2 : Int32} {out : (Int32 × zm_S)} {S : zm_S} (h : zf_X18_move_J45 N a0 i1 i2 i3 t0 t1 t2 S = some out) : zw p l e R s m args below meth c (vx_MQ below (zm_Qc zk_E V (zo_i out)) (zm_XC zk_E V zo_x) args s mc ms (fun q => V.2.2.2.1 ≤ q)) 4 zk_E V mc ms 45 [(0, .ref a0), (1, .int i1), (2, .int i2), (3, .int i3)] [.int t2, .int t1, .ref t0] S rc rs := by
  unfold zf_X18_move_J45 at h
  obtain ⟨_, gi, h⟩ := zb_some h
  obtain ⟨r7, g, h⟩ := zb_some h
  refine zc_Vi (as := [.int t1, .int t2]) hX gi (zt_X18_goes (d := d - 1) (by omega) g) zl_X18_199 rfl dX18_move_45 ⟨rfl, rfl, Nat.le_of_ble_eq_true rfl⟩ ⟨by omega, by omega⟩ ?_
  refine zw_if_eq (tgt := 68) hX dX18_move_48 (by decide) (fun c48 => ?_) (fun c48 => ?_)
  · rw [if_pos c48] at h
    refine zw_iconst (v := (0 : Int32)) hX dX18_move_68 (by decide) ?_
    obtain rfl := Option.some.inj h
    exact zw_iret hX hr dX18_move_69 rfl ⟨rfl, rfl⟩
  · rw [if_neg c48] at h
    refine zw_aload_n hX dX18_move_51 rfl ?_
    obtain ⟨b8, g, h⟩ := zb_some h
    refine zw_getr hX zl_X18_12 dX18_move_52 g ?_
    refine zw_iload_n hX dX18_move_55 rfl ?_
    refine zw_iload_n hX dX18_move_56 rfl ?_
    refine zw_iload_n hX dX18_move_57 rfl ?_
    obtain ⟨_, gi, h⟩ := zb_some h
    obtain ⟨r10, g, h⟩ := zb_some h
    refine zc_Vi (as := [.int i1, .int i2, .int i3]) hX gi (zt_X16_move (d := d - 1) (by omega) g) zl_X18_214 rfl dX18_move_58 ⟨rfl, rfl, Nat.le_of_ble_eq_true rfl⟩ ⟨by omega, by omega⟩ ?_
    refine zw_if_eq (tgt := 68) hX dX18_move_61 (by decide) (fun c61 => ?_) (fun c61 => ?_)
    · rw [if_pos c61] at h
      refine zw_iconst (v := (0 : Int32)) hX dX18_move_68 (by decide) ?_
      obtain rfl := Option.some.inj h
      exact zw_iret hX hr dX18_move_69 rfl ⟨rfl, rfl⟩
    · rw [if_neg c61] at h
      refine zw_iconst (v := (1 : Int32)) hX dX18_move_64 (by decide) ?_
      refine zw_goto (tgt := 69) hX dX18_move_65 (by decide) ?_
      obtain rfl := Option.some.inj h
      exact zw_iret hX hr dX18_move_69 rfl ⟨rfl, rfl⟩
set_option maxHeartbeats 4000000 in
set_option maxRecDepth 100000 in
theorem zt_X18_move_J33 {p : Program} {l : Launch} {e : Env} {R : Room} {s : State} {m : MethodId} {args : Array Value} {below : List Frame} {meth : Method} {c : Code} {V : zm_V} {mc ms d rc rs : Nat} (hX : zm_X p R s m args meth c RX18 "move" cX18_move 4 zk_E V mc ms) (hr : meth.sig.returnType = (some .boolean)) (hR : R.frames = d ∧ R.locals = 64 * d) (hd : 5 ≤ d) {N : Nat} {a0 : Nat} {i1 : Int32} {i2 : Int32} {i3 : Int32} {t0 : Nat} {t1 : Int32} {out : (Int32 × zm_S)} {S : zm_S} (h : zf_X18_move_J33 N a0 i1 i2 i3 t0 t1 S = some out) : zw p l e R s m args below meth c (vx_MQ below (zm_Qc zk_E V (zo_i out)) (zm_XC zk_E V zo_x) args s mc ms (fun q => V.2.2.2.1 ≤ q)) 4 zk_E V mc ms 33 [(0, .ref a0), (1, .int i1), (2, .int i2), (3, .int i3)] [.int t1, .ref t0] S rc rs := by
  unfold zf_X18_move_J33 at h
  refine zw_aload_n hX dX18_move_33 rfl ?_
  obtain ⟨v5, g, h⟩ := zb_some h
  refine zw_geti hX zl_X18_192 dX18_move_34 g ?_
  refine zw_if_ne (tgt := 44) hX dX18_move_37 (by decide) (fun c37 => ?_) (fun c37 => ?_)
  · rw [if_neg c37] at h
    refine zw_iconst (v := (0 : Int32)) hX dX18_move_44 (by decide) ?_
    refine zw_sub (lv' := [(0, .ref a0), (1, .int i1), (2, .int i2), (3, .int i3)]) (List.forall_mem_cons.mpr ⟨rfl, (List.forall_mem_cons.mpr ⟨rfl, (List.forall_mem_cons.mpr ⟨rfl, (List.forall_mem_cons.mpr ⟨rfl, zs_nil⟩)⟩)⟩)⟩) ?_
    exact zt_X18_move_J45 hX hr hR hd h
  · rw [if_pos c37] at h
    refine zw_iconst (v := (1 : Int32)) hX dX18_move_40 (by decide) ?_
    refine zw_goto (tgt := 45) hX dX18_move_41 (by decide) ?_
    refine zw_sub (lv' := [(0, .ref a0), (1, .int i1), (2, .int i2), (3, .int i3)]) (List.forall_mem_cons.mpr ⟨rfl, (List.forall_mem_cons.mpr ⟨rfl, (List.forall_mem_cons.mpr ⟨rfl, (List.forall_mem_cons.mpr ⟨rfl, zs_nil⟩)⟩)⟩)⟩) ?_
    exact zt_X18_move_J45 hX hr hR hd h
set_option maxHeartbeats 4000000 in
set_option maxRecDepth 100000 in
theorem zt_X18_move_J32 {p : Program} {l : Launch} {e : Env} {R : Room} {s : State} {m : MethodId} {args : Array Value} {below : List Frame} {meth : Method} {c : Code} {V : zm_V} {mc ms d rc rs : Nat} (hX : zm_X p R s m args meth c RX18 "move" cX18_move 4 zk_E V mc ms) (hr : meth.sig.returnType = (some .boolean)) (hR : R.frames = d ∧ R.locals = 64 * d) (hd : 5 ≤ d) {N : Nat} {a0 : Nat} {i1 : Int32} {i2 : Int32} {i3 : Int32} {t0 : Nat} {out : (Int32 × zm_S)} {S : zm_S} (h : zf_X18_move_J32 N a0 i1 i2 i3 t0 S = some out) : zw p l e R s m args below meth c (vx_MQ below (zm_Qc zk_E V (zo_i out)) (zm_XC zk_E V zo_x) args s mc ms (fun q => V.2.2.2.1 ≤ q)) 4 zk_E V mc ms 32 [(0, .ref a0), (1, .int i1), (2, .int i2), (3, .int i3)] [.ref t0] S rc rs := by
  unfold zf_X18_move_J32 at h
  refine zw_iconst (v := (0 : Int32)) hX dX18_move_32 (by decide) ?_
  refine zw_sub (lv' := [(0, .ref a0), (1, .int i1), (2, .int i2), (3, .int i3)]) (List.forall_mem_cons.mpr ⟨rfl, (List.forall_mem_cons.mpr ⟨rfl, (List.forall_mem_cons.mpr ⟨rfl, (List.forall_mem_cons.mpr ⟨rfl, zs_nil⟩)⟩)⟩)⟩) ?_
  exact zt_X18_move_J33 hX hr hR hd h
set_option maxHeartbeats 4000000 in
set_option maxRecDepth 100000 in
theorem zt_X18_move {l : Launch} {V : zm_V} {N : Nat} {S : zm_S} {out : (Int32 × zm_S)} {d : Nat} {a0 : Nat} {i1 : Int32} {i2 : Int32} {i3 : Int32} (hd : 5 ≤ d) (h : zf_X18_move N a0 i1 i2 i3 S = some out) : zm_Met l zk_E V yX18_move (.code yX18_move cX18_move 4 (some .boolean)) d [.ref a0, .int i1, .int i2, .int i3] S 0 0 (zo_i out) zo_x := by
  refine zm_of (by decide +kernel) (Nat.le_of_ble_eq_true rfl) ?_
  intro p e R s m args below meth c hRR hX hr hxt
  have hR : R.frames = d ∧ R.locals = 64 * d := by rw [hRR]; exact ⟨rfl, rfl⟩
  have hX : zm_X p R s m args meth c RX18 "move" cX18_move 4 zk_E V 0 0 := hX
  unfold zf_X18_move at h
  refine zw_sub (lv' := [(0, .ref a0), (1, .int i1), (2, .int i2), (3, .int i3)]) (List.forall_mem_cons.mpr ⟨rfl, (List.forall_mem_cons.mpr ⟨rfl, (List.forall_mem_cons.mpr ⟨rfl, (List.forall_mem_cons.mpr ⟨rfl, zs_nil⟩)⟩)⟩)⟩) ?_
  refine zw_aload_n hX dX18_move_0 rfl ?_
  refine zw_iload_n hX dX18_move_1 rfl ?_
  refine zw_aload_n hX dX18_move_2 rfl ?_
  obtain ⟨b1, g, h⟩ := zb_some h
  refine zw_getr hX zl_X18_12 dX18_move_3 g ?_
  obtain ⟨v2, g, h⟩ := zb_some h
  refine zw_geti hX zl_X18_196 dX18_move_6 g ?_
  obtain ⟨r4, g, h⟩ := zb_some h
  refine zc_Si (as := [.int i1, .int v2]) hX (zt_X18_isIn (d := d - 1) (by omega) g) zl_X18_207 dX18_move_9 ⟨rfl, rfl, Nat.le_of_ble_eq_true rfl⟩ ⟨by omega, by omega⟩ ?_
  refine zw_if_eq (tgt := 32) hX dX18_move_12 (by decide) (fun c12 => ?_) (fun c12 => ?_)
  · rw [if_pos c12] at h
    refine zw_sub (lv' := [(0, .ref a0), (1, .int i1), (2, .int i2), (3, .int i3)]) (List.forall_mem_cons.mpr ⟨rfl, (List.forall_mem_cons.mpr ⟨rfl, (List.forall_mem_cons.mpr ⟨rfl, (List.forall_mem_cons.mpr ⟨rfl, zs_nil⟩)⟩)⟩)⟩) ?_
    exact zt_X18_move_J32 hX hr hR hd h
  · rw [if_neg c12] at h
    refine zw_aload_n hX dX18_move_15 rfl ?_
    obtain ⟨b11, g, h⟩ := zb_some h
    refine zw_getr hX zl_X18_12 dX18_move_16 g ?_
    refine zw_iload_n hX dX18_move_19 rfl ?_
    refine zw_iload_n hX dX18_move_20 rfl ?_
    refine zw_iload_n hX dX18_move_21 rfl ?_
    obtain ⟨_, gi, h⟩ := zb_some h
    obtain ⟨r13, g, h⟩ := zb_some h
    refine zc_Vi (as := [.int i1, .int i2, .int i3]) hX gi (zt_X16_mayGo (d := d - 1) (by omega) g) zl_X18_210 rfl dX18_move_22 ⟨rfl, rfl, Nat.le_of_ble_eq_true rfl⟩ ⟨by omega, by omega⟩ ?_
    refine zw_if_eq (tgt := 32) hX dX18_move_25 (by decide) (fun c25 => ?_) (fun c25 => ?_)
    · rw [if_pos c25] at h
      refine zw_sub (lv' := [(0, .ref a0), (1, .int i1), (2, .int i2), (3, .int i3)]) (List.forall_mem_cons.mpr ⟨rfl, (List.forall_mem_cons.mpr ⟨rfl, (List.forall_mem_cons.mpr ⟨rfl, (List.forall_mem_cons.mpr ⟨rfl, zs_nil⟩)⟩)⟩)⟩) ?_
      exact zt_X18_move_J32 hX hr hR hd h
    · rw [if_neg c25] at h
      refine zw_iconst (v := (1 : Int32)) hX dX18_move_28 (by decide) ?_
      refine zw_goto (tgt := 33) hX dX18_move_29 (by decide) ?_
      refine zw_sub (lv' := [(0, .ref a0), (1, .int i1), (2, .int i2), (3, .int i3)]) (List.forall_mem_cons.mpr ⟨rfl, (List.forall_mem_cons.mpr ⟨rfl, (List.forall_mem_cons.mpr ⟨rfl, (List.forall_mem_cons.mpr ⟨rfl, zs_nil⟩)⟩)⟩)⟩) ?_
      exact zt_X18_move_J33 hX hr hR hd h
set_option maxHeartbeats 4000000 in
set_option maxRecDepth 100000 in
theorem zt_X18_door_J88 {p : Program} {l : Launch} {e : Env} {R : Room} {s : State} {m : MethodId} {args : Array Value} {below : List Frame} {meth : Method} {c : Code} {V : zm_V} {mc ms d rc rs : Nat} (hX : zm_X p R s m args meth c RX18 "door" cX18_door 6 zk_E V mc ms) (hr : meth.sig.returnType = (some .int)) (hR : R.frames = d ∧ R.locals = 64 * d) (hd : 2 ≤ d) {N : Nat} {a0 : Nat} {i1 : Int32} {i2 : Int32} {i3 : Int32} {i4 : Int32} {t0 : Nat} {t1 : Int32} {t2 : Int32} {out : (Int32 × zm_S)} {S : zm_S} (h : zf_X18_door_J88 N a0 i1 i2 i3 i4 t0 t1 t2 S = some out) : zw p l e R s m args below meth c (vx_MQ below (zm_Qc zk_E V (zo_i out)) (zm_XC zk_E V zo_x) args s mc ms (fun q => V.2.2.2.1 ≤ q)) 6 zk_E V mc ms 88 [(0, .ref a0), (1, .int i1), (2, .int i2), (3, .int i3), (4, .int i4)] [.int t2, .int t1, .ref t0] S rc rs := by
  unfold zf_X18_door_J88 at h
  obtain ⟨_, gi, h⟩ := zb_some h
  obtain ⟨r7, g, h⟩ := zb_some h
  refine zc_Vi (as := [.int t1, .int t2]) hX gi (zt_X18_goes (d := d - 1) (by omega) g) zl_X18_199 rfl dX18_door_88 ⟨rfl, rfl, Nat.le_of_ble_eq_true rfl⟩ ⟨by omega, by omega⟩ ?_
  refine zw_if_eq (tgt := 109) hX dX18_door_91 (by decide) (fun c91 => ?_) (fun c91 => ?_)
  · rw [if_pos c91] at h
    refine zw_iconst (v := (0 : Int32)) hX dX18_door_109 (by decide) ?_
    obtain rfl := Option.some.inj h
    exact zw_iret hX hr dX18_door_110 rfl ⟨rfl, rfl⟩
  · rw [if_neg c91] at h
    refine zw_aload_n hX dX18_door_94 rfl ?_
    obtain ⟨b8, g, h⟩ := zb_some h
    refine zw_getr hX zl_X18_12 dX18_door_95 g ?_
    refine zw_iload_n hX dX18_door_98 rfl ?_
    refine zw_iload_n hX dX18_door_99 rfl ?_
    refine zw_iload_n hX dX18_door_100 rfl ?_
    refine zw_iload hX dX18_door_101 rfl ?_
    obtain ⟨_, gi, h⟩ := zb_some h
    obtain ⟨r10, g, h⟩ := zb_some h
    refine zc_Vi (as := [.int i1, .int i2, .int i3, .int i4]) hX gi (zt_X16_door (d := d - 1) (by omega) g) zl_X18_224 rfl dX18_door_103 ⟨rfl, rfl, Nat.le_of_ble_eq_true rfl⟩ ⟨by omega, by omega⟩ ?_
    refine zw_goto (tgt := 110) hX dX18_door_106 (by decide) ?_
    obtain rfl := Option.some.inj h
    exact zw_iret hX hr dX18_door_110 rfl ⟨rfl, rfl⟩
set_option maxHeartbeats 4000000 in
set_option maxRecDepth 100000 in
theorem zt_X18_door_J87 {p : Program} {l : Launch} {e : Env} {R : Room} {s : State} {m : MethodId} {args : Array Value} {below : List Frame} {meth : Method} {c : Code} {V : zm_V} {mc ms d rc rs : Nat} (hX : zm_X p R s m args meth c RX18 "door" cX18_door 6 zk_E V mc ms) (hr : meth.sig.returnType = (some .int)) (hR : R.frames = d ∧ R.locals = 64 * d) (hd : 2 ≤ d) {N : Nat} {a0 : Nat} {i1 : Int32} {i2 : Int32} {i3 : Int32} {i4 : Int32} {t0 : Nat} {t1 : Int32} {out : (Int32 × zm_S)} {S : zm_S} (h : zf_X18_door_J87 N a0 i1 i2 i3 i4 t0 t1 S = some out) : zw p l e R s m args below meth c (vx_MQ below (zm_Qc zk_E V (zo_i out)) (zm_XC zk_E V zo_x) args s mc ms (fun q => V.2.2.2.1 ≤ q)) 6 zk_E V mc ms 87 [(0, .ref a0), (1, .int i1), (2, .int i2), (3, .int i3), (4, .int i4)] [.int t1, .ref t0] S rc rs := by
  unfold zf_X18_door_J87 at h
  refine zw_iconst (v := (0 : Int32)) hX dX18_door_87 (by decide) ?_
  refine zw_sub (lv' := [(0, .ref a0), (1, .int i1), (2, .int i2), (3, .int i3), (4, .int i4)]) (List.forall_mem_cons.mpr ⟨rfl, (List.forall_mem_cons.mpr ⟨rfl, (List.forall_mem_cons.mpr ⟨rfl, (List.forall_mem_cons.mpr ⟨rfl, (List.forall_mem_cons.mpr ⟨rfl, zs_nil⟩)⟩)⟩)⟩)⟩) ?_
  exact zt_X18_door_J88 hX hr hR hd h
set_option maxHeartbeats 4000000 in
set_option maxRecDepth 100000 in
theorem zt_X18_door_J83 {p : Program} {l : Launch} {e : Env} {R : Room} {s : State} {m : MethodId} {args : Array Value} {below : List Frame} {meth : Method} {c : Code} {V : zm_V} {mc ms d rc rs : Nat} (hX : zm_X p R s m args meth c RX18 "door" cX18_door 6 zk_E V mc ms) (hr : meth.sig.returnType = (some .int)) (hR : R.frames = d ∧ R.locals = 64 * d) (hd : 2 ≤ d) {N : Nat} {a0 : Nat} {i1 : Int32} {i2 : Int32} {i3 : Int32} {i4 : Int32} {t0 : Nat} {t1 : Int32} {out : (Int32 × zm_S)} {S : zm_S} (h : zf_X18_door_J83 N a0 i1 i2 i3 i4 t0 t1 S = some out) : zw p l e R s m args below meth c (vx_MQ below (zm_Qc zk_E V (zo_i out)) (zm_XC zk_E V zo_x) args s mc ms (fun q => V.2.2.2.1 ≤ q)) 6 zk_E V mc ms 83 [(0, .ref a0), (1, .int i1), (2, .int i2), (3, .int i3), (4, .int i4)] [.int t1, .ref t0] S rc rs := by
  unfold zf_X18_door_J83 at h
  refine zw_iconst (v := (1 : Int32)) hX dX18_door_83 (by decide) ?_
  refine zw_goto (tgt := 88) hX dX18_door_84 (by decide) ?_
  refine zw_sub (lv' := [(0, .ref a0), (1, .int i1), (2, .int i2), (3, .int i3), (4, .int i4)]) (List.forall_mem_cons.mpr ⟨rfl, (List.forall_mem_cons.mpr ⟨rfl, (List.forall_mem_cons.mpr ⟨rfl, (List.forall_mem_cons.mpr ⟨rfl, (List.forall_mem_cons.mpr ⟨rfl, zs_nil⟩)⟩)⟩)⟩)⟩) ?_
  exact zt_X18_door_J88 hX hr hR hd h
set_option maxHeartbeats 4000000 in
set_option maxRecDepth 100000 in
theorem zt_X18_door_J52 {p : Program} {l : Launch} {e : Env} {R : Room} {s : State} {m : MethodId} {args : Array Value} {below : List Frame} {meth : Method} {c : Code} {V : zm_V} {mc ms d rc rs : Nat} (hX : zm_X p R s m args meth c RX18 "door" cX18_door 6 zk_E V mc ms) (hr : meth.sig.returnType = (some .int)) (hR : R.frames = d ∧ R.locals = 64 * d) (hd : 2 ≤ d) {N : Nat} {a0 : Nat} {i1 : Int32} {i2 : Int32} {i3 : Int32} {i4 : Int32} {t0 : Int32} {out : (Int32 × zm_S)} {S : zm_S} (h : zf_X18_door_J52 N a0 i1 i2 i3 i4 t0 S = some out) : zw p l e R s m args below meth c (vx_MQ below (zm_Qc zk_E V (zo_i out)) (zm_XC zk_E V zo_x) args s mc ms (fun q => V.2.2.2.1 ≤ q)) 6 zk_E V mc ms 52 [(0, .ref a0), (1, .int i1), (2, .int i2), (3, .int i3), (4, .int i4)] [.int t0] S rc rs := by
  unfold zf_X18_door_J52 at h
  refine zw_istore hX dX18_door_52 (by decide) ?_
  refine zw_aload_n hX dX18_door_54 rfl ?_
  refine zw_iload hX dX18_door_55 rfl ?_
  refine zw_aload_n hX dX18_door_57 rfl ?_
  obtain ⟨v5, g, h⟩ := zb_some h
  refine zw_geti hX zl_X18_192 dX18_door_58 g ?_
  refine zw_if_ne (tgt := 87) hX dX18_door_61 (by decide) (fun c61 => ?_) (fun c61 => ?_)
  · rw [if_neg c61] at h
    refine zw_sub (lv' := [(0, .ref a0), (1, .int i1), (2, .int i2), (3, .int i3), (4, .int i4)]) (List.forall_mem_cons.mpr ⟨rfl, (List.forall_mem_cons.mpr ⟨rfl, (List.forall_mem_cons.mpr ⟨rfl, (List.forall_mem_cons.mpr ⟨rfl, (List.forall_mem_cons.mpr ⟨rfl, zs_nil⟩)⟩)⟩)⟩)⟩) ?_
    exact zt_X18_door_J87 hX hr hR hd h
  · rw [if_pos c61] at h
    refine zw_iload hX dX18_door_64 rfl ?_
    refine zw_if_eq (tgt := 83) hX dX18_door_66 (by decide) (fun c66 => ?_) (fun c66 => ?_)
    · rw [if_pos c66] at h
      refine zw_sub (lv' := [(0, .ref a0), (1, .int i1), (2, .int i2), (3, .int i3), (4, .int i4)]) (List.forall_mem_cons.mpr ⟨rfl, (List.forall_mem_cons.mpr ⟨rfl, (List.forall_mem_cons.mpr ⟨rfl, (List.forall_mem_cons.mpr ⟨rfl, (List.forall_mem_cons.mpr ⟨rfl, zs_nil⟩)⟩)⟩)⟩)⟩) ?_
      exact zt_X18_door_J83 hX hr hR hd h
    · rw [if_neg c66] at h
      refine zw_aload_n hX dX18_door_69 rfl ?_
      obtain ⟨b11, g, h⟩ := zb_some h
      refine zw_getr hX zl_X18_12 dX18_door_70 g ?_
      obtain ⟨b12, g, h⟩ := zb_some h
      refine zw_getr hX zl_X18_221 dX18_door_73 g ?_
      refine zw_iload_n hX dX18_door_76 rfl ?_
      obtain ⟨v13, g, h⟩ := zb_some h
      refine zw_xi hX dX18_door_77 g ?_
      refine zw_bipush (v := (6 : Int32)) hX dX18_door_78 (by decide) ?_
      refine zw_icmp_ge (tgt := 87) hX dX18_door_80 (by decide) (fun c80 => ?_) (fun c80 => ?_)
      · rw [if_pos c80] at h
        refine zw_sub (lv' := [(0, .ref a0), (1, .int i1), (2, .int i2), (3, .int i3), (4, .int i4)]) (List.forall_mem_cons.mpr ⟨rfl, (List.forall_mem_cons.mpr ⟨rfl, (List.forall_mem_cons.mpr ⟨rfl, (List.forall_mem_cons.mpr ⟨rfl, (List.forall_mem_cons.mpr ⟨rfl, zs_nil⟩)⟩)⟩)⟩)⟩) ?_
        exact zt_X18_door_J87 hX hr hR hd h
      · rw [if_neg c80] at h
        refine zw_sub (lv' := [(0, .ref a0), (1, .int i1), (2, .int i2), (3, .int i3), (4, .int i4)]) (List.forall_mem_cons.mpr ⟨rfl, (List.forall_mem_cons.mpr ⟨rfl, (List.forall_mem_cons.mpr ⟨rfl, (List.forall_mem_cons.mpr ⟨rfl, (List.forall_mem_cons.mpr ⟨rfl, zs_nil⟩)⟩)⟩)⟩)⟩) ?_
        exact zt_X18_door_J83 hX hr hR hd h
set_option maxHeartbeats 4000000 in
set_option maxRecDepth 100000 in
theorem zt_X18_door_J51 {p : Program} {l : Launch} {e : Env} {R : Room} {s : State} {m : MethodId} {args : Array Value} {below : List Frame} {meth : Method} {c : Code} {V : zm_V} {mc ms d rc rs : Nat} (hX : zm_X p R s m args meth c RX18 "door" cX18_door 6 zk_E V mc ms) (hr : meth.sig.returnType = (some .int)) (hR : R.frames = d ∧ R.locals = 64 * d) (hd : 2 ≤ d) {N : Nat} {a0 : Nat} {i1 : Int32} {i2 : Int32} {i3 : Int32} {i4 : Int32} {out : (Int32 × zm_S)} {S : zm_S} (h : zf_X18_door_J51 N a0 i1 i2 i3 i4 S = some out) : zw p l e R s m args below meth c (vx_MQ below (zm_Qc zk_E V (zo_i out)) (zm_XC zk_E V zo_x) args s mc ms (fun q => V.2.2.2.1 ≤ q)) 6 zk_E V mc ms 51 [(0, .ref a0), (1, .int i1), (2, .int i2), (3, .int i3), (4, .int i4)] [] S rc rs := by
  unfold zf_X18_door_J51 at h
  refine zw_iconst (v := (0 : Int32)) hX dX18_door_51 (by decide) ?_
  refine zw_sub (lv' := [(0, .ref a0), (1, .int i1), (2, .int i2), (3, .int i3), (4, .int i4)]) (List.forall_mem_cons.mpr ⟨rfl, (List.forall_mem_cons.mpr ⟨rfl, (List.forall_mem_cons.mpr ⟨rfl, (List.forall_mem_cons.mpr ⟨rfl, (List.forall_mem_cons.mpr ⟨rfl, zs_nil⟩)⟩)⟩)⟩)⟩) ?_
  exact zt_X18_door_J52 hX hr hR hd h
set_option maxHeartbeats 4000000 in
set_option maxRecDepth 100000 in
theorem zt_X18_door {l : Launch} {V : zm_V} {N : Nat} {S : zm_S} {out : (Int32 × zm_S)} {d : Nat} {a0 : Nat} {i1 : Int32} {i2 : Int32} {i3 : Int32} {i4 : Int32} (hd : 2 ≤ d) (h : zf_X18_door N a0 i1 i2 i3 i4 S = some out) : zm_Met l zk_E V yX18_door (.code yX18_door cX18_door 6 (some .int)) d [.ref a0, .int i1, .int i2, .int i3, .int i4] S 0 0 (zo_i out) zo_x := by
  refine zm_of (by decide +kernel) (Nat.le_of_ble_eq_true rfl) ?_
  intro p e R s m args below meth c hRR hX hr hxt
  have hR : R.frames = d ∧ R.locals = 64 * d := by rw [hRR]; exact ⟨rfl, rfl⟩
  have hX : zm_X p R s m args meth c RX18 "door" cX18_door 6 zk_E V 0 0 := hX
  unfold zf_X18_door at h
  refine zw_sub (lv' := [(0, .ref a0), (1, .int i1), (2, .int i2), (3, .int i3), (4, .int i4)]) (List.forall_mem_cons.mpr ⟨rfl, (List.forall_mem_cons.mpr ⟨rfl, (List.forall_mem_cons.mpr ⟨rfl, (List.forall_mem_cons.mpr ⟨rfl, (List.forall_mem_cons.mpr ⟨rfl, zs_nil⟩)⟩)⟩)⟩)⟩) ?_
  refine zw_iload_n hX dX18_door_0 rfl ?_
  refine zw_aload_n hX dX18_door_1 rfl ?_
  obtain ⟨b1, g, h⟩ := zb_some h
  refine zw_getr hX zl_X18_12 dX18_door_2 g ?_
  obtain ⟨v2, g, h⟩ := zb_some h
  refine zw_geti hX zl_X18_196 dX18_door_5 g ?_
  obtain ⟨r4, g, h⟩ := zb_some h
  refine zc_Si (as := [.int i1, .int v2]) hX (zt_X18_isIn (d := d - 1) (by omega) g) zl_X18_207 dX18_door_8 ⟨rfl, rfl, Nat.le_of_ble_eq_true rfl⟩ ⟨by omega, by omega⟩ ?_
  refine zw_if_eq (tgt := 51) hX dX18_door_11 (by decide) (fun c11 => ?_) (fun c11 => ?_)
  · rw [if_pos c11] at h
    refine zw_sub (lv' := [(0, .ref a0), (1, .int i1), (2, .int i2), (3, .int i3), (4, .int i4)]) (List.forall_mem_cons.mpr ⟨rfl, (List.forall_mem_cons.mpr ⟨rfl, (List.forall_mem_cons.mpr ⟨rfl, (List.forall_mem_cons.mpr ⟨rfl, (List.forall_mem_cons.mpr ⟨rfl, zs_nil⟩)⟩)⟩)⟩)⟩) ?_
    exact zt_X18_door_J51 hX hr hR hd h
  · rw [if_neg c11] at h
    refine zw_iload_n hX dX18_door_14 rfl ?_
    refine zw_if_lt (tgt := 51) hX dX18_door_15 (by decide) (fun c15 => ?_) (fun c15 => ?_)
    · rw [if_pos c15] at h
      refine zw_sub (lv' := [(0, .ref a0), (1, .int i1), (2, .int i2), (3, .int i3), (4, .int i4)]) (List.forall_mem_cons.mpr ⟨rfl, (List.forall_mem_cons.mpr ⟨rfl, (List.forall_mem_cons.mpr ⟨rfl, (List.forall_mem_cons.mpr ⟨rfl, (List.forall_mem_cons.mpr ⟨rfl, zs_nil⟩)⟩)⟩)⟩)⟩) ?_
      exact zt_X18_door_J51 hX hr hR hd h
    · rw [if_neg c15] at h
      refine zw_iload_n hX dX18_door_18 rfl ?_
      refine zw_iload_n hX dX18_door_19 rfl ?_
      refine zw_icmp_ge (tgt := 51) hX dX18_door_20 (by decide) (fun c20 => ?_) (fun c20 => ?_)
      · rw [if_pos c20] at h
        refine zw_sub (lv' := [(0, .ref a0), (1, .int i1), (2, .int i2), (3, .int i3), (4, .int i4)]) (List.forall_mem_cons.mpr ⟨rfl, (List.forall_mem_cons.mpr ⟨rfl, (List.forall_mem_cons.mpr ⟨rfl, (List.forall_mem_cons.mpr ⟨rfl, (List.forall_mem_cons.mpr ⟨rfl, zs_nil⟩)⟩)⟩)⟩)⟩) ?_
        exact zt_X18_door_J51 hX hr hR hd h
      · rw [if_neg c20] at h
        refine zw_iload_n hX dX18_door_23 rfl ?_
        refine zw_aload_n hX dX18_door_24 rfl ?_
        obtain ⟨b14, g, h⟩ := zb_some h
        refine zw_getr hX zl_X18_12 dX18_door_25 g ?_
        refine zw_iload_n hX dX18_door_28 rfl ?_
        obtain ⟨_, gi, h⟩ := zb_some h
        obtain ⟨r16, g, h⟩ := zb_some h
        refine zc_Vi (as := [.int i1]) hX gi (zt_X16_lengthOf (d := d - 1) (by omega) g) zl_X18_217 rfl dX18_door_29 ⟨rfl, rfl, Nat.le_of_ble_eq_true rfl⟩ ⟨by omega, by omega⟩ ?_
        refine zw_icmp_gt (tgt := 51) hX dX18_door_32 (by decide) (fun c32 => ?_) (fun c32 => ?_)
        · rw [if_pos c32] at h
          refine zw_sub (lv' := [(0, .ref a0), (1, .int i1), (2, .int i2), (3, .int i3), (4, .int i4)]) (List.forall_mem_cons.mpr ⟨rfl, (List.forall_mem_cons.mpr ⟨rfl, (List.forall_mem_cons.mpr ⟨rfl, (List.forall_mem_cons.mpr ⟨rfl, (List.forall_mem_cons.mpr ⟨rfl, zs_nil⟩)⟩)⟩)⟩)⟩) ?_
          exact zt_X18_door_J51 hX hr hR hd h
        · rw [if_neg c32] at h
          refine zw_iload hX dX18_door_35 rfl ?_
          refine zw_iconst (v := (1 : Int32)) hX dX18_door_37 (by decide) ?_
          refine zw_icmp_lt (tgt := 51) hX dX18_door_38 (by decide) (fun c38 => ?_) (fun c38 => ?_)
          · rw [if_pos c38] at h
            refine zw_sub (lv' := [(0, .ref a0), (1, .int i1), (2, .int i2), (3, .int i3), (4, .int i4)]) (List.forall_mem_cons.mpr ⟨rfl, (List.forall_mem_cons.mpr ⟨rfl, (List.forall_mem_cons.mpr ⟨rfl, (List.forall_mem_cons.mpr ⟨rfl, (List.forall_mem_cons.mpr ⟨rfl, zs_nil⟩)⟩)⟩)⟩)⟩) ?_
            exact zt_X18_door_J51 hX hr hR hd h
          · rw [if_neg c38] at h
            refine zw_iload hX dX18_door_41 rfl ?_
            refine zw_iconst (v := (5 : Int32)) hX dX18_door_43 (by decide) ?_
            refine zw_icmp_gt (tgt := 51) hX dX18_door_44 (by decide) (fun c44 => ?_) (fun c44 => ?_)
            · rw [if_pos c44] at h
              refine zw_sub (lv' := [(0, .ref a0), (1, .int i1), (2, .int i2), (3, .int i3), (4, .int i4)]) (List.forall_mem_cons.mpr ⟨rfl, (List.forall_mem_cons.mpr ⟨rfl, (List.forall_mem_cons.mpr ⟨rfl, (List.forall_mem_cons.mpr ⟨rfl, (List.forall_mem_cons.mpr ⟨rfl, zs_nil⟩)⟩)⟩)⟩)⟩) ?_
              exact zt_X18_door_J51 hX hr hR hd h
            · rw [if_neg c44] at h
              refine zw_iconst (v := (1 : Int32)) hX dX18_door_47 (by decide) ?_
              refine zw_goto (tgt := 52) hX dX18_door_48 (by decide) ?_
              refine zw_sub (lv' := [(0, .ref a0), (1, .int i1), (2, .int i2), (3, .int i3), (4, .int i4)]) (List.forall_mem_cons.mpr ⟨rfl, (List.forall_mem_cons.mpr ⟨rfl, (List.forall_mem_cons.mpr ⟨rfl, (List.forall_mem_cons.mpr ⟨rfl, (List.forall_mem_cons.mpr ⟨rfl, zs_nil⟩)⟩)⟩)⟩)⟩) ?_
              exact zt_X18_door_J52 hX hr hR hd h
set_option maxHeartbeats 4000000 in
set_option maxRecDepth 100000 in
theorem zt_X18_find_J25 {p : Program} {l : Launch} {e : Env} {R : Room} {s : State} {m : MethodId} {args : Array Value} {below : List Frame} {meth : Method} {c : Code} {V : zm_V} {mc ms d rc rs : Nat} (hX : zm_X p R s m args meth c RX18 "find" cX18_find 1 zk_E V mc ms) (hr : meth.sig.returnType = (some .int)) (hR : R.frames = d ∧ R.locals = 64 * d) (hd : 6 ≤ d) {N : Nat} {a0 : Nat} {t0 : Nat} {t1 : Int32} {out : (Int32 × zm_S)} {S : zm_S} (h : zf_X18_find_J25 N a0 t0 t1 S = some out) : zw p l e R s m args below meth c (vx_MQ below (zm_Qc zk_E V (zo_i out)) (zm_XC zk_E V zo_x) args s mc ms (fun q => V.2.2.2.1 ≤ q)) 1 zk_E V mc ms 25 [(0, .ref a0)] [.int t1, .ref t0] S rc rs := by
  unfold zf_X18_find_J25 at h
  obtain ⟨_, gi, h⟩ := zb_some h
  obtain ⟨r3, g, h⟩ := zb_some h
  refine zc_Vi (as := [.int t1]) hX gi (zt_X18_stays (d := d - 1) (by omega) g) zl_X18_230 rfl dX18_find_25 ⟨rfl, rfl, Nat.le_of_ble_eq_true rfl⟩ ⟨by omega, by omega⟩ ?_
  refine zw_if_eq (tgt := 41) hX dX18_find_28 (by decide) (fun c28 => ?_) (fun c28 => ?_)
  · rw [if_pos c28] at h
    refine zw_iconst (v := (0 : Int32)) hX dX18_find_41 (by decide) ?_
    obtain rfl := Option.some.inj h
    exact zw_iret hX hr dX18_find_42 rfl ⟨rfl, rfl⟩
  · rw [if_neg c28] at h
    refine zw_aload_n hX dX18_find_31 rfl ?_
    obtain ⟨b4, g, h⟩ := zb_some h
    refine zw_getr hX zl_X18_12 dX18_find_32 g ?_
    obtain ⟨_, gi, h⟩ := zb_some h
    obtain ⟨r6, g, h⟩ := zb_some h
    refine zc_Vi (as := []) hX gi (zt_X16_run (d := d - 1) (by omega) g) zl_X18_234 rfl dX18_find_35 ⟨rfl, rfl, Nat.le_of_ble_eq_true rfl⟩ ⟨by omega, by omega⟩ ?_
    refine zw_goto (tgt := 42) hX dX18_find_38 (by decide) ?_
    obtain rfl := Option.some.inj h
    exact zw_iret hX hr dX18_find_42 rfl ⟨rfl, rfl⟩
set_option maxHeartbeats 4000000 in
set_option maxRecDepth 100000 in
theorem zt_X18_find_J24 {p : Program} {l : Launch} {e : Env} {R : Room} {s : State} {m : MethodId} {args : Array Value} {below : List Frame} {meth : Method} {c : Code} {V : zm_V} {mc ms d rc rs : Nat} (hX : zm_X p R s m args meth c RX18 "find" cX18_find 1 zk_E V mc ms) (hr : meth.sig.returnType = (some .int)) (hR : R.frames = d ∧ R.locals = 64 * d) (hd : 6 ≤ d) {N : Nat} {a0 : Nat} {t0 : Nat} {out : (Int32 × zm_S)} {S : zm_S} (h : zf_X18_find_J24 N a0 t0 S = some out) : zw p l e R s m args below meth c (vx_MQ below (zm_Qc zk_E V (zo_i out)) (zm_XC zk_E V zo_x) args s mc ms (fun q => V.2.2.2.1 ≤ q)) 1 zk_E V mc ms 24 [(0, .ref a0)] [.ref t0] S rc rs := by
  unfold zf_X18_find_J24 at h
  refine zw_iconst (v := (0 : Int32)) hX dX18_find_24 (by decide) ?_
  refine zw_sub (lv' := [(0, .ref a0)]) (List.forall_mem_cons.mpr ⟨rfl, zs_nil⟩) ?_
  exact zt_X18_find_J25 hX hr hR hd h
set_option maxHeartbeats 4000000 in
set_option maxRecDepth 100000 in
theorem zt_X18_find {l : Launch} {V : zm_V} {N : Nat} {S : zm_S} {out : (Int32 × zm_S)} {d : Nat} {a0 : Nat} (hd : 6 ≤ d) (h : zf_X18_find N a0 S = some out) : zm_Met l zk_E V yX18_find (.code yX18_find cX18_find 1 (some .int)) d [.ref a0] S 0 0 (zo_i out) zo_x := by
  refine zm_of (by decide +kernel) (Nat.le_of_ble_eq_true rfl) ?_
  intro p e R s m args below meth c hRR hX hr hxt
  have hR : R.frames = d ∧ R.locals = 64 * d := by rw [hRR]; exact ⟨rfl, rfl⟩
  have hX : zm_X p R s m args meth c RX18 "find" cX18_find 1 zk_E V 0 0 := hX
  unfold zf_X18_find at h
  refine zw_sub (lv' := [(0, .ref a0)]) (List.forall_mem_cons.mpr ⟨rfl, zs_nil⟩) ?_
  refine zw_aload_n hX dX18_find_0 rfl ?_
  refine zw_aload_n hX dX18_find_1 rfl ?_
  obtain ⟨v1, g, h⟩ := zb_some h
  refine zw_geti hX zl_X18_192 dX18_find_2 g ?_
  refine zw_if_ne (tgt := 24) hX dX18_find_5 (by decide) (fun c5 => ?_) (fun c5 => ?_)
  · rw [if_neg c5] at h
    refine zw_sub (lv' := [(0, .ref a0)]) (List.forall_mem_cons.mpr ⟨rfl, zs_nil⟩) ?_
    exact zt_X18_find_J24 hX hr hR hd h
  · rw [if_pos c5] at h
    refine zw_aload_n hX dX18_find_8 rfl ?_
    obtain ⟨b7, g, h⟩ := zb_some h
    refine zw_getr hX zl_X18_12 dX18_find_9 g ?_
    obtain ⟨v8, g, h⟩ := zb_some h
    refine zw_geti hX zl_X18_227 dX18_find_12 g ?_
    refine zw_bipush (v := (60 : Int32)) hX dX18_find_15 (by decide) ?_
    refine zw_icmp_ge (tgt := 24) hX dX18_find_17 (by decide) (fun c17 => ?_) (fun c17 => ?_)
    · rw [if_pos c17] at h
      refine zw_sub (lv' := [(0, .ref a0)]) (List.forall_mem_cons.mpr ⟨rfl, zs_nil⟩) ?_
      exact zt_X18_find_J24 hX hr hR hd h
    · rw [if_neg c17] at h
      refine zw_iconst (v := (1 : Int32)) hX dX18_find_20 (by decide) ?_
      refine zw_goto (tgt := 25) hX dX18_find_21 (by decide) ?_
      refine zw_sub (lv' := [(0, .ref a0)]) (List.forall_mem_cons.mpr ⟨rfl, zs_nil⟩) ?_
      exact zt_X18_find_J25 hX hr hR hd h
set_option maxHeartbeats 4000000 in
set_option maxRecDepth 100000 in
theorem zt_X18_count {l : Launch} {V : zm_V} {N : Nat} {S : zm_S} {out : (Int32 × zm_S)} {d : Nat} {a0 : Nat} {i1 : Int32} (hd : 4 ≤ d) (h : zf_X18_count N a0 i1 S = some out) : zm_Met l zk_E V yX18_count (.code yX18_count cX18_count 2 (some .int)) d [.ref a0, .int i1] S 0 0 (zo_i out) zo_x := by
  refine zm_of (by decide +kernel) (Nat.le_of_ble_eq_true rfl) ?_
  intro p e R s m args below meth c hRR hX hr hxt
  have hR : R.frames = d ∧ R.locals = 64 * d := by rw [hRR]; exact ⟨rfl, rfl⟩
  have hX : zm_X p R s m args meth c RX18 "count" cX18_count 2 zk_E V 0 0 := hX
  unfold zf_X18_count at h
  refine zw_sub (lv' := [(0, .ref a0), (1, .int i1)]) (List.forall_mem_cons.mpr ⟨rfl, (List.forall_mem_cons.mpr ⟨rfl, zs_nil⟩)⟩) ?_
  refine zw_aload_n hX dX18_count_0 rfl ?_
  refine zw_iload_n hX dX18_count_1 rfl ?_
  refine zw_iconst (v := (4 : Int32)) hX dX18_count_2 (by decide) ?_
  obtain ⟨r2, g, h⟩ := zb_some h
  refine zc_Si (as := [.int i1, .int (4 : Int32)]) hX (zt_X18_isIn (d := d - 1) (by omega) g) zl_X18_207 dX18_count_3 ⟨rfl, rfl, Nat.le_of_ble_eq_true rfl⟩ ⟨by omega, by omega⟩ ?_
  refine zw_aload_n hX dX18_count_6 rfl ?_
  obtain ⟨b3, g, h⟩ := zb_some h
  refine zw_getr hX zl_X18_12 dX18_count_7 g ?_
  obtain ⟨v4, g, h⟩ := zb_some h
  refine zw_geti hX zl_X18_238 dX18_count_10 g ?_
  obtain ⟨_, gi, h⟩ := zb_some h
  obtain ⟨r6, g, h⟩ := zb_some h
  refine zc_Vi (as := [.int r2.1, .int v4]) hX gi (zt_X18_goes (d := d - 1) (by omega) g) zl_X18_199 rfl dX18_count_13 ⟨rfl, rfl, Nat.le_of_ble_eq_true rfl⟩ ⟨by omega, by omega⟩ ?_
  refine zw_if_ne (tgt := 21) hX dX18_count_16 (by decide) (fun c16 => ?_) (fun c16 => ?_)
  · rw [if_neg c16] at h
    refine zw_iload_n hX dX18_count_21 rfl ?_
    refine zw_if_ne (tgt := 35) hX dX18_count_22 (by decide) (fun c22 => ?_) (fun c22 => ?_)
    · rw [if_neg c22] at h
      refine zw_iload_n hX dX18_count_35 rfl ?_
      refine zw_iconst (v := (1 : Int32)) hX dX18_count_36 (by decide) ?_
      refine zw_icmp_ne (tgt := 50) hX dX18_count_37 (by decide) (fun c37 => ?_) (fun c37 => ?_)
      · rw [if_neg c37] at h
        refine zw_iload_n hX dX18_count_50 rfl ?_
        refine zw_iconst (v := (2 : Int32)) hX dX18_count_51 (by decide) ?_
        refine zw_icmp_ne (tgt := 65) hX dX18_count_52 (by decide) (fun c52 => ?_) (fun c52 => ?_)
        · rw [if_neg c52] at h
          refine zw_aload_n hX dX18_count_65 rfl ?_
          obtain ⟨b7, g, h⟩ := zb_some h
          refine zw_getr hX zl_X18_12 dX18_count_66 g ?_
          obtain ⟨_, gi, h⟩ := zb_some h
          obtain ⟨r9, g, h⟩ := zb_some h
          refine zc_Vi (as := []) hX gi (zt_X16_outerSides (d := d - 1) (by omega) g) zl_X18_250 rfl dX18_count_69 ⟨rfl, rfl, Nat.le_of_ble_eq_true rfl⟩ ⟨by omega, by omega⟩ ?_
          obtain rfl := Option.some.inj h
          exact zw_iret hX hr dX18_count_72 rfl ⟨rfl, rfl⟩
        · rw [if_pos c52] at h
          refine zw_aload_n hX dX18_count_55 rfl ?_
          obtain ⟨b10, g, h⟩ := zb_some h
          refine zw_getr hX zl_X18_12 dX18_count_56 g ?_
          obtain ⟨v11, g, h⟩ := zb_some h
          refine zw_geti hX zl_X18_247 dX18_count_59 g ?_
          refine zw_goto (tgt := 72) hX dX18_count_62 (by decide) ?_
          obtain rfl := Option.some.inj h
          exact zw_iret hX hr dX18_count_72 rfl ⟨rfl, rfl⟩
      · rw [if_pos c37] at h
        refine zw_aload_n hX dX18_count_40 rfl ?_
        obtain ⟨b12, g, h⟩ := zb_some h
        refine zw_getr hX zl_X18_12 dX18_count_41 g ?_
        obtain ⟨v13, g, h⟩ := zb_some h
        refine zw_geti hX zl_X18_244 dX18_count_44 g ?_
        refine zw_goto (tgt := 72) hX dX18_count_47 (by decide) ?_
        obtain rfl := Option.some.inj h
        exact zw_iret hX hr dX18_count_72 rfl ⟨rfl, rfl⟩
    · rw [if_pos c22] at h
      refine zw_aload_n hX dX18_count_25 rfl ?_
      obtain ⟨b14, g, h⟩ := zb_some h
      refine zw_getr hX zl_X18_12 dX18_count_26 g ?_
      obtain ⟨v15, g, h⟩ := zb_some h
      refine zw_geti hX zl_X18_241 dX18_count_29 g ?_
      refine zw_goto (tgt := 72) hX dX18_count_32 (by decide) ?_
      obtain rfl := Option.some.inj h
      exact zw_iret hX hr dX18_count_72 rfl ⟨rfl, rfl⟩
  · rw [if_pos c16] at h
    refine zw_iconst (v := (0 : Int32)) hX dX18_count_19 (by decide) ?_
    obtain rfl := Option.some.inj h
    exact zw_iret hX hr dX18_count_20 rfl ⟨rfl, rfl⟩
set_option maxHeartbeats 4000000 in
set_option maxRecDepth 100000 in
theorem zt_X18_sides_J21 {p : Program} {l : Launch} {e : Env} {R : Room} {s : State} {m : MethodId} {args : Array Value} {below : List Frame} {meth : Method} {c : Code} {V : zm_V} {mc ms d rc rs : Nat} (hX : zm_X p R s m args meth c RX18 "sides" cX18_sides 3 zk_E V mc ms) (hr : meth.sig.returnType = (some .int)) (hR : R.frames = d ∧ R.locals = 64 * d) (hd : 5 ≤ d) {N : Nat} {a0 : Nat} {i1 : Int32} {i2 : Int32} {t0 : Nat} {t1 : Int32} {out : (Int32 × zm_S)} {S : zm_S} (h : zf_X18_sides_J21 N a0 i1 i2 t0 t1 S = some out) : zw p l e R s m args below meth c (vx_MQ below (zm_Qc zk_E V (zo_i out)) (zm_XC zk_E V zo_x) args s mc ms (fun q => V.2.2.2.1 ≤ q)) 3 zk_E V mc ms 21 [(0, .ref a0), (1, .int i1), (2, .int i2)] [.int t1, .ref t0] S rc rs := by
  unfold zf_X18_sides_J21 at h
  refine zw_aload_n hX dX18_sides_21 rfl ?_
  obtain ⟨b4, g, h⟩ := zb_some h
  refine zw_getr hX zl_X18_12 dX18_sides_22 g ?_
  obtain ⟨v5, g, h⟩ := zb_some h
  refine zw_geti hX zl_X18_238 dX18_sides_25 g ?_
  obtain ⟨_, gi, h⟩ := zb_some h
  obtain ⟨r7, g, h⟩ := zb_some h
  refine zc_Vi (as := [.int t1, .int v5]) hX gi (zt_X18_goes (d := d - 1) (by omega) g) zl_X18_199 rfl dX18_sides_28 ⟨rfl, rfl, Nat.le_of_ble_eq_true rfl⟩ ⟨by omega, by omega⟩ ?_
  refine zw_if_eq (tgt := 46) hX dX18_sides_31 (by decide) (fun c31 => ?_) (fun c31 => ?_)
  · rw [if_pos c31] at h
    refine zw_iconst (v := (0 : Int32)) hX dX18_sides_46 (by decide) ?_
    obtain rfl := Option.some.inj h
    exact zw_iret hX hr dX18_sides_47 rfl ⟨rfl, rfl⟩
  · rw [if_neg c31] at h
    refine zw_aload_n hX dX18_sides_34 rfl ?_
    obtain ⟨b8, g, h⟩ := zb_some h
    refine zw_getr hX zl_X18_12 dX18_sides_35 g ?_
    refine zw_iload_n hX dX18_sides_38 rfl ?_
    refine zw_iload_n hX dX18_sides_39 rfl ?_
    obtain ⟨_, gi, h⟩ := zb_some h
    obtain ⟨r10, g, h⟩ := zb_some h
    refine zc_Vi (as := [.int i1, .int i2]) hX gi (zt_X16_sides (d := d - 1) (by omega) g) zl_X18_256 rfl dX18_sides_40 ⟨rfl, rfl, Nat.le_of_ble_eq_true rfl⟩ ⟨by omega, by omega⟩ ?_
    refine zw_goto (tgt := 47) hX dX18_sides_43 (by decide) ?_
    obtain rfl := Option.some.inj h
    exact zw_iret hX hr dX18_sides_47 rfl ⟨rfl, rfl⟩
set_option maxHeartbeats 4000000 in
set_option maxRecDepth 100000 in
theorem zt_X18_sides_J20 {p : Program} {l : Launch} {e : Env} {R : Room} {s : State} {m : MethodId} {args : Array Value} {below : List Frame} {meth : Method} {c : Code} {V : zm_V} {mc ms d rc rs : Nat} (hX : zm_X p R s m args meth c RX18 "sides" cX18_sides 3 zk_E V mc ms) (hr : meth.sig.returnType = (some .int)) (hR : R.frames = d ∧ R.locals = 64 * d) (hd : 5 ≤ d) {N : Nat} {a0 : Nat} {i1 : Int32} {i2 : Int32} {t0 : Nat} {out : (Int32 × zm_S)} {S : zm_S} (h : zf_X18_sides_J20 N a0 i1 i2 t0 S = some out) : zw p l e R s m args below meth c (vx_MQ below (zm_Qc zk_E V (zo_i out)) (zm_XC zk_E V zo_x) args s mc ms (fun q => V.2.2.2.1 ≤ q)) 3 zk_E V mc ms 20 [(0, .ref a0), (1, .int i1), (2, .int i2)] [.ref t0] S rc rs := by
  unfold zf_X18_sides_J20 at h
  refine zw_iconst (v := (0 : Int32)) hX dX18_sides_20 (by decide) ?_
  refine zw_sub (lv' := [(0, .ref a0), (1, .int i1), (2, .int i2)]) (List.forall_mem_cons.mpr ⟨rfl, (List.forall_mem_cons.mpr ⟨rfl, (List.forall_mem_cons.mpr ⟨rfl, zs_nil⟩)⟩)⟩) ?_
  exact zt_X18_sides_J21 hX hr hR hd h
set_option maxHeartbeats 4000000 in
set_option maxRecDepth 100000 in
theorem zt_X18_sides {l : Launch} {V : zm_V} {N : Nat} {S : zm_S} {out : (Int32 × zm_S)} {d : Nat} {a0 : Nat} {i1 : Int32} {i2 : Int32} (hd : 5 ≤ d) (h : zf_X18_sides N a0 i1 i2 S = some out) : zm_Met l zk_E V yX18_sides (.code yX18_sides cX18_sides 3 (some .int)) d [.ref a0, .int i1, .int i2] S 0 0 (zo_i out) zo_x := by
  refine zm_of (by decide +kernel) (Nat.le_of_ble_eq_true rfl) ?_
  intro p e R s m args below meth c hRR hX hr hxt
  have hR : R.frames = d ∧ R.locals = 64 * d := by rw [hRR]; exact ⟨rfl, rfl⟩
  have hX : zm_X p R s m args meth c RX18 "sides" cX18_sides 3 zk_E V 0 0 := hX
  unfold zf_X18_sides at h
  refine zw_sub (lv' := [(0, .ref a0), (1, .int i1), (2, .int i2)]) (List.forall_mem_cons.mpr ⟨rfl, (List.forall_mem_cons.mpr ⟨rfl, (List.forall_mem_cons.mpr ⟨rfl, zs_nil⟩)⟩)⟩) ?_
  refine zw_aload_n hX dX18_sides_0 rfl ?_
  refine zw_aload_n hX dX18_sides_1 rfl ?_
  obtain ⟨b1, g, h⟩ := zb_some h
  refine zw_getr hX zl_X18_12 dX18_sides_2 g ?_
  refine zw_iload_n hX dX18_sides_5 rfl ?_
  obtain ⟨_, gi, h⟩ := zb_some h
  obtain ⟨r3, g, h⟩ := zb_some h
  refine zc_Vi (as := [.int i1]) hX gi (zt_X16_isSpace (d := d - 1) (by omega) g) zl_X18_253 rfl dX18_sides_6 ⟨rfl, rfl, Nat.le_of_ble_eq_true rfl⟩ ⟨by omega, by omega⟩ ?_
  refine zw_if_eq (tgt := 20) hX dX18_sides_9 (by decide) (fun c9 => ?_) (fun c9 => ?_)
  · rw [if_pos c9] at h
    refine zw_sub (lv' := [(0, .ref a0), (1, .int i1), (2, .int i2)]) (List.forall_mem_cons.mpr ⟨rfl, (List.forall_mem_cons.mpr ⟨rfl, (List.forall_mem_cons.mpr ⟨rfl, zs_nil⟩)⟩)⟩) ?_
    exact zt_X18_sides_J20 hX hr hR hd h
  · rw [if_neg c9] at h
    refine zw_iload_n hX dX18_sides_12 rfl ?_
    refine zw_if_lt (tgt := 20) hX dX18_sides_13 (by decide) (fun c13 => ?_) (fun c13 => ?_)
    · rw [if_pos c13] at h
      refine zw_sub (lv' := [(0, .ref a0), (1, .int i1), (2, .int i2)]) (List.forall_mem_cons.mpr ⟨rfl, (List.forall_mem_cons.mpr ⟨rfl, (List.forall_mem_cons.mpr ⟨rfl, zs_nil⟩)⟩)⟩) ?_
      exact zt_X18_sides_J20 hX hr hR hd h
    · rw [if_neg c13] at h
      refine zw_iconst (v := (1 : Int32)) hX dX18_sides_16 (by decide) ?_
      refine zw_goto (tgt := 21) hX dX18_sides_17 (by decide) ?_
      refine zw_sub (lv' := [(0, .ref a0), (1, .int i1), (2, .int i2)]) (List.forall_mem_cons.mpr ⟨rfl, (List.forall_mem_cons.mpr ⟨rfl, (List.forall_mem_cons.mpr ⟨rfl, zs_nil⟩)⟩)⟩) ?_
      exact zt_X18_sides_J21 hX hr hR hd h
set_option maxHeartbeats 4000000 in
set_option maxRecDepth 100000 in
theorem zt_X18_side_J47 {p : Program} {l : Launch} {e : Env} {R : Room} {s : State} {m : MethodId} {args : Array Value} {below : List Frame} {meth : Method} {c : Code} {V : zm_V} {mc ms d rc rs : Nat} (hX : zm_X p R s m args meth c RX18 "side" cX18_side 6 zk_E V mc ms) (hr : meth.sig.returnType = (some .int)) (hR : R.frames = d ∧ R.locals = 64 * d) (hd : 5 ≤ d) {N : Nat} {a0 : Nat} {i1 : Int32} {i2 : Int32} {i3 : Int32} {i4 : Int32} {t0 : Int32} {out : (Int32 × zm_S)} {S : zm_S} (h : zf_X18_side_J47 N a0 i1 i2 i3 i4 t0 S = some out) : zw p l e R s m args below meth c (vx_MQ below (zm_Qc zk_E V (zo_i out)) (zm_XC zk_E V zo_x) args s mc ms (fun q => V.2.2.2.1 ≤ q)) 6 zk_E V mc ms 47 [(0, .ref a0), (1, .int i1), (2, .int i2), (3, .int i3), (4, .int i4)] [.int t0] S rc rs := by
  unfold zf_X18_side_J47 at h
  refine zw_istore hX dX18_side_47 (by decide) ?_
  refine zw_aload_n hX dX18_side_49 rfl ?_
  refine zw_iload hX dX18_side_50 rfl ?_
  refine zw_aload_n hX dX18_side_52 rfl ?_
  obtain ⟨b4, g, h⟩ := zb_some h
  refine zw_getr hX zl_X18_12 dX18_side_53 g ?_
  obtain ⟨v5, g, h⟩ := zb_some h
  refine zw_geti hX zl_X18_238 dX18_side_56 g ?_
  obtain ⟨_, gi, h⟩ := zb_some h
  obtain ⟨r7, g, h⟩ := zb_some h
  refine zc_Vi (as := [.int t0, .int v5]) hX gi (zt_X18_goes (d := d - 1) (by omega) g) zl_X18_199 rfl dX18_side_59 ⟨rfl, rfl, Nat.le_of_ble_eq_true rfl⟩ ⟨by omega, by omega⟩ ?_
  refine zw_if_eq (tgt := 80) hX dX18_side_62 (by decide) (fun c62 => ?_) (fun c62 => ?_)
  · rw [if_pos c62] at h
    refine zw_iconst (v := (0 : Int32)) hX dX18_side_80 (by decide) ?_
    obtain rfl := Option.some.inj h
    exact zw_iret hX hr dX18_side_81 rfl ⟨rfl, rfl⟩
  · rw [if_neg c62] at h
    refine zw_aload_n hX dX18_side_65 rfl ?_
    obtain ⟨b8, g, h⟩ := zb_some h
    refine zw_getr hX zl_X18_12 dX18_side_66 g ?_
    refine zw_iload_n hX dX18_side_69 rfl ?_
    refine zw_iload_n hX dX18_side_70 rfl ?_
    refine zw_iload_n hX dX18_side_71 rfl ?_
    refine zw_iload hX dX18_side_72 rfl ?_
    obtain ⟨_, gi, h⟩ := zb_some h
    obtain ⟨r10, g, h⟩ := zb_some h
    refine zc_Vi (as := [.int i1, .int i2, .int i3, .int i4]) hX gi (zt_X16_side (d := d - 1) (by omega) g) zl_X18_260 rfl dX18_side_74 ⟨rfl, rfl, Nat.le_of_ble_eq_true rfl⟩ ⟨by omega, by omega⟩ ?_
    refine zw_goto (tgt := 81) hX dX18_side_77 (by decide) ?_
    obtain rfl := Option.some.inj h
    exact zw_iret hX hr dX18_side_81 rfl ⟨rfl, rfl⟩
set_option maxHeartbeats 4000000 in
set_option maxRecDepth 100000 in
theorem zt_X18_side_J46 {p : Program} {l : Launch} {e : Env} {R : Room} {s : State} {m : MethodId} {args : Array Value} {below : List Frame} {meth : Method} {c : Code} {V : zm_V} {mc ms d rc rs : Nat} (hX : zm_X p R s m args meth c RX18 "side" cX18_side 6 zk_E V mc ms) (hr : meth.sig.returnType = (some .int)) (hR : R.frames = d ∧ R.locals = 64 * d) (hd : 5 ≤ d) {N : Nat} {a0 : Nat} {i1 : Int32} {i2 : Int32} {i3 : Int32} {i4 : Int32} {out : (Int32 × zm_S)} {S : zm_S} (h : zf_X18_side_J46 N a0 i1 i2 i3 i4 S = some out) : zw p l e R s m args below meth c (vx_MQ below (zm_Qc zk_E V (zo_i out)) (zm_XC zk_E V zo_x) args s mc ms (fun q => V.2.2.2.1 ≤ q)) 6 zk_E V mc ms 46 [(0, .ref a0), (1, .int i1), (2, .int i2), (3, .int i3), (4, .int i4)] [] S rc rs := by
  unfold zf_X18_side_J46 at h
  refine zw_iconst (v := (0 : Int32)) hX dX18_side_46 (by decide) ?_
  refine zw_sub (lv' := [(0, .ref a0), (1, .int i1), (2, .int i2), (3, .int i3), (4, .int i4)]) (List.forall_mem_cons.mpr ⟨rfl, (List.forall_mem_cons.mpr ⟨rfl, (List.forall_mem_cons.mpr ⟨rfl, (List.forall_mem_cons.mpr ⟨rfl, (List.forall_mem_cons.mpr ⟨rfl, zs_nil⟩)⟩)⟩)⟩)⟩) ?_
  exact zt_X18_side_J47 hX hr hR hd h
set_option maxHeartbeats 4000000 in
set_option maxRecDepth 100000 in
theorem zt_X18_side {l : Launch} {V : zm_V} {N : Nat} {S : zm_S} {out : (Int32 × zm_S)} {d : Nat} {a0 : Nat} {i1 : Int32} {i2 : Int32} {i3 : Int32} {i4 : Int32} (hd : 5 ≤ d) (h : zf_X18_side N a0 i1 i2 i3 i4 S = some out) : zm_Met l zk_E V yX18_side (.code yX18_side cX18_side 6 (some .int)) d [.ref a0, .int i1, .int i2, .int i3, .int i4] S 0 0 (zo_i out) zo_x := by
  refine zm_of (by decide +kernel) (Nat.le_of_ble_eq_true rfl) ?_
  intro p e R s m args below meth c hRR hX hr hxt
  have hR : R.frames = d ∧ R.locals = 64 * d := by rw [hRR]; exact ⟨rfl, rfl⟩
  have hX : zm_X p R s m args meth c RX18 "side" cX18_side 6 zk_E V 0 0 := hX
  unfold zf_X18_side at h
  refine zw_sub (lv' := [(0, .ref a0), (1, .int i1), (2, .int i2), (3, .int i3), (4, .int i4)]) (List.forall_mem_cons.mpr ⟨rfl, (List.forall_mem_cons.mpr ⟨rfl, (List.forall_mem_cons.mpr ⟨rfl, (List.forall_mem_cons.mpr ⟨rfl, (List.forall_mem_cons.mpr ⟨rfl, zs_nil⟩)⟩)⟩)⟩)⟩) ?_
  refine zw_aload_n hX dX18_side_0 rfl ?_
  obtain ⟨b1, g, h⟩ := zb_some h
  refine zw_getr hX zl_X18_12 dX18_side_1 g ?_
  refine zw_iload_n hX dX18_side_4 rfl ?_
  obtain ⟨_, gi, h⟩ := zb_some h
  obtain ⟨r3, g, h⟩ := zb_some h
  refine zc_Vi (as := [.int i1]) hX gi (zt_X16_isSpace (d := d - 1) (by omega) g) zl_X18_253 rfl dX18_side_5 ⟨rfl, rfl, Nat.le_of_ble_eq_true rfl⟩ ⟨by omega, by omega⟩ ?_
  refine zw_if_eq (tgt := 46) hX dX18_side_8 (by decide) (fun c8 => ?_) (fun c8 => ?_)
  · rw [if_pos c8] at h
    refine zw_sub (lv' := [(0, .ref a0), (1, .int i1), (2, .int i2), (3, .int i3), (4, .int i4)]) (List.forall_mem_cons.mpr ⟨rfl, (List.forall_mem_cons.mpr ⟨rfl, (List.forall_mem_cons.mpr ⟨rfl, (List.forall_mem_cons.mpr ⟨rfl, (List.forall_mem_cons.mpr ⟨rfl, zs_nil⟩)⟩)⟩)⟩)⟩) ?_
    exact zt_X18_side_J46 hX hr hR hd h
  · rw [if_neg c8] at h
    refine zw_iload_n hX dX18_side_11 rfl ?_
    refine zw_if_lt (tgt := 46) hX dX18_side_12 (by decide) (fun c12 => ?_) (fun c12 => ?_)
    · rw [if_pos c12] at h
      refine zw_sub (lv' := [(0, .ref a0), (1, .int i1), (2, .int i2), (3, .int i3), (4, .int i4)]) (List.forall_mem_cons.mpr ⟨rfl, (List.forall_mem_cons.mpr ⟨rfl, (List.forall_mem_cons.mpr ⟨rfl, (List.forall_mem_cons.mpr ⟨rfl, (List.forall_mem_cons.mpr ⟨rfl, zs_nil⟩)⟩)⟩)⟩)⟩) ?_
      exact zt_X18_side_J46 hX hr hR hd h
    · rw [if_neg c12] at h
      refine zw_iload_n hX dX18_side_15 rfl ?_
      refine zw_if_lt (tgt := 46) hX dX18_side_16 (by decide) (fun c16 => ?_) (fun c16 => ?_)
      · rw [if_pos c16] at h
        refine zw_sub (lv' := [(0, .ref a0), (1, .int i1), (2, .int i2), (3, .int i3), (4, .int i4)]) (List.forall_mem_cons.mpr ⟨rfl, (List.forall_mem_cons.mpr ⟨rfl, (List.forall_mem_cons.mpr ⟨rfl, (List.forall_mem_cons.mpr ⟨rfl, (List.forall_mem_cons.mpr ⟨rfl, zs_nil⟩)⟩)⟩)⟩)⟩) ?_
        exact zt_X18_side_J46 hX hr hR hd h
      · rw [if_neg c16] at h
        refine zw_iload_n hX dX18_side_19 rfl ?_
        refine zw_aload_n hX dX18_side_20 rfl ?_
        obtain ⟨b11, g, h⟩ := zb_some h
        refine zw_getr hX zl_X18_12 dX18_side_21 g ?_
        refine zw_iload_n hX dX18_side_24 rfl ?_
        refine zw_iload_n hX dX18_side_25 rfl ?_
        obtain ⟨_, gi, h⟩ := zb_some h
        obtain ⟨r13, g, h⟩ := zb_some h
        refine zc_Vi (as := [.int i1, .int i2]) hX gi (zt_X16_sides (d := d - 1) (by omega) g) zl_X18_256 rfl dX18_side_26 ⟨rfl, rfl, Nat.le_of_ble_eq_true rfl⟩ ⟨by omega, by omega⟩ ?_
        refine zw_icmp_ge (tgt := 46) hX dX18_side_29 (by decide) (fun c29 => ?_) (fun c29 => ?_)
        · rw [if_pos c29] at h
          refine zw_sub (lv' := [(0, .ref a0), (1, .int i1), (2, .int i2), (3, .int i3), (4, .int i4)]) (List.forall_mem_cons.mpr ⟨rfl, (List.forall_mem_cons.mpr ⟨rfl, (List.forall_mem_cons.mpr ⟨rfl, (List.forall_mem_cons.mpr ⟨rfl, (List.forall_mem_cons.mpr ⟨rfl, zs_nil⟩)⟩)⟩)⟩)⟩) ?_
          exact zt_X18_side_J46 hX hr hR hd h
        · rw [if_neg c29] at h
          refine zw_iload hX dX18_side_32 rfl ?_
          refine zw_bipush (v := (6 : Int32)) hX dX18_side_34 (by decide) ?_
          obtain ⟨r15, g, h⟩ := zb_some h
          refine zc_Si (as := [.int i4, .int (6 : Int32)]) hX (zt_X18_isIn (d := d - 1) (by omega) g) zl_X18_207 dX18_side_36 ⟨rfl, rfl, Nat.le_of_ble_eq_true rfl⟩ ⟨by omega, by omega⟩ ?_
          refine zw_if_eq (tgt := 46) hX dX18_side_39 (by decide) (fun c39 => ?_) (fun c39 => ?_)
          · rw [if_pos c39] at h
            refine zw_sub (lv' := [(0, .ref a0), (1, .int i1), (2, .int i2), (3, .int i3), (4, .int i4)]) (List.forall_mem_cons.mpr ⟨rfl, (List.forall_mem_cons.mpr ⟨rfl, (List.forall_mem_cons.mpr ⟨rfl, (List.forall_mem_cons.mpr ⟨rfl, (List.forall_mem_cons.mpr ⟨rfl, zs_nil⟩)⟩)⟩)⟩)⟩) ?_
            exact zt_X18_side_J46 hX hr hR hd h
          · rw [if_neg c39] at h
            refine zw_iconst (v := (1 : Int32)) hX dX18_side_42 (by decide) ?_
            refine zw_goto (tgt := 47) hX dX18_side_43 (by decide) ?_
            refine zw_sub (lv' := [(0, .ref a0), (1, .int i1), (2, .int i2), (3, .int i3), (4, .int i4)]) (List.forall_mem_cons.mpr ⟨rfl, (List.forall_mem_cons.mpr ⟨rfl, (List.forall_mem_cons.mpr ⟨rfl, (List.forall_mem_cons.mpr ⟨rfl, (List.forall_mem_cons.mpr ⟨rfl, zs_nil⟩)⟩)⟩)⟩)⟩) ?_
            exact zt_X18_side_J47 hX hr hR hd h
set_option maxHeartbeats 4000000 in
set_option maxRecDepth 100000 in
theorem zt_X18_size_J25 {p : Program} {l : Launch} {e : Env} {R : Room} {s : State} {m : MethodId} {args : Array Value} {below : List Frame} {meth : Method} {c : Code} {V : zm_V} {mc ms d rc rs : Nat} (hX : zm_X p R s m args meth c RX18 "size" cX18_size 3 zk_E V mc ms) (hr : meth.sig.returnType = (some .int)) (hR : R.frames = d ∧ R.locals = 64 * d) (hd : 5 ≤ d) {N : Nat} {a0 : Nat} {i1 : Int32} {i2 : Int32} {t0 : Nat} {t1 : Int32} {out : (Int32 × zm_S)} {S : zm_S} (h : zf_X18_size_J25 N a0 i1 i2 t0 t1 S = some out) : zw p l e R s m args below meth c (vx_MQ below (zm_Qc zk_E V (zo_i out)) (zm_XC zk_E V zo_x) args s mc ms (fun q => V.2.2.2.1 ≤ q)) 3 zk_E V mc ms 25 [(0, .ref a0), (1, .int i1), (2, .int i2)] [.int t1, .ref t0] S rc rs := by
  unfold zf_X18_size_J25 at h
  refine zw_aload_n hX dX18_size_25 rfl ?_
  obtain ⟨b4, g, h⟩ := zb_some h
  refine zw_getr hX zl_X18_12 dX18_size_26 g ?_
  obtain ⟨v5, g, h⟩ := zb_some h
  refine zw_geti hX zl_X18_238 dX18_size_29 g ?_
  obtain ⟨_, gi, h⟩ := zb_some h
  obtain ⟨r7, g, h⟩ := zb_some h
  refine zc_Vi (as := [.int t1, .int v5]) hX gi (zt_X18_goes (d := d - 1) (by omega) g) zl_X18_199 rfl dX18_size_32 ⟨rfl, rfl, Nat.le_of_ble_eq_true rfl⟩ ⟨by omega, by omega⟩ ?_
  refine zw_if_eq (tgt := 50) hX dX18_size_35 (by decide) (fun c35 => ?_) (fun c35 => ?_)
  · rw [if_pos c35] at h
    refine zw_iconst (v := (0 : Int32)) hX dX18_size_50 (by decide) ?_
    obtain rfl := Option.some.inj h
    exact zw_iret hX hr dX18_size_51 rfl ⟨rfl, rfl⟩
  · rw [if_neg c35] at h
    refine zw_aload_n hX dX18_size_38 rfl ?_
    obtain ⟨b8, g, h⟩ := zb_some h
    refine zw_getr hX zl_X18_12 dX18_size_39 g ?_
    refine zw_iload_n hX dX18_size_42 rfl ?_
    refine zw_iload_n hX dX18_size_43 rfl ?_
    obtain ⟨_, gi, h⟩ := zb_some h
    obtain ⟨r10, g, h⟩ := zb_some h
    refine zc_Vi (as := [.int i1, .int i2]) hX gi (zt_X16_size (d := d - 1) (by omega) g) zl_X18_263 rfl dX18_size_44 ⟨rfl, rfl, Nat.le_of_ble_eq_true rfl⟩ ⟨by omega, by omega⟩ ?_
    refine zw_goto (tgt := 51) hX dX18_size_47 (by decide) ?_
    obtain rfl := Option.some.inj h
    exact zw_iret hX hr dX18_size_51 rfl ⟨rfl, rfl⟩
set_option maxHeartbeats 4000000 in
set_option maxRecDepth 100000 in
theorem zt_X18_size_J24 {p : Program} {l : Launch} {e : Env} {R : Room} {s : State} {m : MethodId} {args : Array Value} {below : List Frame} {meth : Method} {c : Code} {V : zm_V} {mc ms d rc rs : Nat} (hX : zm_X p R s m args meth c RX18 "size" cX18_size 3 zk_E V mc ms) (hr : meth.sig.returnType = (some .int)) (hR : R.frames = d ∧ R.locals = 64 * d) (hd : 5 ≤ d) {N : Nat} {a0 : Nat} {i1 : Int32} {i2 : Int32} {t0 : Nat} {out : (Int32 × zm_S)} {S : zm_S} (h : zf_X18_size_J24 N a0 i1 i2 t0 S = some out) : zw p l e R s m args below meth c (vx_MQ below (zm_Qc zk_E V (zo_i out)) (zm_XC zk_E V zo_x) args s mc ms (fun q => V.2.2.2.1 ≤ q)) 3 zk_E V mc ms 24 [(0, .ref a0), (1, .int i1), (2, .int i2)] [.ref t0] S rc rs := by
  unfold zf_X18_size_J24 at h
  refine zw_iconst (v := (0 : Int32)) hX dX18_size_24 (by decide) ?_
  refine zw_sub (lv' := [(0, .ref a0), (1, .int i1), (2, .int i2)]) (List.forall_mem_cons.mpr ⟨rfl, (List.forall_mem_cons.mpr ⟨rfl, (List.forall_mem_cons.mpr ⟨rfl, zs_nil⟩)⟩)⟩) ?_
  exact zt_X18_size_J25 hX hr hR hd h
set_option maxHeartbeats 4000000 in
set_option maxRecDepth 100000 in
theorem zt_X18_size {l : Launch} {V : zm_V} {N : Nat} {S : zm_S} {out : (Int32 × zm_S)} {d : Nat} {a0 : Nat} {i1 : Int32} {i2 : Int32} (hd : 5 ≤ d) (h : zf_X18_size N a0 i1 i2 S = some out) : zm_Met l zk_E V yX18_size (.code yX18_size cX18_size 3 (some .int)) d [.ref a0, .int i1, .int i2] S 0 0 (zo_i out) zo_x := by
  refine zm_of (by decide +kernel) (Nat.le_of_ble_eq_true rfl) ?_
  intro p e R s m args below meth c hRR hX hr hxt
  have hR : R.frames = d ∧ R.locals = 64 * d := by rw [hRR]; exact ⟨rfl, rfl⟩
  have hX : zm_X p R s m args meth c RX18 "size" cX18_size 3 zk_E V 0 0 := hX
  unfold zf_X18_size at h
  refine zw_sub (lv' := [(0, .ref a0), (1, .int i1), (2, .int i2)]) (List.forall_mem_cons.mpr ⟨rfl, (List.forall_mem_cons.mpr ⟨rfl, (List.forall_mem_cons.mpr ⟨rfl, zs_nil⟩)⟩)⟩) ?_
  refine zw_aload_n hX dX18_size_0 rfl ?_
  refine zw_aload_n hX dX18_size_1 rfl ?_
  obtain ⟨b1, g, h⟩ := zb_some h
  refine zw_getr hX zl_X18_12 dX18_size_2 g ?_
  refine zw_iload_n hX dX18_size_5 rfl ?_
  obtain ⟨_, gi, h⟩ := zb_some h
  obtain ⟨r3, g, h⟩ := zb_some h
  refine zc_Vi (as := [.int i1]) hX gi (zt_X16_isSpace (d := d - 1) (by omega) g) zl_X18_253 rfl dX18_size_6 ⟨rfl, rfl, Nat.le_of_ble_eq_true rfl⟩ ⟨by omega, by omega⟩ ?_
  refine zw_if_eq (tgt := 24) hX dX18_size_9 (by decide) (fun c9 => ?_) (fun c9 => ?_)
  · rw [if_pos c9] at h
    refine zw_sub (lv' := [(0, .ref a0), (1, .int i1), (2, .int i2)]) (List.forall_mem_cons.mpr ⟨rfl, (List.forall_mem_cons.mpr ⟨rfl, (List.forall_mem_cons.mpr ⟨rfl, zs_nil⟩)⟩)⟩) ?_
    exact zt_X18_size_J24 hX hr hR hd h
  · rw [if_neg c9] at h
    refine zw_iload_n hX dX18_size_12 rfl ?_
    refine zw_iconst (v := (3 : Int32)) hX dX18_size_13 (by decide) ?_
    obtain ⟨r12, g, h⟩ := zb_some h
    refine zc_Si (as := [.int i2, .int (3 : Int32)]) hX (zt_X18_isIn (d := d - 1) (by omega) g) zl_X18_207 dX18_size_14 ⟨rfl, rfl, Nat.le_of_ble_eq_true rfl⟩ ⟨by omega, by omega⟩ ?_
    refine zw_if_eq (tgt := 24) hX dX18_size_17 (by decide) (fun c17 => ?_) (fun c17 => ?_)
    · rw [if_pos c17] at h
      refine zw_sub (lv' := [(0, .ref a0), (1, .int i1), (2, .int i2)]) (List.forall_mem_cons.mpr ⟨rfl, (List.forall_mem_cons.mpr ⟨rfl, (List.forall_mem_cons.mpr ⟨rfl, zs_nil⟩)⟩)⟩) ?_
      exact zt_X18_size_J24 hX hr hR hd h
    · rw [if_neg c17] at h
      refine zw_iconst (v := (1 : Int32)) hX dX18_size_20 (by decide) ?_
      refine zw_goto (tgt := 25) hX dX18_size_21 (by decide) ?_
      refine zw_sub (lv' := [(0, .ref a0), (1, .int i1), (2, .int i2)]) (List.forall_mem_cons.mpr ⟨rfl, (List.forall_mem_cons.mpr ⟨rfl, (List.forall_mem_cons.mpr ⟨rfl, zs_nil⟩)⟩)⟩) ?_
      exact zt_X18_size_J25 hX hr hR hd h
set_option maxHeartbeats 4000000 in
set_option maxRecDepth 100000 in
theorem zt_X18_isCell {l : Launch} {V : zm_V} {N : Nat} {S : zm_S} {out : (Int32 × zm_S)} {d : Nat} {i0 : Int32} {i1 : Int32} (hd : 2 ≤ d) (h : zf_X18_isCell N i0 i1 S = some out) : zm_Met l zk_E V yX18_isCell (.code yX18_isCell cX18_isCell 2 (some .boolean)) d [.int i0, .int i1] S 0 0 (zo_i out) zo_x := by
  refine zm_of (by decide +kernel) (Nat.le_of_ble_eq_true rfl) ?_
  intro p e R s m args below meth c hRR hX hr hxt
  have hR : R.frames = d ∧ R.locals = 64 * d := by rw [hRR]; exact ⟨rfl, rfl⟩
  have hX : zm_X p R s m args meth c RX18 "isCell" cX18_isCell 2 zk_E V 0 0 := hX
  unfold zf_X18_isCell at h
  refine zw_sub (lv' := [(0, .int i0), (1, .int i1)]) (List.forall_mem_cons.mpr ⟨rfl, (List.forall_mem_cons.mpr ⟨rfl, zs_nil⟩)⟩) ?_
  refine zw_iload_n hX dX18_isCell_0 rfl ?_
  refine zw_bipush (v := (24 : Int32)) hX dX18_isCell_1 (by decide) ?_
  obtain ⟨r2, g, h⟩ := zb_some h
  refine zc_Si (as := [.int i0, .int (24 : Int32)]) hX (zt_X18_isIn (d := d - 1) (by omega) g) zl_X18_207 dX18_isCell_3 ⟨rfl, rfl, Nat.le_of_ble_eq_true rfl⟩ ⟨by omega, by omega⟩ ?_
  refine zw_if_eq (tgt := 22) hX dX18_isCell_6 (by decide) (fun c6 => ?_) (fun c6 => ?_)
  · rw [if_pos c6] at h
    refine zw_iconst (v := (0 : Int32)) hX dX18_isCell_22 (by decide) ?_
    obtain rfl := Option.some.inj h
    exact zw_iret hX hr dX18_isCell_23 rfl ⟨rfl, rfl⟩
  · rw [if_neg c6] at h
    refine zw_iload_n hX dX18_isCell_9 rfl ?_
    refine zw_bipush (v := (24 : Int32)) hX dX18_isCell_10 (by decide) ?_
    obtain ⟨r4, g, h⟩ := zb_some h
    refine zc_Si (as := [.int i1, .int (24 : Int32)]) hX (zt_X18_isIn (d := d - 1) (by omega) g) zl_X18_207 dX18_isCell_12 ⟨rfl, rfl, Nat.le_of_ble_eq_true rfl⟩ ⟨by omega, by omega⟩ ?_
    refine zw_if_eq (tgt := 22) hX dX18_isCell_15 (by decide) (fun c15 => ?_) (fun c15 => ?_)
    · rw [if_pos c15] at h
      refine zw_iconst (v := (0 : Int32)) hX dX18_isCell_22 (by decide) ?_
      obtain rfl := Option.some.inj h
      exact zw_iret hX hr dX18_isCell_23 rfl ⟨rfl, rfl⟩
    · rw [if_neg c15] at h
      refine zw_iconst (v := (1 : Int32)) hX dX18_isCell_18 (by decide) ?_
      refine zw_goto (tgt := 23) hX dX18_isCell_19 (by decide) ?_
      obtain rfl := Option.some.inj h
      exact zw_iret hX hr dX18_isCell_23 rfl ⟨rfl, rfl⟩
set_option maxHeartbeats 4000000 in
set_option maxRecDepth 100000 in
theorem zt_X18_at {l : Launch} {V : zm_V} {N : Nat} {S : zm_S} {out : (Int32 × zm_S)} {d : Nat} {a0 : Nat} {i1 : Int32} {i2 : Int32} (hd : 3 ≤ d) (h : zf_X18_at N a0 i1 i2 S = some out) : zm_Met l zk_E V yX18_at (.code yX18_at cX18_at 3 (some .int)) d [.ref a0, .int i1, .int i2] S 0 0 (zo_i out) zo_x := by
  refine zm_of (by decide +kernel) (Nat.le_of_ble_eq_true rfl) ?_
  intro p e R s m args below meth c hRR hX hr hxt
  have hR : R.frames = d ∧ R.locals = 64 * d := by rw [hRR]; exact ⟨rfl, rfl⟩
  have hX : zm_X p R s m args meth c RX18 "at" cX18_at 3 zk_E V 0 0 := hX
  unfold zf_X18_at at h
  refine zw_sub (lv' := [(0, .ref a0), (1, .int i1), (2, .int i2)]) (List.forall_mem_cons.mpr ⟨rfl, (List.forall_mem_cons.mpr ⟨rfl, (List.forall_mem_cons.mpr ⟨rfl, zs_nil⟩)⟩)⟩) ?_
  refine zw_aload_n hX dX18_at_0 rfl ?_
  refine zw_iload_n hX dX18_at_1 rfl ?_
  refine zw_iload_n hX dX18_at_2 rfl ?_
  obtain ⟨r2, g, h⟩ := zb_some h
  refine zc_Si (as := [.int i1, .int i2]) hX (zt_X18_isCell (d := d - 1) (by omega) g) zl_X18_266 dX18_at_3 ⟨rfl, rfl, Nat.le_of_ble_eq_true rfl⟩ ⟨by omega, by omega⟩ ?_
  refine zw_aload_n hX dX18_at_6 rfl ?_
  obtain ⟨b3, g, h⟩ := zb_some h
  refine zw_getr hX zl_X18_12 dX18_at_7 g ?_
  obtain ⟨v4, g, h⟩ := zb_some h
  refine zw_geti hX zl_X18_238 dX18_at_10 g ?_
  obtain ⟨_, gi, h⟩ := zb_some h
  obtain ⟨r6, g, h⟩ := zb_some h
  refine zc_Vi (as := [.int r2.1, .int v4]) hX gi (zt_X18_goes (d := d - 1) (by omega) g) zl_X18_199 rfl dX18_at_13 ⟨rfl, rfl, Nat.le_of_ble_eq_true rfl⟩ ⟨by omega, by omega⟩ ?_
  refine zw_if_eq (tgt := 31) hX dX18_at_16 (by decide) (fun c16 => ?_) (fun c16 => ?_)
  · rw [if_pos c16] at h
    refine zw_iconst (v := (0 : Int32)) hX dX18_at_31 (by decide) ?_
    obtain rfl := Option.some.inj h
    exact zw_iret hX hr dX18_at_32 rfl ⟨rfl, rfl⟩
  · rw [if_neg c16] at h
    refine zw_aload_n hX dX18_at_19 rfl ?_
    obtain ⟨b7, g, h⟩ := zb_some h
    refine zw_getr hX zl_X18_12 dX18_at_20 g ?_
    refine zw_iload_n hX dX18_at_23 rfl ?_
    refine zw_iload_n hX dX18_at_24 rfl ?_
    obtain ⟨_, gi, h⟩ := zb_some h
    obtain ⟨r9, g, h⟩ := zb_some h
    refine zc_Vi (as := [.int i1, .int i2]) hX gi (zt_X16_at (d := d - 1) (by omega) g) zl_X18_269 rfl dX18_at_25 ⟨rfl, rfl, Nat.le_of_ble_eq_true rfl⟩ ⟨by omega, by omega⟩ ?_
    refine zw_goto (tgt := 32) hX dX18_at_28 (by decide) ?_
    obtain rfl := Option.some.inj h
    exact zw_iret hX hr dX18_at_32 rfl ⟨rfl, rfl⟩
set_option maxHeartbeats 4000000 in
set_option maxRecDepth 100000 in
theorem zt_X18_between_J28 {p : Program} {l : Launch} {e : Env} {R : Room} {s : State} {m : MethodId} {args : Array Value} {below : List Frame} {meth : Method} {c : Code} {V : zm_V} {mc ms d rc rs : Nat} (hX : zm_X p R s m args meth c RX18 "between" cX18_between 3 zk_E V mc ms) (hr : meth.sig.returnType = (some .int)) (hR : R.frames = d ∧ R.locals = 64 * d) (hd : 6 ≤ d) {N : Nat} {a0 : Nat} {i1 : Int32} {i2 : Int32} {t0 : Nat} {t1 : Int32} {out : (Int32 × zm_S)} {S : zm_S} (h : zf_X18_between_J28 N a0 i1 i2 t0 t1 S = some out) : zw p l e R s m args below meth c (vx_MQ below (zm_Qc zk_E V (zo_i out)) (zm_XC zk_E V zo_x) args s mc ms (fun q => V.2.2.2.1 ≤ q)) 3 zk_E V mc ms 28 [(0, .ref a0), (1, .int i1), (2, .int i2)] [.int t1, .ref t0] S rc rs := by
  unfold zf_X18_between_J28 at h
  refine zw_aload_n hX dX18_between_28 rfl ?_
  obtain ⟨b4, g, h⟩ := zb_some h
  refine zw_getr hX zl_X18_12 dX18_between_29 g ?_
  obtain ⟨v5, g, h⟩ := zb_some h
  refine zw_geti hX zl_X18_238 dX18_between_32 g ?_
  obtain ⟨_, gi, h⟩ := zb_some h
  obtain ⟨r7, g, h⟩ := zb_some h
  refine zc_Vi (as := [.int t1, .int v5]) hX gi (zt_X18_goes (d := d - 1) (by omega) g) zl_X18_199 rfl dX18_between_35 ⟨rfl, rfl, Nat.le_of_ble_eq_true rfl⟩ ⟨by omega, by omega⟩ ?_
  refine zw_if_eq (tgt := 53) hX dX18_between_38 (by decide) (fun c38 => ?_) (fun c38 => ?_)
  · rw [if_pos c38] at h
    refine zw_iconst (v := (0 : Int32)) hX dX18_between_53 (by decide) ?_
    obtain rfl := Option.some.inj h
    exact zw_iret hX hr dX18_between_54 rfl ⟨rfl, rfl⟩
  · rw [if_neg c38] at h
    refine zw_aload_n hX dX18_between_41 rfl ?_
    obtain ⟨b8, g, h⟩ := zb_some h
    refine zw_getr hX zl_X18_12 dX18_between_42 g ?_
    refine zw_iload_n hX dX18_between_45 rfl ?_
    refine zw_iload_n hX dX18_between_46 rfl ?_
    obtain ⟨_, gi, h⟩ := zb_some h
    obtain ⟨r10, g, h⟩ := zb_some h
    refine zc_Vi (as := [.int i1, .int i2]) hX gi (zt_X16_between (d := d - 1) (by omega) g) zl_X18_275 rfl dX18_between_47 ⟨rfl, rfl, Nat.le_of_ble_eq_true rfl⟩ ⟨by omega, by omega⟩ ?_
    refine zw_goto (tgt := 54) hX dX18_between_50 (by decide) ?_
    obtain rfl := Option.some.inj h
    exact zw_iret hX hr dX18_between_54 rfl ⟨rfl, rfl⟩
set_option maxHeartbeats 4000000 in
set_option maxRecDepth 100000 in
theorem zt_X18_between_J27 {p : Program} {l : Launch} {e : Env} {R : Room} {s : State} {m : MethodId} {args : Array Value} {below : List Frame} {meth : Method} {c : Code} {V : zm_V} {mc ms d rc rs : Nat} (hX : zm_X p R s m args meth c RX18 "between" cX18_between 3 zk_E V mc ms) (hr : meth.sig.returnType = (some .int)) (hR : R.frames = d ∧ R.locals = 64 * d) (hd : 6 ≤ d) {N : Nat} {a0 : Nat} {i1 : Int32} {i2 : Int32} {t0 : Nat} {out : (Int32 × zm_S)} {S : zm_S} (h : zf_X18_between_J27 N a0 i1 i2 t0 S = some out) : zw p l e R s m args below meth c (vx_MQ below (zm_Qc zk_E V (zo_i out)) (zm_XC zk_E V zo_x) args s mc ms (fun q => V.2.2.2.1 ≤ q)) 3 zk_E V mc ms 27 [(0, .ref a0), (1, .int i1), (2, .int i2)] [.ref t0] S rc rs := by
  unfold zf_X18_between_J27 at h
  refine zw_iconst (v := (0 : Int32)) hX dX18_between_27 (by decide) ?_
  refine zw_sub (lv' := [(0, .ref a0), (1, .int i1), (2, .int i2)]) (List.forall_mem_cons.mpr ⟨rfl, (List.forall_mem_cons.mpr ⟨rfl, (List.forall_mem_cons.mpr ⟨rfl, zs_nil⟩)⟩)⟩) ?_
  exact zt_X18_between_J28 hX hr hR hd h
set_option maxHeartbeats 4000000 in
set_option maxRecDepth 100000 in
theorem zt_X18_between {l : Launch} {V : zm_V} {N : Nat} {S : zm_S} {out : (Int32 × zm_S)} {d : Nat} {a0 : Nat} {i1 : Int32} {i2 : Int32} (hd : 6 ≤ d) (h : zf_X18_between N a0 i1 i2 S = some out) : zm_Met l zk_E V yX18_between (.code yX18_between cX18_between 3 (some .int)) d [.ref a0, .int i1, .int i2] S 0 0 (zo_i out) zo_x := by
  refine zm_of (by decide +kernel) (Nat.le_of_ble_eq_true rfl) ?_
  intro p e R s m args below meth c hRR hX hr hxt
  have hR : R.frames = d ∧ R.locals = 64 * d := by rw [hRR]; exact ⟨rfl, rfl⟩
  have hX : zm_X p R s m args meth c RX18 "between" cX18_between 3 zk_E V 0 0 := hX
  unfold zf_X18_between at h
  refine zw_sub (lv' := [(0, .ref a0), (1, .int i1), (2, .int i2)]) (List.forall_mem_cons.mpr ⟨rfl, (List.forall_mem_cons.mpr ⟨rfl, (List.forall_mem_cons.mpr ⟨rfl, zs_nil⟩)⟩)⟩) ?_
  refine zw_aload_n hX dX18_between_0 rfl ?_
  refine zw_aload_n hX dX18_between_1 rfl ?_
  obtain ⟨b1, g, h⟩ := zb_some h
  refine zw_getr hX zl_X18_12 dX18_between_2 g ?_
  refine zw_iload_n hX dX18_between_5 rfl ?_
  obtain ⟨_, gi, h⟩ := zb_some h
  obtain ⟨r3, g, h⟩ := zb_some h
  refine zc_Vi (as := [.int i1]) hX gi (zt_X16_isSpace (d := d - 1) (by omega) g) zl_X18_253 rfl dX18_between_6 ⟨rfl, rfl, Nat.le_of_ble_eq_true rfl⟩ ⟨by omega, by omega⟩ ?_
  refine zw_if_eq (tgt := 27) hX dX18_between_9 (by decide) (fun c9 => ?_) (fun c9 => ?_)
  · rw [if_pos c9] at h
    refine zw_sub (lv' := [(0, .ref a0), (1, .int i1), (2, .int i2)]) (List.forall_mem_cons.mpr ⟨rfl, (List.forall_mem_cons.mpr ⟨rfl, (List.forall_mem_cons.mpr ⟨rfl, zs_nil⟩)⟩)⟩) ?_
    exact zt_X18_between_J27 hX hr hR hd h
  · rw [if_neg c9] at h
    refine zw_aload_n hX dX18_between_12 rfl ?_
    obtain ⟨b11, g, h⟩ := zb_some h
    refine zw_getr hX zl_X18_12 dX18_between_13 g ?_
    refine zw_iload_n hX dX18_between_16 rfl ?_
    obtain ⟨_, gi, h⟩ := zb_some h
    obtain ⟨r13, g, h⟩ := zb_some h
    refine zc_Vi (as := [.int i2]) hX gi (zt_X16_isAny (d := d - 1) (by omega) g) zl_X18_272 rfl dX18_between_17 ⟨rfl, rfl, Nat.le_of_ble_eq_true rfl⟩ ⟨by omega, by omega⟩ ?_
    refine zw_if_eq (tgt := 27) hX dX18_between_20 (by decide) (fun c20 => ?_) (fun c20 => ?_)
    · rw [if_pos c20] at h
      refine zw_sub (lv' := [(0, .ref a0), (1, .int i1), (2, .int i2)]) (List.forall_mem_cons.mpr ⟨rfl, (List.forall_mem_cons.mpr ⟨rfl, (List.forall_mem_cons.mpr ⟨rfl, zs_nil⟩)⟩)⟩) ?_
      exact zt_X18_between_J27 hX hr hR hd h
    · rw [if_neg c20] at h
      refine zw_iconst (v := (1 : Int32)) hX dX18_between_23 (by decide) ?_
      refine zw_goto (tgt := 28) hX dX18_between_24 (by decide) ?_
      refine zw_sub (lv' := [(0, .ref a0), (1, .int i1), (2, .int i2)]) (List.forall_mem_cons.mpr ⟨rfl, (List.forall_mem_cons.mpr ⟨rfl, (List.forall_mem_cons.mpr ⟨rfl, zs_nil⟩)⟩)⟩) ?_
      exact zt_X18_between_J28 hX hr hR hd h
set_option maxHeartbeats 4000000 in
set_option maxRecDepth 100000 in
theorem zt_X18_way_J28 {p : Program} {l : Launch} {e : Env} {R : Room} {s : State} {m : MethodId} {args : Array Value} {below : List Frame} {meth : Method} {c : Code} {V : zm_V} {mc ms d rc rs : Nat} (hX : zm_X p R s m args meth c RX18 "way" cX18_way 3 zk_E V mc ms) (hr : meth.sig.returnType = (some .int)) (hR : R.frames = d ∧ R.locals = 64 * d) (hd : 5 ≤ d) {N : Nat} {a0 : Nat} {i1 : Int32} {i2 : Int32} {t0 : Nat} {t1 : Int32} {out : (Int32 × zm_S)} {S : zm_S} (h : zf_X18_way_J28 N a0 i1 i2 t0 t1 S = some out) : zw p l e R s m args below meth c (vx_MQ below (zm_Qc zk_E V (zo_i out)) (zm_XC zk_E V zo_x) args s mc ms (fun q => V.2.2.2.1 ≤ q)) 3 zk_E V mc ms 28 [(0, .ref a0), (1, .int i1), (2, .int i2)] [.int t1, .ref t0] S rc rs := by
  unfold zf_X18_way_J28 at h
  refine zw_aload_n hX dX18_way_28 rfl ?_
  obtain ⟨b4, g, h⟩ := zb_some h
  refine zw_getr hX zl_X18_12 dX18_way_29 g ?_
  obtain ⟨v5, g, h⟩ := zb_some h
  refine zw_geti hX zl_X18_238 dX18_way_32 g ?_
  obtain ⟨_, gi, h⟩ := zb_some h
  obtain ⟨r7, g, h⟩ := zb_some h
  refine zc_Vi (as := [.int t1, .int v5]) hX gi (zt_X18_goes (d := d - 1) (by omega) g) zl_X18_199 rfl dX18_way_35 ⟨rfl, rfl, Nat.le_of_ble_eq_true rfl⟩ ⟨by omega, by omega⟩ ?_
  refine zw_if_eq (tgt := 53) hX dX18_way_38 (by decide) (fun c38 => ?_) (fun c38 => ?_)
  · rw [if_pos c38] at h
    refine zw_iconst (v := (0 : Int32)) hX dX18_way_53 (by decide) ?_
    obtain rfl := Option.some.inj h
    exact zw_iret hX hr dX18_way_54 rfl ⟨rfl, rfl⟩
  · rw [if_neg c38] at h
    refine zw_aload_n hX dX18_way_41 rfl ?_
    obtain ⟨b8, g, h⟩ := zb_some h
    refine zw_getr hX zl_X18_12 dX18_way_42 g ?_
    refine zw_iload_n hX dX18_way_45 rfl ?_
    refine zw_iload_n hX dX18_way_46 rfl ?_
    obtain ⟨_, gi, h⟩ := zb_some h
    obtain ⟨r10, g, h⟩ := zb_some h
    refine zc_Vi (as := [.int i1, .int i2]) hX gi (zt_X16_way (d := d - 1) (by omega) g) zl_X18_278 rfl dX18_way_47 ⟨rfl, rfl, Nat.le_of_ble_eq_true rfl⟩ ⟨by omega, by omega⟩ ?_
    refine zw_goto (tgt := 54) hX dX18_way_50 (by decide) ?_
    obtain rfl := Option.some.inj h
    exact zw_iret hX hr dX18_way_54 rfl ⟨rfl, rfl⟩
set_option maxHeartbeats 4000000 in
set_option maxRecDepth 100000 in
theorem zt_X18_way_J27 {p : Program} {l : Launch} {e : Env} {R : Room} {s : State} {m : MethodId} {args : Array Value} {below : List Frame} {meth : Method} {c : Code} {V : zm_V} {mc ms d rc rs : Nat} (hX : zm_X p R s m args meth c RX18 "way" cX18_way 3 zk_E V mc ms) (hr : meth.sig.returnType = (some .int)) (hR : R.frames = d ∧ R.locals = 64 * d) (hd : 5 ≤ d) {N : Nat} {a0 : Nat} {i1 : Int32} {i2 : Int32} {t0 : Nat} {out : (Int32 × zm_S)} {S : zm_S} (h : zf_X18_way_J27 N a0 i1 i2 t0 S = some out) : zw p l e R s m args below meth c (vx_MQ below (zm_Qc zk_E V (zo_i out)) (zm_XC zk_E V zo_x) args s mc ms (fun q => V.2.2.2.1 ≤ q)) 3 zk_E V mc ms 27 [(0, .ref a0), (1, .int i1), (2, .int i2)] [.ref t0] S rc rs := by
  unfold zf_X18_way_J27 at h
  refine zw_iconst (v := (0 : Int32)) hX dX18_way_27 (by decide) ?_
  refine zw_sub (lv' := [(0, .ref a0), (1, .int i1), (2, .int i2)]) (List.forall_mem_cons.mpr ⟨rfl, (List.forall_mem_cons.mpr ⟨rfl, (List.forall_mem_cons.mpr ⟨rfl, zs_nil⟩)⟩)⟩) ?_
  exact zt_X18_way_J28 hX hr hR hd h
set_option maxHeartbeats 4000000 in
set_option maxRecDepth 100000 in
theorem zt_X18_way {l : Launch} {V : zm_V} {N : Nat} {S : zm_S} {out : (Int32 × zm_S)} {d : Nat} {a0 : Nat} {i1 : Int32} {i2 : Int32} (hd : 5 ≤ d) (h : zf_X18_way N a0 i1 i2 S = some out) : zm_Met l zk_E V yX18_way (.code yX18_way cX18_way 3 (some .int)) d [.ref a0, .int i1, .int i2] S 0 0 (zo_i out) zo_x := by
  refine zm_of (by decide +kernel) (Nat.le_of_ble_eq_true rfl) ?_
  intro p e R s m args below meth c hRR hX hr hxt
  have hR : R.frames = d ∧ R.locals = 64 * d := by rw [hRR]; exact ⟨rfl, rfl⟩
  have hX : zm_X p R s m args meth c RX18 "way" cX18_way 3 zk_E V 0 0 := hX
  unfold zf_X18_way at h
  refine zw_sub (lv' := [(0, .ref a0), (1, .int i1), (2, .int i2)]) (List.forall_mem_cons.mpr ⟨rfl, (List.forall_mem_cons.mpr ⟨rfl, (List.forall_mem_cons.mpr ⟨rfl, zs_nil⟩)⟩)⟩) ?_
  refine zw_aload_n hX dX18_way_0 rfl ?_
  refine zw_aload_n hX dX18_way_1 rfl ?_
  obtain ⟨b1, g, h⟩ := zb_some h
  refine zw_getr hX zl_X18_12 dX18_way_2 g ?_
  refine zw_iload_n hX dX18_way_5 rfl ?_
  obtain ⟨_, gi, h⟩ := zb_some h
  obtain ⟨r3, g, h⟩ := zb_some h
  refine zc_Vi (as := [.int i1]) hX gi (zt_X16_isAny (d := d - 1) (by omega) g) zl_X18_272 rfl dX18_way_6 ⟨rfl, rfl, Nat.le_of_ble_eq_true rfl⟩ ⟨by omega, by omega⟩ ?_
  refine zw_if_eq (tgt := 27) hX dX18_way_9 (by decide) (fun c9 => ?_) (fun c9 => ?_)
  · rw [if_pos c9] at h
    refine zw_sub (lv' := [(0, .ref a0), (1, .int i1), (2, .int i2)]) (List.forall_mem_cons.mpr ⟨rfl, (List.forall_mem_cons.mpr ⟨rfl, (List.forall_mem_cons.mpr ⟨rfl, zs_nil⟩)⟩)⟩) ?_
    exact zt_X18_way_J27 hX hr hR hd h
  · rw [if_neg c9] at h
    refine zw_aload_n hX dX18_way_12 rfl ?_
    obtain ⟨b11, g, h⟩ := zb_some h
    refine zw_getr hX zl_X18_12 dX18_way_13 g ?_
    refine zw_iload_n hX dX18_way_16 rfl ?_
    obtain ⟨_, gi, h⟩ := zb_some h
    obtain ⟨r13, g, h⟩ := zb_some h
    refine zc_Vi (as := [.int i2]) hX gi (zt_X16_isAny (d := d - 1) (by omega) g) zl_X18_272 rfl dX18_way_17 ⟨rfl, rfl, Nat.le_of_ble_eq_true rfl⟩ ⟨by omega, by omega⟩ ?_
    refine zw_if_eq (tgt := 27) hX dX18_way_20 (by decide) (fun c20 => ?_) (fun c20 => ?_)
    · rw [if_pos c20] at h
      refine zw_sub (lv' := [(0, .ref a0), (1, .int i1), (2, .int i2)]) (List.forall_mem_cons.mpr ⟨rfl, (List.forall_mem_cons.mpr ⟨rfl, (List.forall_mem_cons.mpr ⟨rfl, zs_nil⟩)⟩)⟩) ?_
      exact zt_X18_way_J27 hX hr hR hd h
    · rw [if_neg c20] at h
      refine zw_iconst (v := (1 : Int32)) hX dX18_way_23 (by decide) ?_
      refine zw_goto (tgt := 28) hX dX18_way_24 (by decide) ?_
      refine zw_sub (lv' := [(0, .ref a0), (1, .int i1), (2, .int i2)]) (List.forall_mem_cons.mpr ⟨rfl, (List.forall_mem_cons.mpr ⟨rfl, (List.forall_mem_cons.mpr ⟨rfl, zs_nil⟩)⟩)⟩) ?_
      exact zt_X18_way_J28 hX hr hR hd h
set_option maxHeartbeats 4000000 in
set_option maxRecDepth 100000 in
theorem zt_X18_name_J50 {p : Program} {l : Launch} {e : Env} {R : Room} {s : State} {m : MethodId} {args : Array Value} {below : List Frame} {meth : Method} {c : Code} {V : zm_V} {mc ms d rc rs : Nat} (hX : zm_X p R s m args meth c RX18 "name" cX18_name 4 zk_E V mc ms) (hr : meth.sig.returnType = (some .int)) (hR : R.frames = d ∧ R.locals = 64 * d) (hd : 2 ≤ d) {N : Nat} {a0 : Nat} {i1 : Int32} {i2 : Int32} {t0 : Nat} {t1 : Int32} {t2 : Int32} {out : (Int32 × zm_S)} {S : zm_S} (h : zf_X18_name_J50 N a0 i1 i2 t0 t1 t2 S = some out) : zw p l e R s m args below meth c (vx_MQ below (zm_Qc zk_E V (zo_i out)) (zm_XC zk_E V zo_x) args s mc ms (fun q => V.2.2.2.1 ≤ q)) 4 zk_E V mc ms 50 [(0, .ref a0), (1, .int i1), (2, .int i2)] [.int t2, .int t1, .ref t0] S rc rs := by
  unfold zf_X18_name_J50 at h
  obtain ⟨_, gi, h⟩ := zb_some h
  obtain ⟨r7, g, h⟩ := zb_some h
  refine zc_Vi (as := [.int t1, .int t2]) hX gi (zt_X18_goes (d := d - 1) (by omega) g) zl_X18_199 rfl dX18_name_50 ⟨rfl, rfl, Nat.le_of_ble_eq_true rfl⟩ ⟨by omega, by omega⟩ ?_
  refine zw_if_ne (tgt := 58) hX dX18_name_53 (by decide) (fun c53 => ?_) (fun c53 => ?_)
  · rw [if_neg c53] at h
    refine zw_aload_n hX dX18_name_58 rfl ?_
    obtain ⟨b8, g, h⟩ := zb_some h
    refine zw_getr hX zl_X18_12 dX18_name_59 g ?_
    obtain ⟨b9, g, h⟩ := zb_some h
    refine zw_getr hX zl_X18_281 dX18_name_62 g ?_
    refine zw_iload_n hX dX18_name_65 rfl ?_
    obtain ⟨v10, g, h⟩ := zb_some h
    refine zw_xi hX dX18_name_66 g ?_
    refine zw_istore_n hX dX18_name_67 (by decide) ?_
    refine zw_aload_n hX dX18_name_68 rfl ?_
    obtain ⟨b11, g, h⟩ := zb_some h
    refine zw_getr hX zl_X18_12 dX18_name_69 g ?_
    obtain ⟨b12, g, h⟩ := zb_some h
    refine zw_getr hX zl_X18_281 dX18_name_72 g ?_
    refine zw_iload_n hX dX18_name_75 rfl ?_
    refine zw_iload_n hX dX18_name_76 rfl ?_
    obtain ⟨S13, g, h⟩ := zb_some h
    refine zw_si hX dX18_name_77 g ?_
    refine zw_iload_n hX dX18_name_78 rfl ?_
    obtain rfl := Option.some.inj h
    exact zw_iret hX hr dX18_name_79 rfl ⟨rfl, rfl⟩
  · rw [if_pos c53] at h
    refine zw_iconst (v := (0 : Int32)) hX dX18_name_56 (by decide) ?_
    obtain rfl := Option.some.inj h
    exact zw_iret hX hr dX18_name_57 rfl ⟨rfl, rfl⟩
set_option maxHeartbeats 4000000 in
set_option maxRecDepth 100000 in
theorem zt_X18_name_J49 {p : Program} {l : Launch} {e : Env} {R : Room} {s : State} {m : MethodId} {args : Array Value} {below : List Frame} {meth : Method} {c : Code} {V : zm_V} {mc ms d rc rs : Nat} (hX : zm_X p R s m args meth c RX18 "name" cX18_name 4 zk_E V mc ms) (hr : meth.sig.returnType = (some .int)) (hR : R.frames = d ∧ R.locals = 64 * d) (hd : 2 ≤ d) {N : Nat} {a0 : Nat} {i1 : Int32} {i2 : Int32} {t0 : Nat} {t1 : Int32} {out : (Int32 × zm_S)} {S : zm_S} (h : zf_X18_name_J49 N a0 i1 i2 t0 t1 S = some out) : zw p l e R s m args below meth c (vx_MQ below (zm_Qc zk_E V (zo_i out)) (zm_XC zk_E V zo_x) args s mc ms (fun q => V.2.2.2.1 ≤ q)) 4 zk_E V mc ms 49 [(0, .ref a0), (1, .int i1), (2, .int i2)] [.int t1, .ref t0] S rc rs := by
  unfold zf_X18_name_J49 at h
  refine zw_iconst (v := (0 : Int32)) hX dX18_name_49 (by decide) ?_
  refine zw_sub (lv' := [(0, .ref a0), (1, .int i1), (2, .int i2)]) (List.forall_mem_cons.mpr ⟨rfl, (List.forall_mem_cons.mpr ⟨rfl, (List.forall_mem_cons.mpr ⟨rfl, zs_nil⟩)⟩)⟩) ?_
  exact zt_X18_name_J50 hX hr hR hd h
set_option maxHeartbeats 4000000 in
set_option maxRecDepth 100000 in
theorem zt_X18_name_J28 {p : Program} {l : Launch} {e : Env} {R : Room} {s : State} {m : MethodId} {args : Array Value} {below : List Frame} {meth : Method} {c : Code} {V : zm_V} {mc ms d rc rs : Nat} (hX : zm_X p R s m args meth c RX18 "name" cX18_name 4 zk_E V mc ms) (hr : meth.sig.returnType = (some .int)) (hR : R.frames = d ∧ R.locals = 64 * d) (hd : 2 ≤ d) {N : Nat} {a0 : Nat} {i1 : Int32} {i2 : Int32} {t0 : Nat} {t1 : Int32} {out : (Int32 × zm_S)} {S : zm_S} (h : zf_X18_name_J28 N a0 i1 i2 t0 t1 S = some out) : zw p l e R s m args below meth c (vx_MQ below (zm_Qc zk_E V (zo_i out)) (zm_XC zk_E V zo_x) args s mc ms (fun q => V.2.2.2.1 ≤ q)) 4 zk_E V mc ms 28 [(0, .ref a0), (1, .int i1), (2, .int i2)] [.int t1, .ref t0] S rc rs := by
  unfold zf_X18_name_J28 at h
  refine zw_aload_n hX dX18_name_28 rfl ?_
  obtain ⟨b4, g, h⟩ := zb_some h
  refine zw_getr hX zl_X18_12 dX18_name_29 g ?_
  obtain ⟨v5, g, h⟩ := zb_some h
  refine zw_geti hX zl_X18_238 dX18_name_32 g ?_
  refine zw_if_eq (tgt := 49) hX dX18_name_35 (by decide) (fun c35 => ?_) (fun c35 => ?_)
  · rw [if_pos c35] at h
    refine zw_sub (lv' := [(0, .ref a0), (1, .int i1), (2, .int i2)]) (List.forall_mem_cons.mpr ⟨rfl, (List.forall_mem_cons.mpr ⟨rfl, (List.forall_mem_cons.mpr ⟨rfl, zs_nil⟩)⟩)⟩) ?_
    exact zt_X18_name_J49 hX hr hR hd h
  · rw [if_neg c35] at h
    refine zw_aload_n hX dX18_name_38 rfl ?_
    obtain ⟨v14, g, h⟩ := zb_some h
    refine zw_geti hX zl_X18_192 dX18_name_39 g ?_
    refine zw_if_ne (tgt := 49) hX dX18_name_42 (by decide) (fun c42 => ?_) (fun c42 => ?_)
    · rw [if_neg c42] at h
      refine zw_sub (lv' := [(0, .ref a0), (1, .int i1), (2, .int i2)]) (List.forall_mem_cons.mpr ⟨rfl, (List.forall_mem_cons.mpr ⟨rfl, (List.forall_mem_cons.mpr ⟨rfl, zs_nil⟩)⟩)⟩) ?_
      exact zt_X18_name_J49 hX hr hR hd h
    · rw [if_pos c42] at h
      refine zw_iconst (v := (1 : Int32)) hX dX18_name_45 (by decide) ?_
      refine zw_goto (tgt := 50) hX dX18_name_46 (by decide) ?_
      refine zw_sub (lv' := [(0, .ref a0), (1, .int i1), (2, .int i2)]) (List.forall_mem_cons.mpr ⟨rfl, (List.forall_mem_cons.mpr ⟨rfl, (List.forall_mem_cons.mpr ⟨rfl, zs_nil⟩)⟩)⟩) ?_
      exact zt_X18_name_J50 hX hr hR hd h
set_option maxHeartbeats 4000000 in
set_option maxRecDepth 100000 in
theorem zt_X18_name_J27 {p : Program} {l : Launch} {e : Env} {R : Room} {s : State} {m : MethodId} {args : Array Value} {below : List Frame} {meth : Method} {c : Code} {V : zm_V} {mc ms d rc rs : Nat} (hX : zm_X p R s m args meth c RX18 "name" cX18_name 4 zk_E V mc ms) (hr : meth.sig.returnType = (some .int)) (hR : R.frames = d ∧ R.locals = 64 * d) (hd : 2 ≤ d) {N : Nat} {a0 : Nat} {i1 : Int32} {i2 : Int32} {t0 : Nat} {out : (Int32 × zm_S)} {S : zm_S} (h : zf_X18_name_J27 N a0 i1 i2 t0 S = some out) : zw p l e R s m args below meth c (vx_MQ below (zm_Qc zk_E V (zo_i out)) (zm_XC zk_E V zo_x) args s mc ms (fun q => V.2.2.2.1 ≤ q)) 4 zk_E V mc ms 27 [(0, .ref a0), (1, .int i1), (2, .int i2)] [.ref t0] S rc rs := by
  unfold zf_X18_name_J27 at h
  refine zw_iconst (v := (0 : Int32)) hX dX18_name_27 (by decide) ?_
  refine zw_sub (lv' := [(0, .ref a0), (1, .int i1), (2, .int i2)]) (List.forall_mem_cons.mpr ⟨rfl, (List.forall_mem_cons.mpr ⟨rfl, (List.forall_mem_cons.mpr ⟨rfl, zs_nil⟩)⟩)⟩) ?_
  exact zt_X18_name_J28 hX hr hR hd h
set_option maxHeartbeats 4000000 in
set_option maxRecDepth 100000 in
theorem zt_X18_name {l : Launch} {V : zm_V} {N : Nat} {S : zm_S} {out : (Int32 × zm_S)} {d : Nat} {a0 : Nat} {i1 : Int32} {i2 : Int32} (hd : 2 ≤ d) (h : zf_X18_name N a0 i1 i2 S = some out) : zm_Met l zk_E V yX18_name (.code yX18_name cX18_name 4 (some .int)) d [.ref a0, .int i1, .int i2] S 0 0 (zo_i out) zo_x := by
  refine zm_of (by decide +kernel) (Nat.le_of_ble_eq_true rfl) ?_
  intro p e R s m args below meth c hRR hX hr hxt
  have hR : R.frames = d ∧ R.locals = 64 * d := by rw [hRR]; exact ⟨rfl, rfl⟩
  have hX : zm_X p R s m args meth c RX18 "name" cX18_name 4 zk_E V 0 0 := hX
  unfold zf_X18_name at h
  refine zw_sub (lv' := [(0, .ref a0), (1, .int i1), (2, .int i2)]) (List.forall_mem_cons.mpr ⟨rfl, (List.forall_mem_cons.mpr ⟨rfl, (List.forall_mem_cons.mpr ⟨rfl, zs_nil⟩)⟩)⟩) ?_
  refine zw_aload_n hX dX18_name_0 rfl ?_
  refine zw_aload_n hX dX18_name_1 rfl ?_
  obtain ⟨b1, g, h⟩ := zb_some h
  refine zw_getr hX zl_X18_12 dX18_name_2 g ?_
  refine zw_iload_n hX dX18_name_5 rfl ?_
  obtain ⟨_, gi, h⟩ := zb_some h
  obtain ⟨r3, g, h⟩ := zb_some h
  refine zc_Vi (as := [.int i1]) hX gi (zt_X16_isSpace (d := d - 1) (by omega) g) zl_X18_253 rfl dX18_name_6 ⟨rfl, rfl, Nat.le_of_ble_eq_true rfl⟩ ⟨by omega, by omega⟩ ?_
  refine zw_if_eq (tgt := 27) hX dX18_name_9 (by decide) (fun c9 => ?_) (fun c9 => ?_)
  · rw [if_pos c9] at h
    refine zw_sub (lv' := [(0, .ref a0), (1, .int i1), (2, .int i2)]) (List.forall_mem_cons.mpr ⟨rfl, (List.forall_mem_cons.mpr ⟨rfl, (List.forall_mem_cons.mpr ⟨rfl, zs_nil⟩)⟩)⟩) ?_
    exact zt_X18_name_J27 hX hr hR hd h
  · rw [if_neg c9] at h
    refine zw_iload_n hX dX18_name_12 rfl ?_
    refine zw_if_lt (tgt := 27) hX dX18_name_13 (by decide) (fun c13 => ?_) (fun c13 => ?_)
    · rw [if_pos c13] at h
      refine zw_sub (lv' := [(0, .ref a0), (1, .int i1), (2, .int i2)]) (List.forall_mem_cons.mpr ⟨rfl, (List.forall_mem_cons.mpr ⟨rfl, (List.forall_mem_cons.mpr ⟨rfl, zs_nil⟩)⟩)⟩) ?_
      exact zt_X18_name_J27 hX hr hR hd h
    · rw [if_neg c13] at h
      refine zw_iload_n hX dX18_name_16 rfl ?_
      refine zw_sipush (v := (1000 : Int32)) hX dX18_name_17 (by decide) ?_
      refine zw_icmp_gt (tgt := 27) hX dX18_name_20 (by decide) (fun c20 => ?_) (fun c20 => ?_)
      · rw [if_pos c20] at h
        refine zw_sub (lv' := [(0, .ref a0), (1, .int i1), (2, .int i2)]) (List.forall_mem_cons.mpr ⟨rfl, (List.forall_mem_cons.mpr ⟨rfl, (List.forall_mem_cons.mpr ⟨rfl, zs_nil⟩)⟩)⟩) ?_
        exact zt_X18_name_J27 hX hr hR hd h
      · rw [if_neg c20] at h
        refine zw_iconst (v := (1 : Int32)) hX dX18_name_23 (by decide) ?_
        refine zw_goto (tgt := 28) hX dX18_name_24 (by decide) ?_
        refine zw_sub (lv' := [(0, .ref a0), (1, .int i1), (2, .int i2)]) (List.forall_mem_cons.mpr ⟨rfl, (List.forall_mem_cons.mpr ⟨rfl, (List.forall_mem_cons.mpr ⟨rfl, zs_nil⟩)⟩)⟩) ?_
        exact zt_X18_name_J28 hX hr hR hd h
set_option maxHeartbeats 4000000 in
set_option maxRecDepth 100000 in
theorem zt_X18_nameOf {l : Launch} {V : zm_V} {N : Nat} {S : zm_S} {out : (Int32 × zm_S)} {d : Nat} {a0 : Nat} {i1 : Int32} (hd : 2 ≤ d) (h : zf_X18_nameOf N a0 i1 S = some out) : zm_Met l zk_E V yX18_nameOf (.code yX18_nameOf cX18_nameOf 2 (some .int)) d [.ref a0, .int i1] S 0 0 (zo_i out) zo_x := by
  refine zm_of (by decide +kernel) (Nat.le_of_ble_eq_true rfl) ?_
  intro p e R s m args below meth c hRR hX hr hxt
  have hR : R.frames = d ∧ R.locals = 64 * d := by rw [hRR]; exact ⟨rfl, rfl⟩
  have hX : zm_X p R s m args meth c RX18 "nameOf" cX18_nameOf 2 zk_E V 0 0 := hX
  unfold zf_X18_nameOf at h
  refine zw_sub (lv' := [(0, .ref a0), (1, .int i1)]) (List.forall_mem_cons.mpr ⟨rfl, (List.forall_mem_cons.mpr ⟨rfl, zs_nil⟩)⟩) ?_
  refine zw_aload_n hX dX18_nameOf_0 rfl ?_
  refine zw_aload_n hX dX18_nameOf_1 rfl ?_
  obtain ⟨b1, g, h⟩ := zb_some h
  refine zw_getr hX zl_X18_12 dX18_nameOf_2 g ?_
  refine zw_iload_n hX dX18_nameOf_5 rfl ?_
  obtain ⟨_, gi, h⟩ := zb_some h
  obtain ⟨r3, g, h⟩ := zb_some h
  refine zc_Vi (as := [.int i1]) hX gi (zt_X16_isSpace (d := d - 1) (by omega) g) zl_X18_253 rfl dX18_nameOf_6 ⟨rfl, rfl, Nat.le_of_ble_eq_true rfl⟩ ⟨by omega, by omega⟩ ?_
  refine zw_aload_n hX dX18_nameOf_9 rfl ?_
  obtain ⟨b4, g, h⟩ := zb_some h
  refine zw_getr hX zl_X18_12 dX18_nameOf_10 g ?_
  obtain ⟨v5, g, h⟩ := zb_some h
  refine zw_geti hX zl_X18_238 dX18_nameOf_13 g ?_
  obtain ⟨_, gi, h⟩ := zb_some h
  obtain ⟨r7, g, h⟩ := zb_some h
  refine zc_Vi (as := [.int r3.1, .int v5]) hX gi (zt_X18_goes (d := d - 1) (by omega) g) zl_X18_199 rfl dX18_nameOf_16 ⟨rfl, rfl, Nat.le_of_ble_eq_true rfl⟩ ⟨by omega, by omega⟩ ?_
  refine zw_if_eq (tgt := 34) hX dX18_nameOf_19 (by decide) (fun c19 => ?_) (fun c19 => ?_)
  · rw [if_pos c19] at h
    refine zw_iconst (v := (0 : Int32)) hX dX18_nameOf_34 (by decide) ?_
    obtain rfl := Option.some.inj h
    exact zw_iret hX hr dX18_nameOf_35 rfl ⟨rfl, rfl⟩
  · rw [if_neg c19] at h
    refine zw_aload_n hX dX18_nameOf_22 rfl ?_
    obtain ⟨b8, g, h⟩ := zb_some h
    refine zw_getr hX zl_X18_12 dX18_nameOf_23 g ?_
    obtain ⟨b9, g, h⟩ := zb_some h
    refine zw_getr hX zl_X18_281 dX18_nameOf_26 g ?_
    refine zw_iload_n hX dX18_nameOf_29 rfl ?_
    obtain ⟨v10, g, h⟩ := zb_some h
    refine zw_xi hX dX18_nameOf_30 g ?_
    refine zw_goto (tgt := 35) hX dX18_nameOf_31 (by decide) ?_
    obtain rfl := Option.some.inj h
    exact zw_iret hX hr dX18_nameOf_35 rfl ⟨rfl, rfl⟩
set_option maxHeartbeats 4000000 in
set_option maxRecDepth 100000 in
theorem zt_X18_say_J35 {p : Program} {l : Launch} {e : Env} {R : Room} {s : State} {m : MethodId} {args : Array Value} {below : List Frame} {meth : Method} {c : Code} {V : zm_V} {mc ms d rc rs : Nat} (hX : zm_X p R s m args meth c RX18 "say" cX18_say 4 zk_E V mc ms) (hr : meth.sig.returnType = (some .int)) (hR : R.frames = d ∧ R.locals = 64 * d) (hd : 3 ≤ d) {N : Nat} {a0 : Nat} {j1 : Int64} {t0 : Nat} {t1 : Int32} {t2 : Int32} {out : (Int32 × zm_S)} {S : zm_S} (h : zf_X18_say_J35 N a0 j1 t0 t1 t2 S = some out) : zw p l e R s m args below meth c (vx_MQ below (zm_Qc zk_E V (zo_i out)) (zm_XC zk_E V zo_x) args s mc ms (fun q => V.2.2.2.1 ≤ q)) 4 zk_E V mc ms 35 [(0, .ref a0), (1, .long j1)] [.int t2, .int t1, .ref t0] S rc rs := by
  unfold zf_X18_say_J35 at h
  obtain ⟨_, gi, h⟩ := zb_some h
  obtain ⟨r6, g, h⟩ := zb_some h
  refine zc_Vi (as := [.int t1, .int t2]) hX gi (zt_X18_goes (d := d - 1) (by omega) g) zl_X18_199 rfl dX18_say_35 ⟨rfl, rfl, Nat.le_of_ble_eq_true rfl⟩ ⟨by omega, by omega⟩ ?_
  refine zw_if_eq (tgt := 52) hX dX18_say_38 (by decide) (fun c38 => ?_) (fun c38 => ?_)
  · rw [if_pos c38] at h
    refine zw_iconst (v := (0 : Int32)) hX dX18_say_52 (by decide) ?_
    obtain rfl := Option.some.inj h
    exact zw_iret hX hr dX18_say_53 rfl ⟨rfl, rfl⟩
  · rw [if_neg c38] at h
    refine zw_aload_n hX dX18_say_41 rfl ?_
    obtain ⟨b7, g, h⟩ := zb_some h
    refine zw_getr hX zl_X18_21 dX18_say_42 g ?_
    refine zw_lload_n hX dX18_say_45 rfl ?_
    obtain ⟨_, gi, h⟩ := zb_some h
    obtain ⟨r9, g, h⟩ := zb_some h
    refine zc_Vi (as := [.long j1]) hX gi (zt_X15_say (d := d - 1) (by omega) g) zl_X18_290 rfl dX18_say_46 ⟨rfl, rfl, Nat.le_of_ble_eq_true rfl⟩ ⟨by omega, by omega⟩ ?_
    refine zw_goto (tgt := 53) hX dX18_say_49 (by decide) ?_
    obtain rfl := Option.some.inj h
    exact zw_iret hX hr dX18_say_53 rfl ⟨rfl, rfl⟩
set_option maxHeartbeats 4000000 in
set_option maxRecDepth 100000 in
theorem zt_X18_say_J15 {p : Program} {l : Launch} {e : Env} {R : Room} {s : State} {m : MethodId} {args : Array Value} {below : List Frame} {meth : Method} {c : Code} {V : zm_V} {mc ms d rc rs : Nat} (hX : zm_X p R s m args meth c RX18 "say" cX18_say 4 zk_E V mc ms) (hr : meth.sig.returnType = (some .int)) (hR : R.frames = d ∧ R.locals = 64 * d) (hd : 3 ≤ d) {N : Nat} {a0 : Nat} {j1 : Int64} {i3 : Int32} {t0 : Nat} {t1 : Int32} {out : (Int32 × zm_S)} {S : zm_S} (h : zf_X18_say_J15 N a0 j1 i3 t0 t1 S = some out) : zw p l e R s m args below meth c (vx_MQ below (zm_Qc zk_E V (zo_i out)) (zm_XC zk_E V zo_x) args s mc ms (fun q => V.2.2.2.1 ≤ q)) 4 zk_E V mc ms 15 [(0, .ref a0), (1, .long j1), (3, .int i3)] [.int t1, .ref t0] S rc rs := by
  unfold zf_X18_say_J15 at h
  refine zw_aload_n hX dX18_say_15 rfl ?_
  obtain ⟨b3, g, h⟩ := zb_some h
  refine zw_getr hX zl_X18_21 dX18_say_16 g ?_
  obtain ⟨v4, g, h⟩ := zb_some h
  refine zw_geti hX zl_X18_288 dX18_say_19 g ?_
  refine zw_iload_n hX dX18_say_22 rfl ?_
  refine zw_iadd hX dX18_say_23 ?_
  refine zw_sipush (v := (800 : Int32)) hX dX18_say_24 (by decide) ?_
  refine zw_icmp_gt (tgt := 34) hX dX18_say_27 (by decide) (fun c27 => ?_) (fun c27 => ?_)
  · rw [if_pos c27] at h
    refine zw_iconst (v := (0 : Int32)) hX dX18_say_34 (by decide) ?_
    refine zw_sub (lv' := [(0, .ref a0), (1, .long j1)]) (List.forall_mem_cons.mpr ⟨rfl, (List.forall_mem_cons.mpr ⟨rfl, zs_nil⟩)⟩) ?_
    exact zt_X18_say_J35 hX hr hR hd h
  · rw [if_neg c27] at h
    refine zw_iconst (v := (1 : Int32)) hX dX18_say_30 (by decide) ?_
    refine zw_goto (tgt := 35) hX dX18_say_31 (by decide) ?_
    refine zw_sub (lv' := [(0, .ref a0), (1, .long j1)]) (List.forall_mem_cons.mpr ⟨rfl, (List.forall_mem_cons.mpr ⟨rfl, zs_nil⟩)⟩) ?_
    exact zt_X18_say_J35 hX hr hR hd h
set_option maxHeartbeats 4000000 in
set_option maxRecDepth 100000 in
theorem zt_X18_say {l : Launch} {V : zm_V} {N : Nat} {S : zm_S} {out : (Int32 × zm_S)} {d : Nat} {a0 : Nat} {j1 : Int64} (hd : 3 ≤ d) (h : zf_X18_say N a0 j1 S = some out) : zm_Met l zk_E V yX18_say (.code yX18_say cX18_say 4 (some .int)) d [.ref a0, .long j1] S 0 0 (zo_i out) zo_x := by
  refine zm_of (by decide +kernel) (Nat.le_of_ble_eq_true rfl) ?_
  intro p e R s m args below meth c hRR hX hr hxt
  have hR : R.frames = d ∧ R.locals = 64 * d := by rw [hRR]; exact ⟨rfl, rfl⟩
  have hX : zm_X p R s m args meth c RX18 "say" cX18_say 4 zk_E V 0 0 := hX
  unfold zf_X18_say at h
  refine zw_sub (lv' := [(0, .ref a0), (1, .long j1)]) (List.forall_mem_cons.mpr ⟨rfl, (List.forall_mem_cons.mpr ⟨rfl, zs_nil⟩)⟩) ?_
  refine zw_lload_n hX dX18_say_0 rfl ?_
  obtain ⟨r2, g, h⟩ := zb_some h
  refine zc_Si (as := [.long j1]) hX (zt_X15_characters (d := d - 1) (by omega) g) zl_X18_284 dX18_say_1 ⟨rfl, rfl, Nat.le_of_ble_eq_true rfl⟩ ⟨by omega, by omega⟩ ?_
  refine zw_istore_n hX dX18_say_4 (by decide) ?_
  refine zw_aload_n hX dX18_say_5 rfl ?_
  refine zw_iload_n hX dX18_say_6 rfl ?_
  refine zw_if_lt (tgt := 14) hX dX18_say_7 (by decide) (fun c7 => ?_) (fun c7 => ?_)
  · rw [if_pos c7] at h
    refine zw_iconst (v := (0 : Int32)) hX dX18_say_14 (by decide) ?_
    refine zw_sub (lv' := [(0, .ref a0), (1, .long j1), (3, .int r2.1)]) (List.forall_mem_cons.mpr ⟨rfl, (List.forall_mem_cons.mpr ⟨rfl, (List.forall_mem_cons.mpr ⟨rfl, zs_nil⟩)⟩)⟩) ?_
    exact zt_X18_say_J15 hX hr hR hd h
  · rw [if_neg c7] at h
    refine zw_iconst (v := (1 : Int32)) hX dX18_say_10 (by decide) ?_
    refine zw_goto (tgt := 15) hX dX18_say_11 (by decide) ?_
    refine zw_sub (lv' := [(0, .ref a0), (1, .long j1), (3, .int r2.1)]) (List.forall_mem_cons.mpr ⟨rfl, (List.forall_mem_cons.mpr ⟨rfl, (List.forall_mem_cons.mpr ⟨rfl, zs_nil⟩)⟩)⟩) ?_
    exact zt_X18_say_J15 hX hr hR hd h
set_option maxHeartbeats 4000000 in
set_option maxRecDepth 100000 in
theorem zt_X18_trim_J21 {p : Program} {l : Launch} {e : Env} {R : Room} {s : State} {m : MethodId} {args : Array Value} {below : List Frame} {meth : Method} {c : Code} {V : zm_V} {mc ms d rc rs : Nat} (hX : zm_X p R s m args meth c RX18 "trim" cX18_trim 2 zk_E V mc ms) (hr : meth.sig.returnType = (some .int)) (hR : R.frames = d ∧ R.locals = 64 * d) (hd : 2 ≤ d) {N : Nat} {a0 : Nat} {i1 : Int32} {t0 : Nat} {t1 : Int32} {out : (Int32 × zm_S)} {S : zm_S} (h : zf_X18_trim_J21 N a0 i1 t0 t1 S = some out) : zw p l e R s m args below meth c (vx_MQ below (zm_Qc zk_E V (zo_i out)) (zm_XC zk_E V zo_x) args s mc ms (fun q => V.2.2.2.1 ≤ q)) 2 zk_E V mc ms 21 [(0, .ref a0), (1, .int i1)] [.int t1, .ref t0] S rc rs := by
  unfold zf_X18_trim_J21 at h
  refine zw_iconst (v := (1 : Int32)) hX dX18_trim_21 (by decide) ?_
  obtain ⟨_, gi, h⟩ := zb_some h
  obtain ⟨r2, g, h⟩ := zb_some h
  refine zc_Vi (as := [.int t1, .int (1 : Int32)]) hX gi (zt_X18_goes (d := d - 1) (by omega) g) zl_X18_199 rfl dX18_trim_22 ⟨rfl, rfl, Nat.le_of_ble_eq_true rfl⟩ ⟨by omega, by omega⟩ ?_
  refine zw_if_ne (tgt := 30) hX dX18_trim_25 (by decide) (fun c25 => ?_) (fun c25 => ?_)
  · rw [if_neg c25] at h
    refine zw_aload_n hX dX18_trim_30 rfl ?_
    obtain ⟨b3, g, h⟩ := zb_some h
    refine zw_getr hX zl_X18_21 dX18_trim_31 g ?_
    refine zw_dup hX dX18_trim_34 rfl ?_
    obtain ⟨v4, g, h⟩ := zb_some h
    refine zw_geti hX zl_X18_288 dX18_trim_35 g ?_
    refine zw_iload_n hX dX18_trim_38 rfl ?_
    refine zw_isub hX dX18_trim_39 ?_
    obtain ⟨S5, g, h⟩ := zb_some h
    refine zw_putv hX zl_X18_288 zt_15_1 dX18_trim_40 rfl rfl g ?_
    refine zw_aload_n hX dX18_trim_43 rfl ?_
    obtain ⟨b6, g, h⟩ := zb_some h
    refine zw_getr hX zl_X18_21 dX18_trim_44 g ?_
    obtain ⟨v7, g, h⟩ := zb_some h
    refine zw_geti hX zl_X18_288 dX18_trim_47 g ?_
    obtain rfl := Option.some.inj h
    exact zw_iret hX hr dX18_trim_50 rfl ⟨rfl, rfl⟩
  · rw [if_pos c25] at h
    refine zw_iconst (v := (0 : Int32)) hX dX18_trim_28 (by decide) ?_
    obtain rfl := Option.some.inj h
    exact zw_iret hX hr dX18_trim_29 rfl ⟨rfl, rfl⟩
set_option maxHeartbeats 4000000 in
set_option maxRecDepth 100000 in
theorem zt_X18_trim_J20 {p : Program} {l : Launch} {e : Env} {R : Room} {s : State} {m : MethodId} {args : Array Value} {below : List Frame} {meth : Method} {c : Code} {V : zm_V} {mc ms d rc rs : Nat} (hX : zm_X p R s m args meth c RX18 "trim" cX18_trim 2 zk_E V mc ms) (hr : meth.sig.returnType = (some .int)) (hR : R.frames = d ∧ R.locals = 64 * d) (hd : 2 ≤ d) {N : Nat} {a0 : Nat} {i1 : Int32} {t0 : Nat} {out : (Int32 × zm_S)} {S : zm_S} (h : zf_X18_trim_J20 N a0 i1 t0 S = some out) : zw p l e R s m args below meth c (vx_MQ below (zm_Qc zk_E V (zo_i out)) (zm_XC zk_E V zo_x) args s mc ms (fun q => V.2.2.2.1 ≤ q)) 2 zk_E V mc ms 20 [(0, .ref a0), (1, .int i1)] [.ref t0] S rc rs := by
  unfold zf_X18_trim_J20 at h
  refine zw_iconst (v := (0 : Int32)) hX dX18_trim_20 (by decide) ?_
  refine zw_sub (lv' := [(0, .ref a0), (1, .int i1)]) (List.forall_mem_cons.mpr ⟨rfl, (List.forall_mem_cons.mpr ⟨rfl, zs_nil⟩)⟩) ?_
  exact zt_X18_trim_J21 hX hr hR hd h
set_option maxHeartbeats 4000000 in
set_option maxRecDepth 100000 in
theorem zt_X18_trim {l : Launch} {V : zm_V} {N : Nat} {S : zm_S} {out : (Int32 × zm_S)} {d : Nat} {a0 : Nat} {i1 : Int32} (hd : 2 ≤ d) (h : zf_X18_trim N a0 i1 S = some out) : zm_Met l zk_E V yX18_trim (.code yX18_trim cX18_trim 2 (some .int)) d [.ref a0, .int i1] S 0 0 (zo_i out) zo_x := by
  refine zm_of (by decide +kernel) (Nat.le_of_ble_eq_true rfl) ?_
  intro p e R s m args below meth c hRR hX hr hxt
  have hR : R.frames = d ∧ R.locals = 64 * d := by rw [hRR]; exact ⟨rfl, rfl⟩
  have hX : zm_X p R s m args meth c RX18 "trim" cX18_trim 2 zk_E V 0 0 := hX
  unfold zf_X18_trim at h
  refine zw_sub (lv' := [(0, .ref a0), (1, .int i1)]) (List.forall_mem_cons.mpr ⟨rfl, (List.forall_mem_cons.mpr ⟨rfl, zs_nil⟩)⟩) ?_
  refine zw_aload_n hX dX18_trim_0 rfl ?_
  refine zw_iload_n hX dX18_trim_1 rfl ?_
  refine zw_if_lt (tgt := 20) hX dX18_trim_2 (by decide) (fun c2 => ?_) (fun c2 => ?_)
  · rw [if_pos c2] at h
    refine zw_sub (lv' := [(0, .ref a0), (1, .int i1)]) (List.forall_mem_cons.mpr ⟨rfl, (List.forall_mem_cons.mpr ⟨rfl, zs_nil⟩)⟩) ?_
    exact zt_X18_trim_J20 hX hr hR hd h
  · rw [if_neg c2] at h
    refine zw_iload_n hX dX18_trim_5 rfl ?_
    refine zw_aload_n hX dX18_trim_6 rfl ?_
    obtain ⟨b8, g, h⟩ := zb_some h
    refine zw_getr hX zl_X18_21 dX18_trim_7 g ?_
    obtain ⟨v9, g, h⟩ := zb_some h
    refine zw_geti hX zl_X18_288 dX18_trim_10 g ?_
    refine zw_icmp_gt (tgt := 20) hX dX18_trim_13 (by decide) (fun c13 => ?_) (fun c13 => ?_)
    · rw [if_pos c13] at h
      refine zw_sub (lv' := [(0, .ref a0), (1, .int i1)]) (List.forall_mem_cons.mpr ⟨rfl, (List.forall_mem_cons.mpr ⟨rfl, zs_nil⟩)⟩) ?_
      exact zt_X18_trim_J20 hX hr hR hd h
    · rw [if_neg c13] at h
      refine zw_iconst (v := (1 : Int32)) hX dX18_trim_16 (by decide) ?_
      refine zw_goto (tgt := 21) hX dX18_trim_17 (by decide) ?_
      refine zw_sub (lv' := [(0, .ref a0), (1, .int i1)]) (List.forall_mem_cons.mpr ⟨rfl, (List.forall_mem_cons.mpr ⟨rfl, zs_nil⟩)⟩) ?_
      exact zt_X18_trim_J21 hX hr hR hd h
set_option maxHeartbeats 4000000 in
set_option maxRecDepth 100000 in
theorem zt_X18_rules {l : Launch} {V : zm_V} {N : Nat} {S : zm_S} {out : (Int32 × zm_S)} {d : Nat} {a0 : Nat} (hd : 8 ≤ d) (h : zf_X18_rules N a0 S = some out) : zm_Met l zk_E V yX18_rules (.code yX18_rules cX18_rules 1 (some .int)) d [.ref a0] S 0 0 (zo_i out) zo_x := by
  refine zm_of (by decide +kernel) (Nat.le_of_ble_eq_true rfl) ?_
  intro p e R s m args below meth c hRR hX hr hxt
  have hR : R.frames = d ∧ R.locals = 64 * d := by rw [hRR]; exact ⟨rfl, rfl⟩
  have hX : zm_X p R s m args meth c RX18 "rules" cX18_rules 1 zk_E V 0 0 := hX
  unfold zf_X18_rules at h
  refine zw_sub (lv' := [(0, .ref a0)]) (List.forall_mem_cons.mpr ⟨rfl, zs_nil⟩) ?_
  refine zw_aload_n hX dX18_rules_0 rfl ?_
  refine zw_iconst (v := (0 : Int32)) hX dX18_rules_1 (by decide) ?_
  obtain ⟨S1, g, h⟩ := zb_some h
  refine zw_putv hX zl_X18_184 zt_18_0 dX18_rules_2 rfl rfl g ?_
  refine zw_aload_n hX dX18_rules_5 rfl ?_
  obtain ⟨b2, g, h⟩ := zb_some h
  refine zw_getr hX zl_X18_21 dX18_rules_6 g ?_
  obtain ⟨_, gi, h⟩ := zb_some h
  obtain ⟨r4, g, h⟩ := zb_some h
  refine zc_Vi (as := []) hX gi (zt_X15_read (d := d - 1) (by omega) g) zl_X18_293 rfl dX18_rules_9 ⟨rfl, rfl, Nat.le_of_ble_eq_true rfl⟩ ⟨by omega, by omega⟩ ?_
  obtain rfl := Option.some.inj h
  exact zw_iret hX hr dX18_rules_12 rfl ⟨rfl, rfl⟩
set_option maxHeartbeats 4000000 in
set_option maxRecDepth 100000 in
theorem zt_X18_hasRoom {l : Launch} {V : zm_V} {N : Nat} {S : zm_S} {out : (Int32 × zm_S)} {d : Nat} {a0 : Nat} {j1 : Int64} (hd : 2 ≤ d) (h : zf_X18_hasRoom N a0 j1 S = some out) : zm_Met l zk_E V yX18_hasRoom (.code yX18_hasRoom cX18_hasRoom 3 (some .boolean)) d [.ref a0, .long j1] S 0 0 (zo_i out) zo_x := by
  refine zm_of (by decide +kernel) (Nat.le_of_ble_eq_true rfl) ?_
  intro p e R s m args below meth c hRR hX hr hxt
  have hR : R.frames = d ∧ R.locals = 64 * d := by rw [hRR]; exact ⟨rfl, rfl⟩
  have hX : zm_X p R s m args meth c RX18 "hasRoom" cX18_hasRoom 3 zk_E V 0 0 := hX
  unfold zf_X18_hasRoom at h
  refine zw_sub (lv' := [(0, .ref a0), (1, .long j1)]) (List.forall_mem_cons.mpr ⟨rfl, (List.forall_mem_cons.mpr ⟨rfl, zs_nil⟩)⟩) ?_
  refine zw_aload_n hX dX18_hasRoom_0 rfl ?_
  obtain ⟨b1, g, h⟩ := zb_some h
  refine zw_getr hX zl_X18_21 dX18_hasRoom_1 g ?_
  refine zw_lload_n hX dX18_hasRoom_4 rfl ?_
  obtain ⟨_, gi, h⟩ := zb_some h
  obtain ⟨r3, g, h⟩ := zb_some h
  refine zc_Vi (as := [.long j1]) hX gi (zt_X15_factOf (d := d - 1) (by omega) g) zl_X18_296 rfl dX18_hasRoom_5 ⟨rfl, rfl, Nat.le_of_ble_eq_true rfl⟩ ⟨by omega, by omega⟩ ?_
  refine zw_if_ge (tgt := 23) hX dX18_hasRoom_8 (by decide) (fun c8 => ?_) (fun c8 => ?_)
  · rw [if_pos c8] at h
    refine zw_iconst (v := (1 : Int32)) hX dX18_hasRoom_23 (by decide) ?_
    refine zw_goto (tgt := 28) hX dX18_hasRoom_24 (by decide) ?_
    obtain rfl := Option.some.inj h
    exact zw_iret hX hr dX18_hasRoom_28 rfl ⟨rfl, rfl⟩
  · rw [if_neg c8] at h
    refine zw_aload_n hX dX18_hasRoom_11 rfl ?_
    obtain ⟨b4, g, h⟩ := zb_some h
    refine zw_getr hX zl_X18_21 dX18_hasRoom_12 g ?_
    obtain ⟨v5, g, h⟩ := zb_some h
    refine zw_geti hX zl_X18_299 dX18_hasRoom_15 g ?_
    refine zw_bipush (v := (40 : Int32)) hX dX18_hasRoom_18 (by decide) ?_
    refine zw_icmp_ge (tgt := 27) hX dX18_hasRoom_20 (by decide) (fun c20 => ?_) (fun c20 => ?_)
    · rw [if_pos c20] at h
      refine zw_iconst (v := (0 : Int32)) hX dX18_hasRoom_27 (by decide) ?_
      obtain rfl := Option.some.inj h
      exact zw_iret hX hr dX18_hasRoom_28 rfl ⟨rfl, rfl⟩
    · rw [if_neg c20] at h
      refine zw_iconst (v := (1 : Int32)) hX dX18_hasRoom_23 (by decide) ?_
      refine zw_goto (tgt := 28) hX dX18_hasRoom_24 (by decide) ?_
      obtain rfl := Option.some.inj h
      exact zw_iret hX hr dX18_hasRoom_28 rfl ⟨rfl, rfl⟩
set_option maxHeartbeats 4000000 in
set_option maxRecDepth 100000 in
theorem zt_X18_fact_J27 {p : Program} {l : Launch} {e : Env} {R : Room} {s : State} {m : MethodId} {args : Array Value} {below : List Frame} {meth : Method} {c : Code} {V : zm_V} {mc ms d rc rs : Nat} (hX : zm_X p R s m args meth c RX18 "fact" cX18_fact 4 zk_E V mc ms) (hr : meth.sig.returnType = (some .long)) (hR : R.frames = d ∧ R.locals = 64 * d) (hd : 3 ≤ d) {N : Nat} {a0 : Nat} {j1 : Int64} {i3 : Int32} {t0 : Nat} {t1 : Int32} {out : (Int64 × zm_S)} {S : zm_S} (h : zf_X18_fact_J27 N a0 j1 i3 t0 t1 S = some out) : zw p l e R s m args below meth c (vx_MQ below (zm_Qc zk_E V (zo_l out)) (zm_XC zk_E V zo_x) args s mc ms (fun q => V.2.2.2.1 ≤ q)) 4 zk_E V mc ms 27 [(0, .ref a0), (1, .long j1), (3, .int i3)] [.int t1, .ref t0] S rc rs := by
  unfold zf_X18_fact_J27 at h
  refine zw_aload_n hX dX18_fact_27 rfl ?_
  refine zw_lload_n hX dX18_fact_28 rfl ?_
  obtain ⟨_, gi, h⟩ := zb_some h
  obtain ⟨r4, g, h⟩ := zb_some h
  refine zc_Vi (as := [.long j1]) hX gi (zt_X18_hasRoom (d := d - 1) (by omega) g) zl_X18_308 rfl dX18_fact_29 ⟨rfl, rfl, Nat.le_of_ble_eq_true rfl⟩ ⟨by omega, by omega⟩ ?_
  obtain ⟨_, gi, h⟩ := zb_some h
  obtain ⟨r6, g, h⟩ := zb_some h
  refine zc_Vi (as := [.int t1, .int r4.1]) hX gi (zt_X18_goes (d := d - 1) (by omega) g) zl_X18_199 rfl dX18_fact_32 ⟨rfl, rfl, Nat.le_of_ble_eq_true rfl⟩ ⟨by omega, by omega⟩ ?_
  refine zw_if_eq (tgt := 50) hX dX18_fact_35 (by decide) (fun c35 => ?_) (fun c35 => ?_)
  · rw [if_pos c35] at h
    refine zw_lconst (v := (0 : Int64)) hX dX18_fact_50 (by decide) ?_
    obtain rfl := Option.some.inj h
    exact zw_lret hX hr dX18_fact_51 ⟨rfl, rfl⟩
  · rw [if_neg c35] at h
    refine zw_aload_n hX dX18_fact_38 rfl ?_
    obtain ⟨b7, g, h⟩ := zb_some h
    refine zw_getr hX zl_X18_21 dX18_fact_39 g ?_
    refine zw_lload_n hX dX18_fact_42 rfl ?_
    refine zw_iload_n hX dX18_fact_43 rfl ?_
    obtain ⟨_, gi, h⟩ := zb_some h
    obtain ⟨r9, g, h⟩ := zb_some h
    refine zc_Vl (as := [.long j1, .int i3]) hX gi (zt_X15_fact (d := d - 1) (by omega) g) zl_X18_311 rfl dX18_fact_44 ⟨rfl, rfl, Nat.le_of_ble_eq_true rfl⟩ ⟨by omega, by omega⟩ ?_
    refine zw_goto (tgt := 51) hX dX18_fact_47 (by decide) ?_
    obtain rfl := Option.some.inj h
    exact zw_lret hX hr dX18_fact_51 ⟨rfl, rfl⟩
set_option maxHeartbeats 4000000 in
set_option maxRecDepth 100000 in
theorem zt_X18_fact_J26 {p : Program} {l : Launch} {e : Env} {R : Room} {s : State} {m : MethodId} {args : Array Value} {below : List Frame} {meth : Method} {c : Code} {V : zm_V} {mc ms d rc rs : Nat} (hX : zm_X p R s m args meth c RX18 "fact" cX18_fact 4 zk_E V mc ms) (hr : meth.sig.returnType = (some .long)) (hR : R.frames = d ∧ R.locals = 64 * d) (hd : 3 ≤ d) {N : Nat} {a0 : Nat} {j1 : Int64} {i3 : Int32} {t0 : Nat} {out : (Int64 × zm_S)} {S : zm_S} (h : zf_X18_fact_J26 N a0 j1 i3 t0 S = some out) : zw p l e R s m args below meth c (vx_MQ below (zm_Qc zk_E V (zo_l out)) (zm_XC zk_E V zo_x) args s mc ms (fun q => V.2.2.2.1 ≤ q)) 4 zk_E V mc ms 26 [(0, .ref a0), (1, .long j1), (3, .int i3)] [.ref t0] S rc rs := by
  unfold zf_X18_fact_J26 at h
  refine zw_iconst (v := (0 : Int32)) hX dX18_fact_26 (by decide) ?_
  refine zw_sub (lv' := [(0, .ref a0), (1, .long j1), (3, .int i3)]) (List.forall_mem_cons.mpr ⟨rfl, (List.forall_mem_cons.mpr ⟨rfl, (List.forall_mem_cons.mpr ⟨rfl, zs_nil⟩)⟩)⟩) ?_
  exact zt_X18_fact_J27 hX hr hR hd h
set_option maxHeartbeats 4000000 in
set_option maxRecDepth 100000 in
theorem zt_X18_fact {l : Launch} {V : zm_V} {N : Nat} {S : zm_S} {out : (Int64 × zm_S)} {d : Nat} {a0 : Nat} {j1 : Int64} {i3 : Int32} (hd : 3 ≤ d) (h : zf_X18_fact N a0 j1 i3 S = some out) : zm_Met l zk_E V yX18_fact (.code yX18_fact cX18_fact 4 (some .long)) d [.ref a0, .long j1, .int i3] S 0 0 (zo_l out) zo_x := by
  refine zm_of (by decide +kernel) (Nat.le_of_ble_eq_true rfl) ?_
  intro p e R s m args below meth c hRR hX hr hxt
  have hR : R.frames = d ∧ R.locals = 64 * d := by rw [hRR]; exact ⟨rfl, rfl⟩
  have hX : zm_X p R s m args meth c RX18 "fact" cX18_fact 4 zk_E V 0 0 := hX
  unfold zf_X18_fact at h
  refine zw_sub (lv' := [(0, .ref a0), (1, .long j1), (3, .int i3)]) (List.forall_mem_cons.mpr ⟨rfl, (List.forall_mem_cons.mpr ⟨rfl, (List.forall_mem_cons.mpr ⟨rfl, zs_nil⟩)⟩)⟩) ?_
  refine zw_aload_n hX dX18_fact_0 rfl ?_
  refine zw_lload_n hX dX18_fact_1 rfl ?_
  obtain ⟨r2, g, h⟩ := zb_some h
  refine zc_Si (as := [.long j1]) hX (zt_X15_isName (d := d - 1) (by omega) g) zl_X18_302 dX18_fact_2 ⟨rfl, rfl, Nat.le_of_ble_eq_true rfl⟩ ⟨by omega, by omega⟩ ?_
  refine zw_if_eq (tgt := 26) hX dX18_fact_5 (by decide) (fun c5 => ?_) (fun c5 => ?_)
  · rw [if_pos c5] at h
    refine zw_sub (lv' := [(0, .ref a0), (1, .long j1), (3, .int i3)]) (List.forall_mem_cons.mpr ⟨rfl, (List.forall_mem_cons.mpr ⟨rfl, (List.forall_mem_cons.mpr ⟨rfl, zs_nil⟩)⟩)⟩) ?_
    exact zt_X18_fact_J26 hX hr hR hd h
  · rw [if_neg c5] at h
    refine zw_iload_n hX dX18_fact_8 rfl ?_
    refine zw_ldcw (v := (-1000000000 : Int32)) hX dX18_fact_9 zl_X18_306 ?_
    refine zw_icmp_lt (tgt := 26) hX dX18_fact_12 (by decide) (fun c12 => ?_) (fun c12 => ?_)
    · rw [if_pos c12] at h
      refine zw_sub (lv' := [(0, .ref a0), (1, .long j1), (3, .int i3)]) (List.forall_mem_cons.mpr ⟨rfl, (List.forall_mem_cons.mpr ⟨rfl, (List.forall_mem_cons.mpr ⟨rfl, zs_nil⟩)⟩)⟩) ?_
      exact zt_X18_fact_J26 hX hr hR hd h
    · rw [if_neg c12] at h
      refine zw_iload_n hX dX18_fact_15 rfl ?_
      refine zw_ldcw (v := (1000000000 : Int32)) hX dX18_fact_16 zl_X18_307 ?_
      refine zw_icmp_gt (tgt := 26) hX dX18_fact_19 (by decide) (fun c19 => ?_) (fun c19 => ?_)
      · rw [if_pos c19] at h
        refine zw_sub (lv' := [(0, .ref a0), (1, .long j1), (3, .int i3)]) (List.forall_mem_cons.mpr ⟨rfl, (List.forall_mem_cons.mpr ⟨rfl, (List.forall_mem_cons.mpr ⟨rfl, zs_nil⟩)⟩)⟩) ?_
        exact zt_X18_fact_J26 hX hr hR hd h
      · rw [if_neg c19] at h
        refine zw_iconst (v := (1 : Int32)) hX dX18_fact_22 (by decide) ?_
        refine zw_goto (tgt := 27) hX dX18_fact_23 (by decide) ?_
        refine zw_sub (lv' := [(0, .ref a0), (1, .long j1), (3, .int i3)]) (List.forall_mem_cons.mpr ⟨rfl, (List.forall_mem_cons.mpr ⟨rfl, (List.forall_mem_cons.mpr ⟨rfl, zs_nil⟩)⟩)⟩) ?_
        exact zt_X18_fact_J27 hX hr hR hd h
set_option maxHeartbeats 4000000 in
set_option maxRecDepth 100000 in
theorem zt_X18_measure_J55 {p : Program} {l : Launch} {e : Env} {R : Room} {s : State} {m : MethodId} {args : Array Value} {below : List Frame} {meth : Method} {c : Code} {V : zm_V} {mc ms d rc rs : Nat} (hX : zm_X p R s m args meth c RX18 "measure" cX18_measure 8 zk_E V mc ms) (hr : meth.sig.returnType = (some .int)) (hR : R.frames = d ∧ R.locals = 64 * d) (hd : 5 ≤ d) {N : Nat} {a0 : Nat} {i1 : Int32} {i2 : Int32} {j3 : Int64} {t0 : Nat} {t1 : Int32} {t2 : Int32} {out : (Int32 × zm_S)} {S : zm_S} (h : zf_X18_measure_J55 N a0 i1 i2 j3 t0 t1 t2 S = some out) : zw p l e R s m args below meth c (vx_MQ below (zm_Qc zk_E V (zo_i out)) (zm_XC zk_E V zo_x) args s mc ms (fun q => V.2.2.2.1 ≤ q)) 8 zk_E V mc ms 55 [(0, .ref a0), (1, .int i1), (2, .int i2), (3, .long j3)] [.int t2, .int t1, .ref t0] S rc rs := by
  unfold zf_X18_measure_J55 at h
  obtain ⟨_, gi, h⟩ := zb_some h
  obtain ⟨r7, g, h⟩ := zb_some h
  refine zc_Vi (as := [.int t1, .int t2]) hX gi (zt_X18_goes (d := d - 1) (by omega) g) zl_X18_199 rfl dX18_measure_55 ⟨rfl, rfl, Nat.le_of_ble_eq_true rfl⟩ ⟨by omega, by omega⟩ ?_
  refine zw_if_ne (tgt := 63) hX dX18_measure_58 (by decide) (fun c58 => ?_) (fun c58 => ?_)
  · rw [if_neg c58] at h
    refine zw_aload_n hX dX18_measure_63 rfl ?_
    obtain ⟨b8, g, h⟩ := zb_some h
    refine zw_getr hX zl_X18_12 dX18_measure_64 g ?_
    refine zw_iload_n hX dX18_measure_67 rfl ?_
    refine zw_iload_n hX dX18_measure_68 rfl ?_
    obtain ⟨_, gi, h⟩ := zb_some h
    obtain ⟨r10, g, h⟩ := zb_some h
    refine zc_Vi (as := [.int i1, .int i2]) hX gi (zt_X16_size (d := d - 1) (by omega) g) zl_X18_263 rfl dX18_measure_69 ⟨rfl, rfl, Nat.le_of_ble_eq_true rfl⟩ ⟨by omega, by omega⟩ ?_
    refine zw_istore hX dX18_measure_72 (by decide) ?_
    refine zw_aload_n hX dX18_measure_74 rfl ?_
    obtain ⟨b11, g, h⟩ := zb_some h
    refine zw_getr hX zl_X18_21 dX18_measure_75 g ?_
    refine zw_lload_n hX dX18_measure_78 rfl ?_
    refine zw_iload hX dX18_measure_79 rfl ?_
    obtain ⟨_, gi, h⟩ := zb_some h
    obtain ⟨r13, g, h⟩ := zb_some h
    refine zc_Vl (as := [.long j3, .int r10.1]) hX gi (zt_X15_fact (d := d - 1) (by omega) g) zl_X18_311 rfl dX18_measure_81 ⟨rfl, rfl, Nat.le_of_ble_eq_true rfl⟩ ⟨by omega, by omega⟩ ?_
    refine zw_lstore hX dX18_measure_84 (by decide) ?_
    refine zw_iload hX dX18_measure_86 rfl ?_
    obtain rfl := Option.some.inj h
    exact zw_iret hX hr dX18_measure_88 rfl ⟨rfl, rfl⟩
  · rw [if_pos c58] at h
    refine zw_iconst (v := (0 : Int32)) hX dX18_measure_61 (by decide) ?_
    obtain rfl := Option.some.inj h
    exact zw_iret hX hr dX18_measure_62 rfl ⟨rfl, rfl⟩
set_option maxHeartbeats 4000000 in
set_option maxRecDepth 100000 in
theorem zt_X18_measure_J54 {p : Program} {l : Launch} {e : Env} {R : Room} {s : State} {m : MethodId} {args : Array Value} {below : List Frame} {meth : Method} {c : Code} {V : zm_V} {mc ms d rc rs : Nat} (hX : zm_X p R s m args meth c RX18 "measure" cX18_measure 8 zk_E V mc ms) (hr : meth.sig.returnType = (some .int)) (hR : R.frames = d ∧ R.locals = 64 * d) (hd : 5 ≤ d) {N : Nat} {a0 : Nat} {i1 : Int32} {i2 : Int32} {j3 : Int64} {t0 : Nat} {t1 : Int32} {out : (Int32 × zm_S)} {S : zm_S} (h : zf_X18_measure_J54 N a0 i1 i2 j3 t0 t1 S = some out) : zw p l e R s m args below meth c (vx_MQ below (zm_Qc zk_E V (zo_i out)) (zm_XC zk_E V zo_x) args s mc ms (fun q => V.2.2.2.1 ≤ q)) 8 zk_E V mc ms 54 [(0, .ref a0), (1, .int i1), (2, .int i2), (3, .long j3)] [.int t1, .ref t0] S rc rs := by
  unfold zf_X18_measure_J54 at h
  refine zw_iconst (v := (0 : Int32)) hX dX18_measure_54 (by decide) ?_
  refine zw_sub (lv' := [(0, .ref a0), (1, .int i1), (2, .int i2), (3, .long j3)]) (List.forall_mem_cons.mpr ⟨rfl, (List.forall_mem_cons.mpr ⟨rfl, (List.forall_mem_cons.mpr ⟨rfl, (List.forall_mem_cons.mpr ⟨rfl, zs_nil⟩)⟩)⟩)⟩) ?_
  exact zt_X18_measure_J55 hX hr hR hd h
set_option maxHeartbeats 4000000 in
set_option maxRecDepth 100000 in
theorem zt_X18_measure_J32 {p : Program} {l : Launch} {e : Env} {R : Room} {s : State} {m : MethodId} {args : Array Value} {below : List Frame} {meth : Method} {c : Code} {V : zm_V} {mc ms d rc rs : Nat} (hX : zm_X p R s m args meth c RX18 "measure" cX18_measure 8 zk_E V mc ms) (hr : meth.sig.returnType = (some .int)) (hR : R.frames = d ∧ R.locals = 64 * d) (hd : 5 ≤ d) {N : Nat} {a0 : Nat} {i1 : Int32} {i2 : Int32} {j3 : Int64} {t0 : Nat} {t1 : Int32} {out : (Int32 × zm_S)} {S : zm_S} (h : zf_X18_measure_J32 N a0 i1 i2 j3 t0 t1 S = some out) : zw p l e R s m args below meth c (vx_MQ below (zm_Qc zk_E V (zo_i out)) (zm_XC zk_E V zo_x) args s mc ms (fun q => V.2.2.2.1 ≤ q)) 8 zk_E V mc ms 32 [(0, .ref a0), (1, .int i1), (2, .int i2), (3, .long j3)] [.int t1, .ref t0] S rc rs := by
  unfold zf_X18_measure_J32 at h
  refine zw_aload_n hX dX18_measure_32 rfl ?_
  obtain ⟨b4, g, h⟩ := zb_some h
  refine zw_getr hX zl_X18_12 dX18_measure_33 g ?_
  obtain ⟨v5, g, h⟩ := zb_some h
  refine zw_geti hX zl_X18_238 dX18_measure_36 g ?_
  refine zw_if_eq (tgt := 54) hX dX18_measure_39 (by decide) (fun c39 => ?_) (fun c39 => ?_)
  · rw [if_pos c39] at h
    refine zw_sub (lv' := [(0, .ref a0), (1, .int i1), (2, .int i2), (3, .long j3)]) (List.forall_mem_cons.mpr ⟨rfl, (List.forall_mem_cons.mpr ⟨rfl, (List.forall_mem_cons.mpr ⟨rfl, (List.forall_mem_cons.mpr ⟨rfl, zs_nil⟩)⟩)⟩)⟩) ?_
    exact zt_X18_measure_J54 hX hr hR hd h
  · rw [if_neg c39] at h
    refine zw_aload_n hX dX18_measure_42 rfl ?_
    refine zw_lload_n hX dX18_measure_43 rfl ?_
    obtain ⟨_, gi, h⟩ := zb_some h
    obtain ⟨r15, g, h⟩ := zb_some h
    refine zc_Vi (as := [.long j3]) hX gi (zt_X18_hasRoom (d := d - 1) (by omega) g) zl_X18_308 rfl dX18_measure_44 ⟨rfl, rfl, Nat.le_of_ble_eq_true rfl⟩ ⟨by omega, by omega⟩ ?_
    refine zw_if_eq (tgt := 54) hX dX18_measure_47 (by decide) (fun c47 => ?_) (fun c47 => ?_)
    · rw [if_pos c47] at h
      refine zw_sub (lv' := [(0, .ref a0), (1, .int i1), (2, .int i2), (3, .long j3)]) (List.forall_mem_cons.mpr ⟨rfl, (List.forall_mem_cons.mpr ⟨rfl, (List.forall_mem_cons.mpr ⟨rfl, (List.forall_mem_cons.mpr ⟨rfl, zs_nil⟩)⟩)⟩)⟩) ?_
      exact zt_X18_measure_J54 hX hr hR hd h
    · rw [if_neg c47] at h
      refine zw_iconst (v := (1 : Int32)) hX dX18_measure_50 (by decide) ?_
      refine zw_goto (tgt := 55) hX dX18_measure_51 (by decide) ?_
      refine zw_sub (lv' := [(0, .ref a0), (1, .int i1), (2, .int i2), (3, .long j3)]) (List.forall_mem_cons.mpr ⟨rfl, (List.forall_mem_cons.mpr ⟨rfl, (List.forall_mem_cons.mpr ⟨rfl, (List.forall_mem_cons.mpr ⟨rfl, zs_nil⟩)⟩)⟩)⟩) ?_
      exact zt_X18_measure_J55 hX hr hR hd h
set_option maxHeartbeats 4000000 in
set_option maxRecDepth 100000 in
theorem zt_X18_measure_J31 {p : Program} {l : Launch} {e : Env} {R : Room} {s : State} {m : MethodId} {args : Array Value} {below : List Frame} {meth : Method} {c : Code} {V : zm_V} {mc ms d rc rs : Nat} (hX : zm_X p R s m args meth c RX18 "measure" cX18_measure 8 zk_E V mc ms) (hr : meth.sig.returnType = (some .int)) (hR : R.frames = d ∧ R.locals = 64 * d) (hd : 5 ≤ d) {N : Nat} {a0 : Nat} {i1 : Int32} {i2 : Int32} {j3 : Int64} {t0 : Nat} {out : (Int32 × zm_S)} {S : zm_S} (h : zf_X18_measure_J31 N a0 i1 i2 j3 t0 S = some out) : zw p l e R s m args below meth c (vx_MQ below (zm_Qc zk_E V (zo_i out)) (zm_XC zk_E V zo_x) args s mc ms (fun q => V.2.2.2.1 ≤ q)) 8 zk_E V mc ms 31 [(0, .ref a0), (1, .int i1), (2, .int i2), (3, .long j3)] [.ref t0] S rc rs := by
  unfold zf_X18_measure_J31 at h
  refine zw_iconst (v := (0 : Int32)) hX dX18_measure_31 (by decide) ?_
  refine zw_sub (lv' := [(0, .ref a0), (1, .int i1), (2, .int i2), (3, .long j3)]) (List.forall_mem_cons.mpr ⟨rfl, (List.forall_mem_cons.mpr ⟨rfl, (List.forall_mem_cons.mpr ⟨rfl, (List.forall_mem_cons.mpr ⟨rfl, zs_nil⟩)⟩)⟩)⟩) ?_
  exact zt_X18_measure_J32 hX hr hR hd h
set_option maxHeartbeats 4000000 in
set_option maxRecDepth 100000 in
theorem zt_X18_measure {l : Launch} {V : zm_V} {N : Nat} {S : zm_S} {out : (Int32 × zm_S)} {d : Nat} {a0 : Nat} {i1 : Int32} {i2 : Int32} {j3 : Int64} (hd : 5 ≤ d) (h : zf_X18_measure N a0 i1 i2 j3 S = some out) : zm_Met l zk_E V yX18_measure (.code yX18_measure cX18_measure 8 (some .int)) d [.ref a0, .int i1, .int i2, .long j3] S 0 0 (zo_i out) zo_x := by
  refine zm_of (by decide +kernel) (Nat.le_of_ble_eq_true rfl) ?_
  intro p e R s m args below meth c hRR hX hr hxt
  have hR : R.frames = d ∧ R.locals = 64 * d := by rw [hRR]; exact ⟨rfl, rfl⟩
  have hX : zm_X p R s m args meth c RX18 "measure" cX18_measure 8 zk_E V 0 0 := hX
  unfold zf_X18_measure at h
  refine zw_sub (lv' := [(0, .ref a0), (1, .int i1), (2, .int i2), (3, .long j3)]) (List.forall_mem_cons.mpr ⟨rfl, (List.forall_mem_cons.mpr ⟨rfl, (List.forall_mem_cons.mpr ⟨rfl, (List.forall_mem_cons.mpr ⟨rfl, zs_nil⟩)⟩)⟩)⟩) ?_
  refine zw_aload_n hX dX18_measure_0 rfl ?_
  refine zw_aload_n hX dX18_measure_1 rfl ?_
  obtain ⟨b1, g, h⟩ := zb_some h
  refine zw_getr hX zl_X18_12 dX18_measure_2 g ?_
  refine zw_iload_n hX dX18_measure_5 rfl ?_
  obtain ⟨_, gi, h⟩ := zb_some h
  obtain ⟨r3, g, h⟩ := zb_some h
  refine zc_Vi (as := [.int i1]) hX gi (zt_X16_isSpace (d := d - 1) (by omega) g) zl_X18_253 rfl dX18_measure_6 ⟨rfl, rfl, Nat.le_of_ble_eq_true rfl⟩ ⟨by omega, by omega⟩ ?_
  refine zw_if_eq (tgt := 31) hX dX18_measure_9 (by decide) (fun c9 => ?_) (fun c9 => ?_)
  · rw [if_pos c9] at h
    refine zw_sub (lv' := [(0, .ref a0), (1, .int i1), (2, .int i2), (3, .long j3)]) (List.forall_mem_cons.mpr ⟨rfl, (List.forall_mem_cons.mpr ⟨rfl, (List.forall_mem_cons.mpr ⟨rfl, (List.forall_mem_cons.mpr ⟨rfl, zs_nil⟩)⟩)⟩)⟩) ?_
    exact zt_X18_measure_J31 hX hr hR hd h
  · rw [if_neg c9] at h
    refine zw_iload_n hX dX18_measure_12 rfl ?_
    refine zw_iconst (v := (3 : Int32)) hX dX18_measure_13 (by decide) ?_
    obtain ⟨r17, g, h⟩ := zb_some h
    refine zc_Si (as := [.int i2, .int (3 : Int32)]) hX (zt_X18_isIn (d := d - 1) (by omega) g) zl_X18_207 dX18_measure_14 ⟨rfl, rfl, Nat.le_of_ble_eq_true rfl⟩ ⟨by omega, by omega⟩ ?_
    refine zw_if_eq (tgt := 31) hX dX18_measure_17 (by decide) (fun c17 => ?_) (fun c17 => ?_)
    · rw [if_pos c17] at h
      refine zw_sub (lv' := [(0, .ref a0), (1, .int i1), (2, .int i2), (3, .long j3)]) (List.forall_mem_cons.mpr ⟨rfl, (List.forall_mem_cons.mpr ⟨rfl, (List.forall_mem_cons.mpr ⟨rfl, (List.forall_mem_cons.mpr ⟨rfl, zs_nil⟩)⟩)⟩)⟩) ?_
      exact zt_X18_measure_J31 hX hr hR hd h
    · rw [if_neg c17] at h
      refine zw_lload_n hX dX18_measure_20 rfl ?_
      obtain ⟨r19, g, h⟩ := zb_some h
      refine zc_Si (as := [.long j3]) hX (zt_X15_isName (d := d - 1) (by omega) g) zl_X18_302 dX18_measure_21 ⟨rfl, rfl, Nat.le_of_ble_eq_true rfl⟩ ⟨by omega, by omega⟩ ?_
      refine zw_if_eq (tgt := 31) hX dX18_measure_24 (by decide) (fun c24 => ?_) (fun c24 => ?_)
      · rw [if_pos c24] at h
        refine zw_sub (lv' := [(0, .ref a0), (1, .int i1), (2, .int i2), (3, .long j3)]) (List.forall_mem_cons.mpr ⟨rfl, (List.forall_mem_cons.mpr ⟨rfl, (List.forall_mem_cons.mpr ⟨rfl, (List.forall_mem_cons.mpr ⟨rfl, zs_nil⟩)⟩)⟩)⟩) ?_
        exact zt_X18_measure_J31 hX hr hR hd h
      · rw [if_neg c24] at h
        refine zw_iconst (v := (1 : Int32)) hX dX18_measure_27 (by decide) ?_
        refine zw_goto (tgt := 32) hX dX18_measure_28 (by decide) ?_
        refine zw_sub (lv' := [(0, .ref a0), (1, .int i1), (2, .int i2), (3, .long j3)]) (List.forall_mem_cons.mpr ⟨rfl, (List.forall_mem_cons.mpr ⟨rfl, (List.forall_mem_cons.mpr ⟨rfl, (List.forall_mem_cons.mpr ⟨rfl, zs_nil⟩)⟩)⟩)⟩) ?_
        exact zt_X18_measure_J32 hX hr hR hd h
set_option maxHeartbeats 4000000 in
set_option maxRecDepth 100000 in
theorem zt_X18_isDay {l : Launch} {V : zm_V} {N : Nat} {S : zm_S} {out : (Int32 × zm_S)} {d : Nat} {i0 : Int32} (hd : 1 ≤ d) (h : zf_X18_isDay N i0 S = some out) : zm_Met l zk_E V yX18_isDay (.code yX18_isDay cX18_isDay 1 (some .boolean)) d [.int i0] S 0 0 (zo_i out) zo_x := by
  refine zm_of (by decide +kernel) (Nat.le_of_ble_eq_true rfl) ?_
  intro p e R s m args below meth c hRR hX hr hxt
  have hR : R.frames = d ∧ R.locals = 64 * d := by rw [hRR]; exact ⟨rfl, rfl⟩
  have hX : zm_X p R s m args meth c RX18 "isDay" cX18_isDay 1 zk_E V 0 0 := hX
  unfold zf_X18_isDay at h
  refine zw_sub (lv' := [(0, .int i0)]) (List.forall_mem_cons.mpr ⟨rfl, zs_nil⟩) ?_
  refine zw_iload_n hX dX18_isDay_0 rfl ?_
  refine zw_if_lt (tgt := 15) hX dX18_isDay_1 (by decide) (fun c1 => ?_) (fun c1 => ?_)
  · rw [if_pos c1] at h
    refine zw_iconst (v := (0 : Int32)) hX dX18_isDay_15 (by decide) ?_
    obtain rfl := Option.some.inj h
    exact zw_iret hX hr dX18_isDay_16 rfl ⟨rfl, rfl⟩
  · rw [if_neg c1] at h
    refine zw_iload_n hX dX18_isDay_4 rfl ?_
    refine zw_ldcw (v := (1000000 : Int32)) hX dX18_isDay_5 zl_X18_315 ?_
    refine zw_icmp_gt (tgt := 15) hX dX18_isDay_8 (by decide) (fun c8 => ?_) (fun c8 => ?_)
    · rw [if_pos c8] at h
      refine zw_iconst (v := (0 : Int32)) hX dX18_isDay_15 (by decide) ?_
      obtain rfl := Option.some.inj h
      exact zw_iret hX hr dX18_isDay_16 rfl ⟨rfl, rfl⟩
    · rw [if_neg c8] at h
      refine zw_iconst (v := (1 : Int32)) hX dX18_isDay_11 (by decide) ?_
      refine zw_goto (tgt := 16) hX dX18_isDay_12 (by decide) ?_
      obtain rfl := Option.some.inj h
      exact zw_iret hX hr dX18_isDay_16 rfl ⟨rfl, rfl⟩
set_option maxHeartbeats 4000000 in
set_option maxRecDepth 100000 in
theorem zt_X18_check {l : Launch} {V : zm_V} {N : Nat} {S : zm_S} {out : (Int32 × zm_S)} {d : Nat} {a0 : Nat} {i1 : Int32} (hd : 8 ≤ d) (h : zf_X18_check N a0 i1 S = some out) : zm_Met l zk_E V yX18_check (.code yX18_check cX18_check 2 (some .int)) d [.ref a0, .int i1] S 0 0 (zo_i out) zo_x := by
  refine zm_of (by decide +kernel) (Nat.le_of_ble_eq_true rfl) ?_
  intro p e R s m args below meth c hRR hX hr hxt
  have hR : R.frames = d ∧ R.locals = 64 * d := by rw [hRR]; exact ⟨rfl, rfl⟩
  have hX : zm_X p R s m args meth c RX18 "check" cX18_check 2 zk_E V 0 0 := hX
  unfold zf_X18_check at h
  refine zw_sub (lv' := [(0, .ref a0), (1, .int i1)]) (List.forall_mem_cons.mpr ⟨rfl, (List.forall_mem_cons.mpr ⟨rfl, zs_nil⟩)⟩) ?_
  refine zw_aload_n hX dX18_check_0 rfl ?_
  refine zw_iload_n hX dX18_check_1 rfl ?_
  obtain ⟨r2, g, h⟩ := zb_some h
  refine zc_Si (as := [.int i1]) hX (zt_X18_isDay (d := d - 1) (by omega) g) zl_X18_316 dX18_check_2 ⟨rfl, rfl, Nat.le_of_ble_eq_true rfl⟩ ⟨by omega, by omega⟩ ?_
  refine zw_iconst (v := (1 : Int32)) hX dX18_check_5 (by decide) ?_
  obtain ⟨_, gi, h⟩ := zb_some h
  obtain ⟨r4, g, h⟩ := zb_some h
  refine zc_Vi (as := [.int r2.1, .int (1 : Int32)]) hX gi (zt_X18_goes (d := d - 1) (by omega) g) zl_X18_199 rfl dX18_check_6 ⟨rfl, rfl, Nat.le_of_ble_eq_true rfl⟩ ⟨by omega, by omega⟩ ?_
  refine zw_if_eq (tgt := 23) hX dX18_check_9 (by decide) (fun c9 => ?_) (fun c9 => ?_)
  · rw [if_pos c9] at h
    refine zw_iconst (v := (0 : Int32)) hX dX18_check_23 (by decide) ?_
    obtain rfl := Option.some.inj h
    exact zw_iret hX hr dX18_check_24 rfl ⟨rfl, rfl⟩
  · rw [if_neg c9] at h
    refine zw_aload_n hX dX18_check_12 rfl ?_
    obtain ⟨b5, g, h⟩ := zb_some h
    refine zw_getr hX zl_X18_21 dX18_check_13 g ?_
    refine zw_iload_n hX dX18_check_16 rfl ?_
    obtain ⟨_, gi, h⟩ := zb_some h
    obtain ⟨r7, g, h⟩ := zb_some h
    refine zc_Vi (as := [.int i1]) hX gi (zt_X15_run (d := d - 1) (by omega) g) zl_X18_319 rfl dX18_check_17 ⟨rfl, rfl, Nat.le_of_ble_eq_true rfl⟩ ⟨by omega, by omega⟩ ?_
    refine zw_goto (tgt := 24) hX dX18_check_20 (by decide) ?_
    obtain rfl := Option.some.inj h
    exact zw_iret hX hr dX18_check_24 rfl ⟨rfl, rfl⟩
set_option maxHeartbeats 4000000 in
set_option maxRecDepth 100000 in
theorem zt_X18_rule_J44 {p : Program} {l : Launch} {e : Env} {R : Room} {s : State} {m : MethodId} {args : Array Value} {below : List Frame} {meth : Method} {c : Code} {V : zm_V} {mc ms d rc rs : Nat} (hX : zm_X p R s m args meth c RX18 "rule" cX18_rule 3 zk_E V mc ms) (hr : meth.sig.returnType = (some .long)) (hR : R.frames = d ∧ R.locals = 64 * d) (hd : 2 ≤ d) {N : Nat} {a0 : Nat} {i1 : Int32} {i2 : Int32} {t0 : Nat} {t1 : Int32} {t2 : Int32} {out : (Int64 × zm_S)} {S : zm_S} (h : zf_X18_rule_J44 N a0 i1 i2 t0 t1 t2 S = some out) : zw p l e R s m args below meth c (vx_MQ below (zm_Qc zk_E V (zo_l out)) (zm_XC zk_E V zo_x) args s mc ms (fun q => V.2.2.2.1 ≤ q)) 3 zk_E V mc ms 44 [(0, .ref a0), (1, .int i1), (2, .int i2)] [.int t2, .int t1, .ref t0] S rc rs := by
  unfold zf_X18_rule_J44 at h
  obtain ⟨_, gi, h⟩ := zb_some h
  obtain ⟨r8, g, h⟩ := zb_some h
  refine zc_Vi (as := [.int t1, .int t2]) hX gi (zt_X18_goes (d := d - 1) (by omega) g) zl_X18_199 rfl dX18_rule_44 ⟨rfl, rfl, Nat.le_of_ble_eq_true rfl⟩ ⟨by omega, by omega⟩ ?_
  refine zw_if_eq (tgt := 62) hX dX18_rule_47 (by decide) (fun c47 => ?_) (fun c47 => ?_)
  · rw [if_pos c47] at h
    refine zw_lconst (v := (0 : Int64)) hX dX18_rule_62 (by decide) ?_
    obtain rfl := Option.some.inj h
    exact zw_lret hX hr dX18_rule_63 ⟨rfl, rfl⟩
  · rw [if_neg c47] at h
    refine zw_aload_n hX dX18_rule_50 rfl ?_
    obtain ⟨b9, g, h⟩ := zb_some h
    refine zw_getr hX zl_X18_21 dX18_rule_51 g ?_
    refine zw_iload_n hX dX18_rule_54 rfl ?_
    refine zw_iload_n hX dX18_rule_55 rfl ?_
    obtain ⟨_, gi, h⟩ := zb_some h
    obtain ⟨r11, g, h⟩ := zb_some h
    refine zc_Vl (as := [.int i1, .int i2]) hX gi (zt_X15_told (d := d - 1) (by omega) g) zl_X18_327 rfl dX18_rule_56 ⟨rfl, rfl, Nat.le_of_ble_eq_true rfl⟩ ⟨by omega, by omega⟩ ?_
    refine zw_goto (tgt := 63) hX dX18_rule_59 (by decide) ?_
    obtain rfl := Option.some.inj h
    exact zw_lret hX hr dX18_rule_63 ⟨rfl, rfl⟩
set_option maxHeartbeats 4000000 in
set_option maxRecDepth 100000 in
theorem zt_X18_rule_J29 {p : Program} {l : Launch} {e : Env} {R : Room} {s : State} {m : MethodId} {args : Array Value} {below : List Frame} {meth : Method} {c : Code} {V : zm_V} {mc ms d rc rs : Nat} (hX : zm_X p R s m args meth c RX18 "rule" cX18_rule 3 zk_E V mc ms) (hr : meth.sig.returnType = (some .long)) (hR : R.frames = d ∧ R.locals = 64 * d) (hd : 2 ≤ d) {N : Nat} {a0 : Nat} {i1 : Int32} {i2 : Int32} {t0 : Nat} {t1 : Int32} {out : (Int64 × zm_S)} {S : zm_S} (h : zf_X18_rule_J29 N a0 i1 i2 t0 t1 S = some out) : zw p l e R s m args below meth c (vx_MQ below (zm_Qc zk_E V (zo_l out)) (zm_XC zk_E V zo_x) args s mc ms (fun q => V.2.2.2.1 ≤ q)) 3 zk_E V mc ms 29 [(0, .ref a0), (1, .int i1), (2, .int i2)] [.int t1, .ref t0] S rc rs := by
  unfold zf_X18_rule_J29 at h
  refine zw_aload_n hX dX18_rule_29 rfl ?_
  obtain ⟨b5, g, h⟩ := zb_some h
  refine zw_getr hX zl_X18_21 dX18_rule_30 g ?_
  obtain ⟨v6, g, h⟩ := zb_some h
  refine zw_geti hX zl_X18_324 dX18_rule_33 g ?_
  refine zw_if_lt (tgt := 43) hX dX18_rule_36 (by decide) (fun c36 => ?_) (fun c36 => ?_)
  · rw [if_pos c36] at h
    refine zw_iconst (v := (0 : Int32)) hX dX18_rule_43 (by decide) ?_
    refine zw_sub (lv' := [(0, .ref a0), (1, .int i1), (2, .int i2)]) (List.forall_mem_cons.mpr ⟨rfl, (List.forall_mem_cons.mpr ⟨rfl, (List.forall_mem_cons.mpr ⟨rfl, zs_nil⟩)⟩)⟩) ?_
    exact zt_X18_rule_J44 hX hr hR hd h
  · rw [if_neg c36] at h
    refine zw_iconst (v := (1 : Int32)) hX dX18_rule_39 (by decide) ?_
    refine zw_goto (tgt := 44) hX dX18_rule_40 (by decide) ?_
    refine zw_sub (lv' := [(0, .ref a0), (1, .int i1), (2, .int i2)]) (List.forall_mem_cons.mpr ⟨rfl, (List.forall_mem_cons.mpr ⟨rfl, (List.forall_mem_cons.mpr ⟨rfl, zs_nil⟩)⟩)⟩) ?_
    exact zt_X18_rule_J44 hX hr hR hd h
set_option maxHeartbeats 4000000 in
set_option maxRecDepth 100000 in
theorem zt_X18_rule_J28 {p : Program} {l : Launch} {e : Env} {R : Room} {s : State} {m : MethodId} {args : Array Value} {below : List Frame} {meth : Method} {c : Code} {V : zm_V} {mc ms d rc rs : Nat} (hX : zm_X p R s m args meth c RX18 "rule" cX18_rule 3 zk_E V mc ms) (hr : meth.sig.returnType = (some .long)) (hR : R.frames = d ∧ R.locals = 64 * d) (hd : 2 ≤ d) {N : Nat} {a0 : Nat} {i1 : Int32} {i2 : Int32} {t0 : Nat} {out : (Int64 × zm_S)} {S : zm_S} (h : zf_X18_rule_J28 N a0 i1 i2 t0 S = some out) : zw p l e R s m args below meth c (vx_MQ below (zm_Qc zk_E V (zo_l out)) (zm_XC zk_E V zo_x) args s mc ms (fun q => V.2.2.2.1 ≤ q)) 3 zk_E V mc ms 28 [(0, .ref a0), (1, .int i1), (2, .int i2)] [.ref t0] S rc rs := by
  unfold zf_X18_rule_J28 at h
  refine zw_iconst (v := (0 : Int32)) hX dX18_rule_28 (by decide) ?_
  refine zw_sub (lv' := [(0, .ref a0), (1, .int i1), (2, .int i2)]) (List.forall_mem_cons.mpr ⟨rfl, (List.forall_mem_cons.mpr ⟨rfl, (List.forall_mem_cons.mpr ⟨rfl, zs_nil⟩)⟩)⟩) ?_
  exact zt_X18_rule_J29 hX hr hR hd h
set_option maxHeartbeats 4000000 in
set_option maxRecDepth 100000 in
theorem zt_X18_rule {l : Launch} {V : zm_V} {N : Nat} {S : zm_S} {out : (Int64 × zm_S)} {d : Nat} {a0 : Nat} {i1 : Int32} {i2 : Int32} (hd : 2 ≤ d) (h : zf_X18_rule N a0 i1 i2 S = some out) : zm_Met l zk_E V yX18_rule (.code yX18_rule cX18_rule 3 (some .long)) d [.ref a0, .int i1, .int i2] S 0 0 (zo_l out) zo_x := by
  refine zm_of (by decide +kernel) (Nat.le_of_ble_eq_true rfl) ?_
  intro p e R s m args below meth c hRR hX hr hxt
  have hR : R.frames = d ∧ R.locals = 64 * d := by rw [hRR]; exact ⟨rfl, rfl⟩
  have hX : zm_X p R s m args meth c RX18 "rule" cX18_rule 3 zk_E V 0 0 := hX
  unfold zf_X18_rule at h
  refine zw_sub (lv' := [(0, .ref a0), (1, .int i1), (2, .int i2)]) (List.forall_mem_cons.mpr ⟨rfl, (List.forall_mem_cons.mpr ⟨rfl, (List.forall_mem_cons.mpr ⟨rfl, zs_nil⟩)⟩)⟩) ?_
  refine zw_aload_n hX dX18_rule_0 rfl ?_
  refine zw_iload_n hX dX18_rule_1 rfl ?_
  refine zw_aload_n hX dX18_rule_2 rfl ?_
  obtain ⟨b1, g, h⟩ := zb_some h
  refine zw_getr hX zl_X18_21 dX18_rule_3 g ?_
  obtain ⟨v2, g, h⟩ := zb_some h
  refine zw_geti hX zl_X18_321 dX18_rule_6 g ?_
  obtain ⟨r4, g, h⟩ := zb_some h
  refine zc_Si (as := [.int i1, .int v2]) hX (zt_X18_isIn (d := d - 1) (by omega) g) zl_X18_207 dX18_rule_9 ⟨rfl, rfl, Nat.le_of_ble_eq_true rfl⟩ ⟨by omega, by omega⟩ ?_
  refine zw_if_eq (tgt := 28) hX dX18_rule_12 (by decide) (fun c12 => ?_) (fun c12 => ?_)
  · rw [if_pos c12] at h
    refine zw_sub (lv' := [(0, .ref a0), (1, .int i1), (2, .int i2)]) (List.forall_mem_cons.mpr ⟨rfl, (List.forall_mem_cons.mpr ⟨rfl, (List.forall_mem_cons.mpr ⟨rfl, zs_nil⟩)⟩)⟩) ?_
    exact zt_X18_rule_J28 hX hr hR hd h
  · rw [if_neg c12] at h
    refine zw_iload_n hX dX18_rule_15 rfl ?_
    refine zw_bipush (v := (7 : Int32)) hX dX18_rule_16 (by decide) ?_
    obtain ⟨r13, g, h⟩ := zb_some h
    refine zc_Si (as := [.int i2, .int (7 : Int32)]) hX (zt_X18_isIn (d := d - 1) (by omega) g) zl_X18_207 dX18_rule_18 ⟨rfl, rfl, Nat.le_of_ble_eq_true rfl⟩ ⟨by omega, by omega⟩ ?_
    refine zw_if_eq (tgt := 28) hX dX18_rule_21 (by decide) (fun c21 => ?_) (fun c21 => ?_)
    · rw [if_pos c21] at h
      refine zw_sub (lv' := [(0, .ref a0), (1, .int i1), (2, .int i2)]) (List.forall_mem_cons.mpr ⟨rfl, (List.forall_mem_cons.mpr ⟨rfl, (List.forall_mem_cons.mpr ⟨rfl, zs_nil⟩)⟩)⟩) ?_
      exact zt_X18_rule_J28 hX hr hR hd h
    · rw [if_neg c21] at h
      refine zw_iconst (v := (1 : Int32)) hX dX18_rule_24 (by decide) ?_
      refine zw_goto (tgt := 29) hX dX18_rule_25 (by decide) ?_
      refine zw_sub (lv' := [(0, .ref a0), (1, .int i1), (2, .int i2)]) (List.forall_mem_cons.mpr ⟨rfl, (List.forall_mem_cons.mpr ⟨rfl, (List.forall_mem_cons.mpr ⟨rfl, zs_nil⟩)⟩)⟩) ?_
      exact zt_X18_rule_J29 hX hr hR hd h
set_option maxHeartbeats 4000000 in
set_option maxRecDepth 100000 in
theorem zt_X18_roomOf {l : Launch} {V : zm_V} {N : Nat} {S : zm_S} {out : (Int32 × zm_S)} {d : Nat} {a0 : Nat} {i1 : Int32} (hd : 1 ≤ d) (h : zf_X18_roomOf N a0 i1 S = some out) : zm_Met l zk_E V yX18_roomOf (.code yX18_roomOf cX18_roomOf 2 (some .int)) d [.ref a0, .int i1] S 0 0 (zo_i out) zo_x := by
  refine zm_of (by decide +kernel) (Nat.le_of_ble_eq_true rfl) ?_
  intro p e R s m args below meth c hRR hX hr hxt
  have hR : R.frames = d ∧ R.locals = 64 * d := by rw [hRR]; exact ⟨rfl, rfl⟩
  have hX : zm_X p R s m args meth c RX18 "roomOf" cX18_roomOf 2 zk_E V 0 0 := hX
  unfold zf_X18_roomOf at h
  refine zw_sub (lv' := [(0, .ref a0), (1, .int i1)]) (List.forall_mem_cons.mpr ⟨rfl, (List.forall_mem_cons.mpr ⟨rfl, zs_nil⟩)⟩) ?_
  refine zw_iload_n hX dX18_roomOf_0 rfl ?_
  refine zw_if_ge (tgt := 11) hX dX18_roomOf_1 (by decide) (fun c1 => ?_) (fun c1 => ?_)
  · rw [if_pos c1] at h
    refine zw_iload_n hX dX18_roomOf_11 rfl ?_
    obtain rfl := Option.some.inj h
    exact zw_iret hX hr dX18_roomOf_12 rfl ⟨rfl, rfl⟩
  · rw [if_neg c1] at h
    refine zw_aload_n hX dX18_roomOf_4 rfl ?_
    obtain ⟨v1, g, h⟩ := zb_some h
    refine zw_geti hX zl_X18_338 dX18_roomOf_5 g ?_
    refine zw_goto (tgt := 12) hX dX18_roomOf_8 (by decide) ?_
    obtain rfl := Option.some.inj h
    exact zw_iret hX hr dX18_roomOf_12 rfl ⟨rfl, rfl⟩
set_option maxHeartbeats 4000000 in
set_option maxRecDepth 100000 in
theorem zt_X18_portal {l : Launch} {V : zm_V} {N : Nat} {S : zm_S} {out : (Unit × zm_S)} {d : Nat} {a0 : Nat} {i1 : Int32} {i2 : Int32} {i3 : Int32} (hd : 5 ≤ d) (h : zf_X18_portal N a0 i1 i2 i3 S = some out) : zm_Met l zk_E V yX18_portal (.code yX18_portal cX18_portal 6 none) d [.ref a0, .int i1, .int i2, .int i3] S 0 0 (zo_v out) zo_x := by
  refine zm_of (by decide +kernel) (Nat.le_of_ble_eq_true rfl) ?_
  intro p e R s m args below meth c hRR hX hr hxt
  have hR : R.frames = d ∧ R.locals = 64 * d := by rw [hRR]; exact ⟨rfl, rfl⟩
  have hX : zm_X p R s m args meth c RX18 "portal" cX18_portal 6 zk_E V 0 0 := hX
  unfold zf_X18_portal at h
  refine zw_sub (lv' := [(0, .ref a0), (1, .int i1), (2, .int i2), (3, .int i3)]) (List.forall_mem_cons.mpr ⟨rfl, (List.forall_mem_cons.mpr ⟨rfl, (List.forall_mem_cons.mpr ⟨rfl, (List.forall_mem_cons.mpr ⟨rfl, zs_nil⟩)⟩)⟩)⟩) ?_
  refine zw_aload_n hX dX18_portal_0 rfl ?_
  refine zw_aload_n hX dX18_portal_1 rfl ?_
  obtain ⟨b1, g, h⟩ := zb_some h
  refine zw_getr hX zl_X18_12 dX18_portal_2 g ?_
  refine zw_iload_n hX dX18_portal_5 rfl ?_
  refine zw_iconst (v := (1 : Int32)) hX dX18_portal_6 (by decide) ?_
  obtain ⟨_, gi, h⟩ := zb_some h
  obtain ⟨r3, g, h⟩ := zb_some h
  refine zc_Vi (as := [.int i3, .int (1 : Int32)]) hX gi (zt_X16_roomBeside (d := d - 1) (by omega) g) zl_X18_341 rfl dX18_portal_7 ⟨rfl, rfl, Nat.le_of_ble_eq_true rfl⟩ ⟨by omega, by omega⟩ ?_
  obtain ⟨_, gi, h⟩ := zb_some h
  obtain ⟨r5, g, h⟩ := zb_some h
  refine zc_Vi (as := [.int r3.1]) hX gi (zt_X18_roomOf (d := d - 1) (by omega) g) zl_X18_345 rfl dX18_portal_10 ⟨rfl, rfl, Nat.le_of_ble_eq_true rfl⟩ ⟨by omega, by omega⟩ ?_
  refine zw_istore hX dX18_portal_13 (by decide) ?_
  refine zw_aload_n hX dX18_portal_15 rfl ?_
  refine zw_aload_n hX dX18_portal_16 rfl ?_
  obtain ⟨b6, g, h⟩ := zb_some h
  refine zw_getr hX zl_X18_12 dX18_portal_17 g ?_
  refine zw_iload_n hX dX18_portal_20 rfl ?_
  refine zw_iconst (v := (0 : Int32)) hX dX18_portal_21 (by decide) ?_
  obtain ⟨_, gi, h⟩ := zb_some h
  obtain ⟨r8, g, h⟩ := zb_some h
  refine zc_Vi (as := [.int i3, .int (0 : Int32)]) hX gi (zt_X16_roomBeside (d := d - 1) (by omega) g) zl_X18_341 rfl dX18_portal_22 ⟨rfl, rfl, Nat.le_of_ble_eq_true rfl⟩ ⟨by omega, by omega⟩ ?_
  obtain ⟨_, gi, h⟩ := zb_some h
  obtain ⟨r10, g, h⟩ := zb_some h
  refine zc_Vi (as := [.int r8.1]) hX gi (zt_X18_roomOf (d := d - 1) (by omega) g) zl_X18_345 rfl dX18_portal_25 ⟨rfl, rfl, Nat.le_of_ble_eq_true rfl⟩ ⟨by omega, by omega⟩ ?_
  refine zw_istore hX dX18_portal_28 (by decide) ?_
  refine zw_iload hX dX18_portal_30 rfl ?_
  refine zw_iload hX dX18_portal_32 rfl ?_
  refine zw_icmp_eq (tgt := 131) hX dX18_portal_34 (by decide) (fun c34 => ?_) (fun c34 => ?_)
  · rw [if_pos c34] at h
    obtain rfl := Option.some.inj h
    exact zw_vret hX hr dX18_portal_131 ⟨rfl, rfl⟩
  · rw [if_neg c34] at h
    refine zw_aload_n hX dX18_portal_37 rfl ?_
    obtain ⟨b11, g, h⟩ := zb_some h
    refine zw_getr hX zl_X18_12 dX18_portal_38 g ?_
    refine zw_iload_n hX dX18_portal_41 rfl ?_
    refine zw_iload_n hX dX18_portal_42 rfl ?_
    obtain ⟨_, gi, h⟩ := zb_some h
    obtain ⟨r13, g, h⟩ := zb_some h
    refine zc_Vi (as := [.int i3, .int i2]) hX gi (zt_X16_partFrom (d := d - 1) (by omega) g) zl_X18_348 rfl dX18_portal_43 ⟨rfl, rfl, Nat.le_of_ble_eq_true rfl⟩ ⟨by omega, by omega⟩ ?_
    refine zw_if_lt (tgt := 131) hX dX18_portal_46 (by decide) (fun c46 => ?_) (fun c46 => ?_)
    · rw [if_pos c46] at h
      obtain rfl := Option.some.inj h
      exact zw_vret hX hr dX18_portal_131 ⟨rfl, rfl⟩
    · rw [if_neg c46] at h
      refine zw_aload_n hX dX18_portal_49 rfl ?_
      obtain ⟨b14, g, h⟩ := zb_some h
      refine zw_getr hX zl_X18_53 dX18_portal_50 g ?_
      refine zw_aload_n hX dX18_portal_53 rfl ?_
      obtain ⟨v15, g, h⟩ := zb_some h
      refine zw_geti hX zl_X18_351 dX18_portal_54 g ?_
      refine zw_iload hX dX18_portal_57 rfl ?_
      obtain ⟨S16, g, h⟩ := zb_some h
      refine zw_si hX dX18_portal_59 g ?_
      refine zw_aload_n hX dX18_portal_60 rfl ?_
      obtain ⟨b17, g, h⟩ := zb_some h
      refine zw_getr hX zl_X18_57 dX18_portal_61 g ?_
      refine zw_aload_n hX dX18_portal_64 rfl ?_
      obtain ⟨v18, g, h⟩ := zb_some h
      refine zw_geti hX zl_X18_351 dX18_portal_65 g ?_
      refine zw_iload hX dX18_portal_68 rfl ?_
      obtain ⟨S19, g, h⟩ := zb_some h
      refine zw_si hX dX18_portal_70 g ?_
      refine zw_aload_n hX dX18_portal_71 rfl ?_
      obtain ⟨b20, g, h⟩ := zb_some h
      refine zw_getr hX zl_X18_60 dX18_portal_72 g ?_
      refine zw_aload_n hX dX18_portal_75 rfl ?_
      obtain ⟨v21, g, h⟩ := zb_some h
      refine zw_geti hX zl_X18_351 dX18_portal_76 g ?_
      refine zw_iload_n hX dX18_portal_79 rfl ?_
      obtain ⟨S22, g, h⟩ := zb_some h
      refine zw_si hX dX18_portal_80 g ?_
      refine zw_aload_n hX dX18_portal_81 rfl ?_
      obtain ⟨b23, g, h⟩ := zb_some h
      refine zw_getr hX zl_X18_63 dX18_portal_82 g ?_
      refine zw_aload_n hX dX18_portal_85 rfl ?_
      obtain ⟨v24, g, h⟩ := zb_some h
      refine zw_geti hX zl_X18_351 dX18_portal_86 g ?_
      refine zw_iload_n hX dX18_portal_89 rfl ?_
      obtain ⟨S25, g, h⟩ := zb_some h
      refine zw_si hX dX18_portal_90 g ?_
      refine zw_aload_n hX dX18_portal_91 rfl ?_
      obtain ⟨b26, g, h⟩ := zb_some h
      refine zw_getr hX zl_X18_66 dX18_portal_92 g ?_
      refine zw_aload_n hX dX18_portal_95 rfl ?_
      obtain ⟨v27, g, h⟩ := zb_some h
      refine zw_geti hX zl_X18_351 dX18_portal_96 g ?_
      refine zw_aload_n hX dX18_portal_99 rfl ?_
      obtain ⟨b28, g, h⟩ := zb_some h
      refine zw_getr hX zl_X18_12 dX18_portal_100 g ?_
      refine zw_iload_n hX dX18_portal_103 rfl ?_
      refine zw_iload_n hX dX18_portal_104 rfl ?_
      obtain ⟨_, gi, h⟩ := zb_some h
      obtain ⟨r30, g, h⟩ := zb_some h
      refine zc_Vi (as := [.int i3, .int i2]) hX gi (zt_X16_partFrom (d := d - 1) (by omega) g) zl_X18_348 rfl dX18_portal_105 ⟨rfl, rfl, Nat.le_of_ble_eq_true rfl⟩ ⟨by omega, by omega⟩ ?_
      obtain ⟨S31, g, h⟩ := zb_some h
      refine zw_si hX dX18_portal_108 g ?_
      refine zw_aload_n hX dX18_portal_109 rfl ?_
      obtain ⟨b32, g, h⟩ := zb_some h
      refine zw_getr hX zl_X18_79 dX18_portal_110 g ?_
      refine zw_aload_n hX dX18_portal_113 rfl ?_
      obtain ⟨v33, g, h⟩ := zb_some h
      refine zw_geti hX zl_X18_351 dX18_portal_114 g ?_
      refine zw_ldcw (v := (2147483647 : Int32)) hX dX18_portal_117 zl_X18_354 ?_
      obtain ⟨S34, g, h⟩ := zb_some h
      refine zw_si hX dX18_portal_120 g ?_
      refine zw_aload_n hX dX18_portal_121 rfl ?_
      refine zw_dup hX dX18_portal_122 rfl ?_
      obtain ⟨v35, g, h⟩ := zb_some h
      refine zw_geti hX zl_X18_351 dX18_portal_123 g ?_
      refine zw_iconst (v := (1 : Int32)) hX dX18_portal_126 (by decide) ?_
      refine zw_iadd hX dX18_portal_127 ?_
      obtain ⟨S36, g, h⟩ := zb_some h
      refine zw_putv hX zl_X18_351 zt_18_10 dX18_portal_128 rfl rfl g ?_
      obtain rfl := Option.some.inj h
      exact zw_vret hX hr dX18_portal_131 ⟨rfl, rfl⟩
set_option maxHeartbeats 4000000 in
set_option maxRecDepth 100000 in
theorem zt_X18_findPortals_L41 {p : Program} {l : Launch} {e : Env} {R : Room} {s : State} {m : MethodId} {args : Array Value} {below : List Frame} {meth : Method} {c : Code} {V : zm_V} {mc ms d rc rs : Nat} (hX : zm_X p R s m args meth c RX18 "findPortals" cX18_findPortals 5 zk_E V mc ms) (hr : meth.sig.returnType = none) (hR : R.frames = d ∧ R.locals = 64 * d) (hd : 6 ≤ d) {N : Nat} {res : (Unit × zm_S) ⊕ ((Unit) × zm_S)} {out : (Unit × zm_S)} (a0 : Nat) (i1 : Int32) (i2 : Int32) (hf : ∀ o, res = .inl o → o = out) (hk : ∀ (S' : zm_S), res = .inr ((), S') → zw p l e R s m args below meth c (vx_MQ below (zm_Qc zk_E V (zo_v out)) (zm_XC zk_E V zo_x) args s mc ms (fun q => V.2.2.2.1 ≤ q)) 5 zk_E V mc ms 69 [(0, .ref a0), (1, .int i1), (2, .int i2)] [] S' rc rs) : ∀ (n : Nat) (i3 : Int32) (i4 : Int32) (S : zm_S), zf_X18_findPortals_L41 N n a0 i1 i2 i3 i4 S = some res → zw p l e R s m args below meth c (vx_MQ below (zm_Qc zk_E V (zo_v out)) (zm_XC zk_E V zo_x) args s mc ms (fun q => V.2.2.2.1 ≤ q)) 5 zk_E V mc ms 41 [(0, .ref a0), (1, .int i1), (2, .int i2), (3, .int i3), (4, .int i4)] [] S rc rs := by
  intro n
  induction n with
  | zero => intro i3 i4 S h; cases h
  | succ n ih =>
    intro i3 i4 S h
    rw [zf_X18_findPortals_L41] at h
    refine zw_iload_n hX dX18_findPortals_41 rfl ?_
    refine zw_if_lt (tgt := 69) hX dX18_findPortals_42 (by decide) (fun c42 => ?_) (fun c42 => ?_)
    · rw [if_pos c42] at h
      refine zw_sub (lv' := [(0, .ref a0), (1, .int i1), (2, .int i2)]) (List.forall_mem_cons.mpr ⟨rfl, (List.forall_mem_cons.mpr ⟨rfl, (List.forall_mem_cons.mpr ⟨rfl, zs_nil⟩)⟩)⟩) ?_
      exact hk  _ (Option.some.inj h).symm
    · rw [if_neg c42] at h
      refine zw_aload_n hX dX18_findPortals_45 rfl ?_
      refine zw_iload_n hX dX18_findPortals_46 rfl ?_
      refine zw_iload_n hX dX18_findPortals_47 rfl ?_
      refine zw_iload_n hX dX18_findPortals_48 rfl ?_
      obtain ⟨_, gi, h⟩ := zb_some h
      obtain ⟨r10, g, h⟩ := zb_some h
      refine zc_Vv (as := [.int i1, .int i2, .int i3]) hX gi (zt_X18_portal (d := d - 1) (by omega) g) zl_X18_334 rfl dX18_findPortals_49 ⟨rfl, rfl, Nat.le_of_ble_eq_true rfl⟩ ⟨by omega, by omega⟩ ?_
      refine zw_aload_n hX dX18_findPortals_52 rfl ?_
      obtain ⟨b11, g, h⟩ := zb_some h
      refine zw_getr hX zl_X18_12 dX18_findPortals_53 g ?_
      refine zw_iload_n hX dX18_findPortals_56 rfl ?_
      refine zw_iload hX dX18_findPortals_57 rfl ?_
      obtain ⟨_, gi, h⟩ := zb_some h
      obtain ⟨r13, g, h⟩ := zb_some h
      refine zc_Vi (as := [.int i1, .int i4]) hX gi (zt_X16_pieceOf (d := d - 1) (by omega) g) zl_X18_331 rfl dX18_findPortals_59 ⟨rfl, rfl, Nat.le_of_ble_eq_true rfl⟩ ⟨by omega, by omega⟩ ?_
      refine zw_istore_n hX dX18_findPortals_62 (by decide) ?_
      refine zw_iinc (v := (i4 + (1 : Int32))) hX dX18_findPortals_63 rfl rfl (by decide) ?_
      refine zw_goto (tgt := 41) hX dX18_findPortals_66 (by decide) ?_
      refine zw_sub (lv' := [(0, .ref a0), (1, .int i1), (2, .int i2), (3, .int r13.1), (4, .int (i4 + (1 : Int32)))]) (List.forall_mem_cons.mpr ⟨rfl, (List.forall_mem_cons.mpr ⟨rfl, (List.forall_mem_cons.mpr ⟨rfl, (List.forall_mem_cons.mpr ⟨rfl, (List.forall_mem_cons.mpr ⟨rfl, zs_nil⟩)⟩)⟩)⟩)⟩) ?_
      exact ih _ _ _ h
set_option maxHeartbeats 4000000 in
set_option maxRecDepth 100000 in
theorem zt_X18_findPortals_L15 {p : Program} {l : Launch} {e : Env} {R : Room} {s : State} {m : MethodId} {args : Array Value} {below : List Frame} {meth : Method} {c : Code} {V : zm_V} {mc ms d rc rs : Nat} (hX : zm_X p R s m args meth c RX18 "findPortals" cX18_findPortals 5 zk_E V mc ms) (hr : meth.sig.returnType = none) (hR : R.frames = d ∧ R.locals = 64 * d) (hd : 6 ≤ d) {N : Nat} {res : (Unit × zm_S) ⊕ ((Unit) × zm_S)} {out : (Unit × zm_S)} (a0 : Nat) (i1 : Int32) (hf : ∀ o, res = .inl o → o = out) (hk : ∀ (S' : zm_S), res = .inr ((), S') → zw p l e R s m args below meth c (vx_MQ below (zm_Qc zk_E V (zo_v out)) (zm_XC zk_E V zo_x) args s mc ms (fun q => V.2.2.2.1 ≤ q)) 5 zk_E V mc ms 75 [(0, .ref a0), (1, .int i1)] [] S' rc rs) : ∀ (n : Nat) (i2 : Int32) (S : zm_S), zf_X18_findPortals_L15 N n a0 i1 i2 S = some res → zw p l e R s m args below meth c (vx_MQ below (zm_Qc zk_E V (zo_v out)) (zm_XC zk_E V zo_x) args s mc ms (fun q => V.2.2.2.1 ≤ q)) 5 zk_E V mc ms 15 [(0, .ref a0), (1, .int i1), (2, .int i2)] [] S rc rs := by
  intro n
  induction n with
  | zero => intro i2 S h; cases h
  | succ n ih =>
    intro i2 S h
    rw [zf_X18_findPortals_L15] at h
    refine zw_iload_n hX dX18_findPortals_15 rfl ?_
    refine zw_aload_n hX dX18_findPortals_16 rfl ?_
    obtain ⟨b3, g, h⟩ := zb_some h
    refine zw_getr hX zl_X18_12 dX18_findPortals_17 g ?_
    obtain ⟨b4, g, h⟩ := zb_some h
    refine zw_getr hX zl_X18_221 dX18_findPortals_20 g ?_
    refine zw_iload_n hX dX18_findPortals_23 rfl ?_
    obtain ⟨v5, g, h⟩ := zb_some h
    refine zw_xi hX dX18_findPortals_24 g ?_
    refine zw_icmp_ge (tgt := 75) hX dX18_findPortals_25 (by decide) (fun c25 => ?_) (fun c25 => ?_)
    · rw [if_pos c25] at h
      refine zw_sub (lv' := [(0, .ref a0), (1, .int i1)]) (List.forall_mem_cons.mpr ⟨rfl, (List.forall_mem_cons.mpr ⟨rfl, zs_nil⟩)⟩) ?_
      exact hk  _ (Option.some.inj h).symm
    · rw [if_neg c25] at h
      refine zw_aload_n hX dX18_findPortals_28 rfl ?_
      obtain ⟨b6, g, h⟩ := zb_some h
      refine zw_getr hX zl_X18_12 dX18_findPortals_29 g ?_
      refine zw_iload_n hX dX18_findPortals_32 rfl ?_
      refine zw_iconst (v := (0 : Int32)) hX dX18_findPortals_33 (by decide) ?_
      obtain ⟨_, gi, h⟩ := zb_some h
      obtain ⟨r8, g, h⟩ := zb_some h
      refine zc_Vi (as := [.int i1, .int (0 : Int32)]) hX gi (zt_X16_pieceOf (d := d - 1) (by omega) g) zl_X18_331 rfl dX18_findPortals_34 ⟨rfl, rfl, Nat.le_of_ble_eq_true rfl⟩ ⟨by omega, by omega⟩ ?_
      refine zw_istore_n hX dX18_findPortals_37 (by decide) ?_
      refine zw_iconst (v := (1 : Int32)) hX dX18_findPortals_38 (by decide) ?_
      refine zw_istore hX dX18_findPortals_39 (by decide) ?_
      obtain ⟨r, g, h⟩ := zb_some h
      refine zw_sub (lv' := [(0, .ref a0), (1, .int i1), (2, .int i2), (3, .int r8.1), (4, .int (1 : Int32))]) (List.forall_mem_cons.mpr ⟨rfl, (List.forall_mem_cons.mpr ⟨rfl, (List.forall_mem_cons.mpr ⟨rfl, (List.forall_mem_cons.mpr ⟨rfl, (List.forall_mem_cons.mpr ⟨rfl, zs_nil⟩)⟩)⟩)⟩)⟩) ?_
      refine zt_X18_findPortals_L41 hX hr hR hd (res := r) (out := out) a0 i1 i2 ?_ ?_ N _ _ _ g
      · intro o ho
        subst ho
        exact hf _ (Option.some.inj h).symm
      · intro  S14 hx
        subst hx
        try dsimp only at h
        refine zw_iinc (v := (i2 + (1 : Int32))) hX dX18_findPortals_69 rfl rfl (by decide) ?_
        refine zw_goto (tgt := 15) hX dX18_findPortals_72 (by decide) ?_
        refine zw_sub (lv' := [(0, .ref a0), (1, .int i1), (2, .int (i2 + (1 : Int32)))]) (List.forall_mem_cons.mpr ⟨rfl, (List.forall_mem_cons.mpr ⟨rfl, (List.forall_mem_cons.mpr ⟨rfl, zs_nil⟩)⟩)⟩) ?_
        exact ih _ _ h
set_option maxHeartbeats 4000000 in
set_option maxRecDepth 100000 in
theorem zt_X18_findPortals_L2 {p : Program} {l : Launch} {e : Env} {R : Room} {s : State} {m : MethodId} {args : Array Value} {below : List Frame} {meth : Method} {c : Code} {V : zm_V} {mc ms d rc rs : Nat} (hX : zm_X p R s m args meth c RX18 "findPortals" cX18_findPortals 5 zk_E V mc ms) (hr : meth.sig.returnType = none) (hR : R.frames = d ∧ R.locals = 64 * d) (hd : 6 ≤ d) {N : Nat} {res : (Unit × zm_S) ⊕ ((Unit) × zm_S)} {out : (Unit × zm_S)} (a0 : Nat) (hf : ∀ o, res = .inl o → o = out) (hk : ∀ (S' : zm_S), res = .inr ((), S') → zw p l e R s m args below meth c (vx_MQ below (zm_Qc zk_E V (zo_v out)) (zm_XC zk_E V zo_x) args s mc ms (fun q => V.2.2.2.1 ≤ q)) 5 zk_E V mc ms 81 [] [] S' rc rs) : ∀ (n : Nat) (i1 : Int32) (S : zm_S), zf_X18_findPortals_L2 N n a0 i1 S = some res → zw p l e R s m args below meth c (vx_MQ below (zm_Qc zk_E V (zo_v out)) (zm_XC zk_E V zo_x) args s mc ms (fun q => V.2.2.2.1 ≤ q)) 5 zk_E V mc ms 2 [(0, .ref a0), (1, .int i1)] [] S rc rs := by
  intro n
  induction n with
  | zero => intro i1 S h; cases h
  | succ n ih =>
    intro i1 S h
    rw [zf_X18_findPortals_L2] at h
    refine zw_iload_n hX dX18_findPortals_2 rfl ?_
    refine zw_aload_n hX dX18_findPortals_3 rfl ?_
    obtain ⟨b1, g, h⟩ := zb_some h
    refine zw_getr hX zl_X18_12 dX18_findPortals_4 g ?_
    obtain ⟨v2, g, h⟩ := zb_some h
    refine zw_geti hX zl_X18_196 dX18_findPortals_7 g ?_
    refine zw_icmp_ge (tgt := 81) hX dX18_findPortals_10 (by decide) (fun c10 => ?_) (fun c10 => ?_)
    · rw [if_pos c10] at h
      refine zw_sub (lv' := []) zs_nil ?_
      exact hk  _ (Option.some.inj h).symm
    · rw [if_neg c10] at h
      refine zw_iconst (v := (0 : Int32)) hX dX18_findPortals_13 (by decide) ?_
      refine zw_istore_n hX dX18_findPortals_14 (by decide) ?_
      obtain ⟨r, g, h⟩ := zb_some h
      refine zw_sub (lv' := [(0, .ref a0), (1, .int i1), (2, .int (0 : Int32))]) (List.forall_mem_cons.mpr ⟨rfl, (List.forall_mem_cons.mpr ⟨rfl, (List.forall_mem_cons.mpr ⟨rfl, zs_nil⟩)⟩)⟩) ?_
      refine zt_X18_findPortals_L15 hX hr hR hd (res := r) (out := out) a0 i1 ?_ ?_ N _ _ g
      · intro o ho
        subst ho
        exact hf _ (Option.some.inj h).symm
      · intro  S15 hx
        subst hx
        try dsimp only at h
        refine zw_iinc (v := (i1 + (1 : Int32))) hX dX18_findPortals_75 rfl rfl (by decide) ?_
        refine zw_goto (tgt := 2) hX dX18_findPortals_78 (by decide) ?_
        refine zw_sub (lv' := [(0, .ref a0), (1, .int (i1 + (1 : Int32)))]) (List.forall_mem_cons.mpr ⟨rfl, (List.forall_mem_cons.mpr ⟨rfl, zs_nil⟩)⟩) ?_
        exact ih _ _ h
set_option maxHeartbeats 4000000 in
set_option maxRecDepth 100000 in
theorem zt_X18_findPortals {l : Launch} {V : zm_V} {N : Nat} {S : zm_S} {out : (Unit × zm_S)} {d : Nat} {a0 : Nat} (hd : 6 ≤ d) (h : zf_X18_findPortals N a0 S = some out) : zm_Met l zk_E V yX18_findPortals (.code yX18_findPortals cX18_findPortals 5 none) d [.ref a0] S 0 0 (zo_v out) zo_x := by
  refine zm_of (by decide +kernel) (Nat.le_of_ble_eq_true rfl) ?_
  intro p e R s m args below meth c hRR hX hr hxt
  have hR : R.frames = d ∧ R.locals = 64 * d := by rw [hRR]; exact ⟨rfl, rfl⟩
  have hX : zm_X p R s m args meth c RX18 "findPortals" cX18_findPortals 5 zk_E V 0 0 := hX
  unfold zf_X18_findPortals at h
  refine zw_sub (lv' := [(0, .ref a0)]) (List.forall_mem_cons.mpr ⟨rfl, zs_nil⟩) ?_
  refine zw_iconst (v := (0 : Int32)) hX dX18_findPortals_0 (by decide) ?_
  refine zw_istore_n hX dX18_findPortals_1 (by decide) ?_
  obtain ⟨r, g, h⟩ := zb_some h
  refine zw_sub (lv' := [(0, .ref a0), (1, .int (0 : Int32))]) (List.forall_mem_cons.mpr ⟨rfl, (List.forall_mem_cons.mpr ⟨rfl, zs_nil⟩)⟩) ?_
  refine zt_X18_findPortals_L2 hX hr hR hd (res := r) (out := out) a0 ?_ ?_ N _ _ g
  · intro o ho
    subst ho
    exact Option.some.inj h
  · intro  S16 hx
    subst hx
    try dsimp only at h
    obtain rfl := Option.some.inj h
    exact zw_vret hX hr dX18_findPortals_81 ⟨rfl, rfl⟩
set_option maxHeartbeats 4000000 in
set_option maxRecDepth 100000 in
theorem zt_X18_isOutside {l : Launch} {V : zm_V} {N : Nat} {S : zm_S} {out : (Int32 × zm_S)} {d : Nat} {a0 : Nat} {i1 : Int32} {i2 : Int32} (hd : 3 ≤ d) (h : zf_X18_isOutside N a0 i1 i2 S = some out) : zm_Met l zk_E V yX18_isOutside (.code yX18_isOutside cX18_isOutside 3 (some .boolean)) d [.ref a0, .int i1, .int i2] S 0 0 (zo_i out) zo_x := by
  refine zm_of (by decide +kernel) (Nat.le_of_ble_eq_true rfl) ?_
  intro p e R s m args below meth c hRR hX hr hxt
  have hR : R.frames = d ∧ R.locals = 64 * d := by rw [hRR]; exact ⟨rfl, rfl⟩
  have hX : zm_X p R s m args meth c RX18 "isOutside" cX18_isOutside 3 zk_E V 0 0 := hX
  unfold zf_X18_isOutside at h
  refine zw_sub (lv' := [(0, .ref a0), (1, .int i1), (2, .int i2)]) (List.forall_mem_cons.mpr ⟨rfl, (List.forall_mem_cons.mpr ⟨rfl, (List.forall_mem_cons.mpr ⟨rfl, zs_nil⟩)⟩)⟩) ?_
  refine zw_iload_n hX dX18_isOutside_0 rfl ?_
  refine zw_iload_n hX dX18_isOutside_1 rfl ?_
  obtain ⟨r2, g, h⟩ := zb_some h
  refine zc_Si (as := [.int i1, .int i2]) hX (zt_X18_isCell (d := d - 1) (by omega) g) zl_X18_266 dX18_isOutside_2 ⟨rfl, rfl, Nat.le_of_ble_eq_true rfl⟩ ⟨by omega, by omega⟩ ?_
  refine zw_if_eq (tgt := 22) hX dX18_isOutside_5 (by decide) (fun c5 => ?_) (fun c5 => ?_)
  · rw [if_pos c5] at h
    refine zw_iconst (v := (1 : Int32)) hX dX18_isOutside_22 (by decide) ?_
    refine zw_goto (tgt := 27) hX dX18_isOutside_23 (by decide) ?_
    obtain rfl := Option.some.inj h
    exact zw_iret hX hr dX18_isOutside_27 rfl ⟨rfl, rfl⟩
  · rw [if_neg c5] at h
    refine zw_aload_n hX dX18_isOutside_8 rfl ?_
    obtain ⟨b3, g, h⟩ := zb_some h
    refine zw_getr hX zl_X18_175 dX18_isOutside_9 g ?_
    refine zw_bipush (v := (24 : Int32)) hX dX18_isOutside_12 (by decide) ?_
    refine zw_iload_n hX dX18_isOutside_14 rfl ?_
    refine zw_imul hX dX18_isOutside_15 ?_
    refine zw_iload_n hX dX18_isOutside_16 rfl ?_
    refine zw_iadd hX dX18_isOutside_17 ?_
    obtain ⟨v4, g, h⟩ := zb_some h
    refine zw_xi hX dX18_isOutside_18 g ?_
    refine zw_if_ge (tgt := 26) hX dX18_isOutside_19 (by decide) (fun c19 => ?_) (fun c19 => ?_)
    · rw [if_pos c19] at h
      refine zw_iconst (v := (0 : Int32)) hX dX18_isOutside_26 (by decide) ?_
      obtain rfl := Option.some.inj h
      exact zw_iret hX hr dX18_isOutside_27 rfl ⟨rfl, rfl⟩
    · rw [if_neg c19] at h
      refine zw_iconst (v := (1 : Int32)) hX dX18_isOutside_22 (by decide) ?_
      refine zw_goto (tgt := 27) hX dX18_isOutside_23 (by decide) ?_
      obtain rfl := Option.some.inj h
      exact zw_iret hX hr dX18_isOutside_27 rfl ⟨rfl, rfl⟩
set_option maxHeartbeats 4000000 in
set_option maxRecDepth 100000 in
theorem zt_X18_nextX {l : Launch} {V : zm_V} {N : Nat} {S : zm_S} {out : (Int32 × zm_S)} {d : Nat} {i0 : Int32} {i1 : Int32} (hd : 1 ≤ d) (h : zf_X18_nextX N i0 i1 S = some out) : zm_Met l zk_E V yX18_nextX (.code yX18_nextX cX18_nextX 2 (some .int)) d [.int i0, .int i1] S 0 0 (zo_i out) zo_x := by
  refine zm_of (by decide +kernel) (Nat.le_of_ble_eq_true rfl) ?_
  intro p e R s m args below meth c hRR hX hr hxt
  have hR : R.frames = d ∧ R.locals = 64 * d := by rw [hRR]; exact ⟨rfl, rfl⟩
  have hX : zm_X p R s m args meth c RX18 "nextX" cX18_nextX 2 zk_E V 0 0 := hX
  unfold zf_X18_nextX at h
  refine zw_sub (lv' := [(0, .int i0), (1, .int i1)]) (List.forall_mem_cons.mpr ⟨rfl, (List.forall_mem_cons.mpr ⟨rfl, zs_nil⟩)⟩) ?_
  refine zw_iload_n hX dX18_nextX_0 rfl ?_
  refine zw_iload_n hX dX18_nextX_1 rfl ?_
  refine zw_if_ne (tgt := 9) hX dX18_nextX_2 (by decide) (fun c2 => ?_) (fun c2 => ?_)
  · rw [if_neg c2] at h
    refine zw_iload_n hX dX18_nextX_9 rfl ?_
    refine zw_iconst (v := (1 : Int32)) hX dX18_nextX_10 (by decide) ?_
    refine zw_icmp_ne (tgt := 18) hX dX18_nextX_11 (by decide) (fun c11 => ?_) (fun c11 => ?_)
    · rw [if_neg c11] at h
      refine zw_iconst (v := (0 : Int32)) hX dX18_nextX_18 (by decide) ?_
      refine zw_iadd hX dX18_nextX_19 ?_
      obtain rfl := Option.some.inj h
      exact zw_iret hX hr dX18_nextX_20 rfl ⟨rfl, rfl⟩
    · rw [if_pos c11] at h
      refine zw_iconst (v := (-1 : Int32)) hX dX18_nextX_14 (by decide) ?_
      refine zw_goto (tgt := 19) hX dX18_nextX_15 (by decide) ?_
      refine zw_iadd hX dX18_nextX_19 ?_
      obtain rfl := Option.some.inj h
      exact zw_iret hX hr dX18_nextX_20 rfl ⟨rfl, rfl⟩
  · rw [if_pos c2] at h
    refine zw_iconst (v := (1 : Int32)) hX dX18_nextX_5 (by decide) ?_
    refine zw_goto (tgt := 19) hX dX18_nextX_6 (by decide) ?_
    refine zw_iadd hX dX18_nextX_19 ?_
    obtain rfl := Option.some.inj h
    exact zw_iret hX hr dX18_nextX_20 rfl ⟨rfl, rfl⟩

