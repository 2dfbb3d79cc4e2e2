/-! ===== functions of methods, by program (wip/whole/tools/gen11.py) ===== -/
theorem dX2_wallFrom_0 : decode cX2_wallFrom 0 = .ok (.iload_n 3, 1) := by decide +kernel
theorem dX2_wallFrom_1 : decode cX2_wallFrom 1 = .ok (.tableswitch 99 0 2 #[27, 51, 75], 27) := by decide +kernel
theorem dX2_wallFrom_100 : decode cX2_wallFrom 100 = .ok (.iload_n 2, 1) := by decide +kernel
theorem dX2_wallFrom_101 : decode cX2_wallFrom 101 = .ok (.ifCond .le 21, 3) := by decide +kernel
theorem dX2_wallFrom_122 : decode cX2_wallFrom 122 = .ok (.iconst (-1), 1) := by decide +kernel
theorem dX2_wallFrom_123 : decode cX2_wallFrom 123 = .ok (.ireturn, 1) := by decide +kernel
theorem dX2_wallFrom_104 : decode cX2_wallFrom 104 = .ok (.aload_n 0, 1) := by decide +kernel
theorem dX2_wallFrom_105 : decode cX2_wallFrom 105 = .ok (.getfield 13, 3) := by decide +kernel
theorem dX2_wallFrom_108 : decode cX2_wallFrom 108 = .ok (.iconst 1, 1) := by decide +kernel
theorem dX2_wallFrom_109 : decode cX2_wallFrom 109 = .ok (.aaload, 1) := by decide +kernel
theorem dX2_wallFrom_110 : decode cX2_wallFrom 110 = .ok (.iload_n 1, 1) := by decide +kernel
theorem dX2_wallFrom_111 : decode cX2_wallFrom 111 = .ok (.bipush 25, 2) := by decide +kernel
theorem dX2_wallFrom_113 : decode cX2_wallFrom 113 = .ok (.imul, 1) := by decide +kernel
theorem dX2_wallFrom_114 : decode cX2_wallFrom 114 = .ok (.iload_n 2, 1) := by decide +kernel
theorem dX2_wallFrom_115 : decode cX2_wallFrom 115 = .ok (.iadd, 1) := by decide +kernel
theorem dX2_wallFrom_116 : decode cX2_wallFrom 116 = .ok (.iconst 1, 1) := by decide +kernel
theorem dX2_wallFrom_117 : decode cX2_wallFrom 117 = .ok (.isub, 1) := by decide +kernel
theorem dX2_wallFrom_118 : decode cX2_wallFrom 118 = .ok (.iaload, 1) := by decide +kernel
theorem dX2_wallFrom_119 : decode cX2_wallFrom 119 = .ok (.goto 4, 3) := by decide +kernel
theorem dX2_wallFrom_28 : decode cX2_wallFrom 28 = .ok (.iload_n 1, 1) := by decide +kernel
theorem dX2_wallFrom_29 : decode cX2_wallFrom 29 = .ok (.bipush 24, 2) := by decide +kernel
theorem dX2_wallFrom_31 : decode cX2_wallFrom 31 = .ok (.if_icmp .ge 19, 3) := by decide +kernel
theorem dX2_wallFrom_50 : decode cX2_wallFrom 50 = .ok (.iconst (-1), 1) := by decide +kernel
theorem dX2_wallFrom_51 : decode cX2_wallFrom 51 = .ok (.ireturn, 1) := by decide +kernel
theorem dX2_wallFrom_34 : decode cX2_wallFrom 34 = .ok (.aload_n 0, 1) := by decide +kernel
theorem dX2_wallFrom_35 : decode cX2_wallFrom 35 = .ok (.getfield 13, 3) := by decide +kernel
theorem dX2_wallFrom_38 : decode cX2_wallFrom 38 = .ok (.iconst 0, 1) := by decide +kernel
theorem dX2_wallFrom_39 : decode cX2_wallFrom 39 = .ok (.aaload, 1) := by decide +kernel
theorem dX2_wallFrom_40 : decode cX2_wallFrom 40 = .ok (.iload_n 1, 1) := by decide +kernel
theorem dX2_wallFrom_41 : decode cX2_wallFrom 41 = .ok (.bipush 25, 2) := by decide +kernel
theorem dX2_wallFrom_43 : decode cX2_wallFrom 43 = .ok (.imul, 1) := by decide +kernel
theorem dX2_wallFrom_44 : decode cX2_wallFrom 44 = .ok (.iload_n 2, 1) := by decide +kernel
theorem dX2_wallFrom_45 : decode cX2_wallFrom 45 = .ok (.iadd, 1) := by decide +kernel
theorem dX2_wallFrom_46 : decode cX2_wallFrom 46 = .ok (.iaload, 1) := by decide +kernel
theorem dX2_wallFrom_47 : decode cX2_wallFrom 47 = .ok (.goto 4, 3) := by decide +kernel
theorem dX2_wallFrom_52 : decode cX2_wallFrom 52 = .ok (.iload_n 2, 1) := by decide +kernel
theorem dX2_wallFrom_53 : decode cX2_wallFrom 53 = .ok (.bipush 24, 2) := by decide +kernel
theorem dX2_wallFrom_55 : decode cX2_wallFrom 55 = .ok (.if_icmp .ge 19, 3) := by decide +kernel
theorem dX2_wallFrom_74 : decode cX2_wallFrom 74 = .ok (.iconst (-1), 1) := by decide +kernel
theorem dX2_wallFrom_75 : decode cX2_wallFrom 75 = .ok (.ireturn, 1) := by decide +kernel
theorem dX2_wallFrom_58 : decode cX2_wallFrom 58 = .ok (.aload_n 0, 1) := by decide +kernel
theorem dX2_wallFrom_59 : decode cX2_wallFrom 59 = .ok (.getfield 13, 3) := by decide +kernel
theorem dX2_wallFrom_62 : decode cX2_wallFrom 62 = .ok (.iconst 1, 1) := by decide +kernel
theorem dX2_wallFrom_63 : decode cX2_wallFrom 63 = .ok (.aaload, 1) := by decide +kernel
theorem dX2_wallFrom_64 : decode cX2_wallFrom 64 = .ok (.iload_n 1, 1) := by decide +kernel
theorem dX2_wallFrom_65 : decode cX2_wallFrom 65 = .ok (.bipush 25, 2) := by decide +kernel
theorem dX2_wallFrom_67 : decode cX2_wallFrom 67 = .ok (.imul, 1) := by decide +kernel
theorem dX2_wallFrom_68 : decode cX2_wallFrom 68 = .ok (.iload_n 2, 1) := by decide +kernel
theorem dX2_wallFrom_69 : decode cX2_wallFrom 69 = .ok (.iadd, 1) := by decide +kernel
theorem dX2_wallFrom_70 : decode cX2_wallFrom 70 = .ok (.iaload, 1) := by decide +kernel
theorem dX2_wallFrom_71 : decode cX2_wallFrom 71 = .ok (.goto 4, 3) := by decide +kernel
theorem dX2_wallFrom_76 : decode cX2_wallFrom 76 = .ok (.iload_n 1, 1) := by decide +kernel
theorem dX2_wallFrom_77 : decode cX2_wallFrom 77 = .ok (.ifCond .le 21, 3) := by decide +kernel
theorem dX2_wallFrom_98 : decode cX2_wallFrom 98 = .ok (.iconst (-1), 1) := by decide +kernel
theorem dX2_wallFrom_99 : decode cX2_wallFrom 99 = .ok (.ireturn, 1) := by decide +kernel
theorem dX2_wallFrom_80 : decode cX2_wallFrom 80 = .ok (.aload_n 0, 1) := by decide +kernel
theorem dX2_wallFrom_81 : decode cX2_wallFrom 81 = .ok (.getfield 13, 3) := by decide +kernel
theorem dX2_wallFrom_84 : decode cX2_wallFrom 84 = .ok (.iconst 0, 1) := by decide +kernel
theorem dX2_wallFrom_85 : decode cX2_wallFrom 85 = .ok (.aaload, 1) := by decide +kernel
theorem dX2_wallFrom_86 : decode cX2_wallFrom 86 = .ok (.iload_n 1, 1) := by decide +kernel
theorem dX2_wallFrom_87 : decode cX2_wallFrom 87 = .ok (.iconst 1, 1) := by decide +kernel
theorem dX2_wallFrom_88 : decode cX2_wallFrom 88 = .ok (.isub, 1) := by decide +kernel
theorem dX2_wallFrom_89 : decode cX2_wallFrom 89 = .ok (.bipush 25, 2) := by decide +kernel
theorem dX2_wallFrom_91 : decode cX2_wallFrom 91 = .ok (.imul, 1) := by decide +kernel
theorem dX2_wallFrom_92 : decode cX2_wallFrom 92 = .ok (.iload_n 2, 1) := by decide +kernel
theorem dX2_wallFrom_93 : decode cX2_wallFrom 93 = .ok (.iadd, 1) := by decide +kernel
theorem dX2_wallFrom_94 : decode cX2_wallFrom 94 = .ok (.iaload, 1) := by decide +kernel
theorem dX2_wallFrom_95 : decode cX2_wallFrom 95 = .ok (.goto 4, 3) := by decide +kernel
theorem dX2_markPoints_0 : decode cX2_markPoints 0 = .ok (.iconst 0, 1) := by decide +kernel
theorem dX2_markPoints_1 : decode cX2_markPoints 1 = .ok (.istore_n 1, 1) := by decide +kernel
theorem dX2_markPoints_2 : decode cX2_markPoints 2 = .ok (.iload_n 1, 1) := by decide +kernel
theorem dX2_markPoints_3 : decode cX2_markPoints 3 = .ok (.bipush 24, 2) := by decide +kernel
theorem dX2_markPoints_5 : decode cX2_markPoints 5 = .ok (.if_icmp .gt 105, 3) := by decide +kernel
theorem dX2_markPoints_8 : decode cX2_markPoints 8 = .ok (.iconst 0, 1) := by decide +kernel
theorem dX2_markPoints_9 : decode cX2_markPoints 9 = .ok (.istore_n 2, 1) := by decide +kernel
theorem dX2_markPoints_10 : decode cX2_markPoints 10 = .ok (.iload_n 2, 1) := by decide +kernel
theorem dX2_markPoints_11 : decode cX2_markPoints 11 = .ok (.bipush 24, 2) := by decide +kernel
theorem dX2_markPoints_13 : decode cX2_markPoints 13 = .ok (.if_icmp .gt 91, 3) := by decide +kernel
theorem dX2_markPoints_16 : decode cX2_markPoints 16 = .ok (.aload_n 0, 1) := by decide +kernel
theorem dX2_markPoints_17 : decode cX2_markPoints 17 = .ok (.iload_n 1, 1) := by decide +kernel
theorem dX2_markPoints_18 : decode cX2_markPoints 18 = .ok (.iload_n 2, 1) := by decide +kernel
theorem dX2_markPoints_19 : decode cX2_markPoints 19 = .ok (.iconst 0, 1) := by decide +kernel
theorem dX2_markPoints_20 : decode cX2_markPoints 20 = .ok (.invokevirtual 110, 3) := by decide +kernel
theorem dX2_markPoints_23 : decode cX2_markPoints 23 = .ok (.iconst (-1), 1) := by decide +kernel
theorem dX2_markPoints_24 : decode cX2_markPoints 24 = .ok (.if_icmp .ne 14, 3) := by decide +kernel
theorem dX2_markPoints_38 : decode cX2_markPoints 38 = .ok (.iconst 1, 1) := by decide +kernel
theorem dX2_markPoints_39 : decode cX2_markPoints 39 = .ok (.goto 4, 3) := by decide +kernel
theorem dX2_markPoints_43 : decode cX2_markPoints 43 = .ok (.istore_n 3, 1) := by decide +kernel
theorem dX2_markPoints_44 : decode cX2_markPoints 44 = .ok (.aload_n 0, 1) := by decide +kernel
theorem dX2_markPoints_45 : decode cX2_markPoints 45 = .ok (.iload_n 1, 1) := by decide +kernel
theorem dX2_markPoints_46 : decode cX2_markPoints 46 = .ok (.iload_n 2, 1) := by decide +kernel
theorem dX2_markPoints_47 : decode cX2_markPoints 47 = .ok (.iconst 1, 1) := by decide +kernel
theorem dX2_markPoints_48 : decode cX2_markPoints 48 = .ok (.invokevirtual 110, 3) := by decide +kernel
theorem dX2_markPoints_51 : decode cX2_markPoints 51 = .ok (.iconst (-1), 1) := by decide +kernel
theorem dX2_markPoints_52 : decode cX2_markPoints 52 = .ok (.if_icmp .ne 14, 3) := by decide +kernel
theorem dX2_markPoints_66 : decode cX2_markPoints 66 = .ok (.iconst 1, 1) := by decide +kernel
theorem dX2_markPoints_67 : decode cX2_markPoints 67 = .ok (.goto 4, 3) := by decide +kernel
theorem dX2_markPoints_71 : decode cX2_markPoints 71 = .ok (.istore 4, 2) := by decide +kernel
theorem dX2_markPoints_73 : decode cX2_markPoints 73 = .ok (.aload_n 0, 1) := by decide +kernel
theorem dX2_markPoints_74 : decode cX2_markPoints 74 = .ok (.getfield 16, 3) := by decide +kernel
theorem dX2_markPoints_77 : decode cX2_markPoints 77 = .ok (.iload_n 1, 1) := by decide +kernel
theorem dX2_markPoints_78 : decode cX2_markPoints 78 = .ok (.bipush 25, 2) := by decide +kernel
theorem dX2_markPoints_80 : decode cX2_markPoints 80 = .ok (.imul, 1) := by decide +kernel
theorem dX2_markPoints_81 : decode cX2_markPoints 81 = .ok (.iload_n 2, 1) := by decide +kernel
theorem dX2_markPoints_82 : decode cX2_markPoints 82 = .ok (.iadd, 1) := by decide +kernel
theorem dX2_markPoints_83 : decode cX2_markPoints 83 = .ok (.iload_n 3, 1) := by decide +kernel
theorem dX2_markPoints_84 : decode cX2_markPoints 84 = .ok (.ifCond .eq 12, 3) := by decide +kernel
theorem dX2_markPoints_96 : decode cX2_markPoints 96 = .ok (.iconst 0, 1) := by decide +kernel
theorem dX2_markPoints_97 : decode cX2_markPoints 97 = .ok (.bastore, 1) := by decide +kernel
theorem dX2_markPoints_98 : decode cX2_markPoints 98 = .ok (.iinc 2 1, 3) := by decide +kernel
theorem dX2_markPoints_101 : decode cX2_markPoints 101 = .ok (.goto (-91), 3) := by decide +kernel
theorem dX2_markPoints_87 : decode cX2_markPoints 87 = .ok (.iload 4, 2) := by decide +kernel
theorem dX2_markPoints_89 : decode cX2_markPoints 89 = .ok (.ifCond .eq 7, 3) := by decide +kernel
theorem dX2_markPoints_92 : decode cX2_markPoints 92 = .ok (.iconst 1, 1) := by decide +kernel
theorem dX2_markPoints_93 : decode cX2_markPoints 93 = .ok (.goto 4, 3) := by decide +kernel
theorem dX2_markPoints_55 : decode cX2_markPoints 55 = .ok (.aload_n 0, 1) := by decide +kernel
theorem dX2_markPoints_56 : decode cX2_markPoints 56 = .ok (.iload_n 1, 1) := by decide +kernel
theorem dX2_markPoints_57 : decode cX2_markPoints 57 = .ok (.iload_n 2, 1) := by decide +kernel
theorem dX2_markPoints_58 : decode cX2_markPoints 58 = .ok (.iconst 3, 1) := by decide +kernel
theorem dX2_markPoints_59 : decode cX2_markPoints 59 = .ok (.invokevirtual 110, 3) := by decide +kernel
theorem dX2_markPoints_62 : decode cX2_markPoints 62 = .ok (.iconst (-1), 1) := by decide +kernel
theorem dX2_markPoints_63 : decode cX2_markPoints 63 = .ok (.if_icmp .eq 7, 3) := by decide +kernel
theorem dX2_markPoints_70 : decode cX2_markPoints 70 = .ok (.iconst 0, 1) := by decide +kernel
theorem dX2_markPoints_27 : decode cX2_markPoints 27 = .ok (.aload_n 0, 1) := by decide +kernel
theorem dX2_markPoints_28 : decode cX2_markPoints 28 = .ok (.iload_n 1, 1) := by decide +kernel
theorem dX2_markPoints_29 : decode cX2_markPoints 29 = .ok (.iload_n 2, 1) := by decide +kernel
theorem dX2_markPoints_30 : decode cX2_markPoints 30 = .ok (.iconst 2, 1) := by decide +kernel
theorem dX2_markPoints_31 : decode cX2_markPoints 31 = .ok (.invokevirtual 110, 3) := by decide +kernel
theorem dX2_markPoints_34 : decode cX2_markPoints 34 = .ok (.iconst (-1), 1) := by decide +kernel
theorem dX2_markPoints_35 : decode cX2_markPoints 35 = .ok (.if_icmp .eq 7, 3) := by decide +kernel
theorem dX2_markPoints_42 : decode cX2_markPoints 42 = .ok (.iconst 0, 1) := by decide +kernel
theorem dX2_markPoints_104 : decode cX2_markPoints 104 = .ok (.iinc 1 1, 3) := by decide +kernel
theorem dX2_markPoints_107 : decode cX2_markPoints 107 = .ok (.goto (-105), 3) := by decide +kernel
theorem dX2_markPoints_110 : decode cX2_markPoints 110 = .ok (.iconst 0, 1) := by decide +kernel
theorem dX2_markPoints_111 : decode cX2_markPoints 111 = .ok (.istore_n 1, 1) := by decide +kernel
theorem dX2_markPoints_112 : decode cX2_markPoints 112 = .ok (.iload_n 1, 1) := by decide +kernel
theorem dX2_markPoints_113 : decode cX2_markPoints 113 = .ok (.aload_n 0, 1) := by decide +kernel
theorem dX2_markPoints_114 : decode cX2_markPoints 114 = .ok (.getfield 54, 3) := by decide +kernel
theorem dX2_markPoints_117 : decode cX2_markPoints 117 = .ok (.getfield 94, 3) := by decide +kernel
theorem dX2_markPoints_120 : decode cX2_markPoints 120 = .ok (.if_icmp .ge 51, 3) := by decide +kernel
theorem dX2_markPoints_123 : decode cX2_markPoints 123 = .ok (.aload_n 0, 1) := by decide +kernel
theorem dX2_markPoints_124 : decode cX2_markPoints 124 = .ok (.getfield 54, 3) := by decide +kernel
theorem dX2_markPoints_127 : decode cX2_markPoints 127 = .ok (.getfield 103, 3) := by decide +kernel
theorem dX2_markPoints_130 : decode cX2_markPoints 130 = .ok (.iload_n 1, 1) := by decide +kernel
theorem dX2_markPoints_131 : decode cX2_markPoints 131 = .ok (.aaload, 1) := by decide +kernel
theorem dX2_markPoints_132 : decode cX2_markPoints 132 = .ok (.astore_n 2, 1) := by decide +kernel
theorem dX2_markPoints_133 : decode cX2_markPoints 133 = .ok (.aload_n 0, 1) := by decide +kernel
theorem dX2_markPoints_134 : decode cX2_markPoints 134 = .ok (.getfield 16, 3) := by decide +kernel
theorem dX2_markPoints_137 : decode cX2_markPoints 137 = .ok (.aload_n 2, 1) := by decide +kernel
theorem dX2_markPoints_138 : decode cX2_markPoints 138 = .ok (.iconst 0, 1) := by decide +kernel
theorem dX2_markPoints_139 : decode cX2_markPoints 139 = .ok (.iaload, 1) := by decide +kernel
theorem dX2_markPoints_140 : decode cX2_markPoints 140 = .ok (.bipush 25, 2) := by decide +kernel
theorem dX2_markPoints_142 : decode cX2_markPoints 142 = .ok (.imul, 1) := by decide +kernel
theorem dX2_markPoints_143 : decode cX2_markPoints 143 = .ok (.aload_n 2, 1) := by decide +kernel
theorem dX2_markPoints_144 : decode cX2_markPoints 144 = .ok (.iconst 1, 1) := by decide +kernel
theorem dX2_markPoints_145 : decode cX2_markPoints 145 = .ok (.iaload, 1) := by decide +kernel
theorem dX2_markPoints_146 : decode cX2_markPoints 146 = .ok (.iadd, 1) := by decide +kernel
theorem dX2_markPoints_147 : decode cX2_markPoints 147 = .ok (.iconst 1, 1) := by decide +kernel
theorem dX2_markPoints_148 : decode cX2_markPoints 148 = .ok (.bastore, 1) := by decide +kernel
theorem dX2_markPoints_149 : decode cX2_markPoints 149 = .ok (.aload_n 0, 1) := by decide +kernel
theorem dX2_markPoints_150 : decode cX2_markPoints 150 = .ok (.getfield 16, 3) := by decide +kernel
theorem dX2_markPoints_153 : decode cX2_markPoints 153 = .ok (.aload_n 2, 1) := by decide +kernel
theorem dX2_markPoints_154 : decode cX2_markPoints 154 = .ok (.iconst 2, 1) := by decide +kernel
theorem dX2_markPoints_155 : decode cX2_markPoints 155 = .ok (.iaload, 1) := by decide +kernel
theorem dX2_markPoints_156 : decode cX2_markPoints 156 = .ok (.bipush 25, 2) := by decide +kernel
theorem dX2_markPoints_158 : decode cX2_markPoints 158 = .ok (.imul, 1) := by decide +kernel
theorem dX2_markPoints_159 : decode cX2_markPoints 159 = .ok (.aload_n 2, 1) := by decide +kernel
theorem dX2_markPoints_160 : decode cX2_markPoints 160 = .ok (.iconst 3, 1) := by decide +kernel
theorem dX2_markPoints_161 : decode cX2_markPoints 161 = .ok (.iaload, 1) := by decide +kernel
theorem dX2_markPoints_162 : decode cX2_markPoints 162 = .ok (.iadd, 1) := by decide +kernel
theorem dX2_markPoints_163 : decode cX2_markPoints 163 = .ok (.iconst 1, 1) := by decide +kernel
theorem dX2_markPoints_164 : decode cX2_markPoints 164 = .ok (.bastore, 1) := by decide +kernel
theorem dX2_markPoints_165 : decode cX2_markPoints 165 = .ok (.iinc 1 1, 3) := by decide +kernel
theorem dX2_markPoints_168 : decode cX2_markPoints 168 = .ok (.goto (-56), 3) := by decide +kernel
theorem dX2_markPoints_171 : decode cX2_markPoints 171 = .ok (.return_, 1) := by decide +kernel
theorem dX2_placeBeside_0 : decode cX2_placeBeside 0 = .ok (.iload_n 1, 1) := by decide +kernel
theorem dX2_placeBeside_1 : decode cX2_placeBeside 1 = .ok (.bipush 24, 2) := by decide +kernel
theorem dX2_placeBeside_3 : decode cX2_placeBeside 3 = .ok (.idiv, 1) := by decide +kernel
theorem dX2_placeBeside_4 : decode cX2_placeBeside 4 = .ok (.bipush 25, 2) := by decide +kernel
theorem dX2_placeBeside_6 : decode cX2_placeBeside 6 = .ok (.imul, 1) := by decide +kernel
theorem dX2_placeBeside_7 : decode cX2_placeBeside 7 = .ok (.iload_n 1, 1) := by decide +kernel
theorem dX2_placeBeside_8 : decode cX2_placeBeside 8 = .ok (.bipush 24, 2) := by decide +kernel
theorem dX2_placeBeside_10 : decode cX2_placeBeside 10 = .ok (.irem, 1) := by decide +kernel
theorem dX2_placeBeside_11 : decode cX2_placeBeside 11 = .ok (.iadd, 1) := by decide +kernel
theorem dX2_placeBeside_12 : decode cX2_placeBeside 12 = .ok (.istore_n 3, 1) := by decide +kernel
theorem dX2_placeBeside_13 : decode cX2_placeBeside 13 = .ok (.iload_n 2, 1) := by decide +kernel
theorem dX2_placeBeside_14 : decode cX2_placeBeside 14 = .ok (.ifCond .ne 8, 3) := by decide +kernel
theorem dX2_placeBeside_22 : decode cX2_placeBeside 22 = .ok (.iload_n 2, 1) := by decide +kernel
theorem dX2_placeBeside_23 : decode cX2_placeBeside 23 = .ok (.iconst 2, 1) := by decide +kernel
theorem dX2_placeBeside_24 : decode cX2_placeBeside 24 = .ok (.if_icmp .ne 9, 3) := by decide +kernel
theorem dX2_placeBeside_33 : decode cX2_placeBeside 33 = .ok (.iload_n 3, 1) := by decide +kernel
theorem dX2_placeBeside_34 : decode cX2_placeBeside 34 = .ok (.ireturn, 1) := by decide +kernel
theorem dX2_placeBeside_27 : decode cX2_placeBeside 27 = .ok (.iload_n 3, 1) := by decide +kernel
theorem dX2_placeBeside_28 : decode cX2_placeBeside 28 = .ok (.iconst 1, 1) := by decide +kernel
theorem dX2_placeBeside_29 : decode cX2_placeBeside 29 = .ok (.iadd, 1) := by decide +kernel
theorem dX2_placeBeside_30 : decode cX2_placeBeside 30 = .ok (.goto 4, 3) := by decide +kernel
theorem dX2_placeBeside_17 : decode cX2_placeBeside 17 = .ok (.iload_n 3, 1) := by decide +kernel
theorem dX2_placeBeside_18 : decode cX2_placeBeside 18 = .ok (.bipush 25, 2) := by decide +kernel
theorem dX2_placeBeside_20 : decode cX2_placeBeside 20 = .ok (.iadd, 1) := by decide +kernel
theorem dX2_placeBeside_21 : decode cX2_placeBeside 21 = .ok (.ireturn, 1) := by decide +kernel
theorem dX2_wallBeside_0 : decode cX2_wallBeside 0 = .ok (.aload_n 0, 1) := by decide +kernel
theorem dX2_wallBeside_1 : decode cX2_wallBeside 1 = .ok (.iload_n 1, 1) := by decide +kernel
theorem dX2_wallBeside_2 : decode cX2_wallBeside 2 = .ok (.iload_n 2, 1) := by decide +kernel
theorem dX2_wallBeside_3 : decode cX2_wallBeside 3 = .ok (.invokevirtual 130, 3) := by decide +kernel
theorem dX2_wallBeside_6 : decode cX2_wallBeside 6 = .ok (.istore_n 3, 1) := by decide +kernel
theorem dX2_wallBeside_7 : decode cX2_wallBeside 7 = .ok (.iload_n 2, 1) := by decide +kernel
theorem dX2_wallBeside_8 : decode cX2_wallBeside 8 = .ok (.iconst 2, 1) := by decide +kernel
theorem dX2_wallBeside_9 : decode cX2_wallBeside 9 = .ok (.if_icmp .ge 14, 3) := by decide +kernel
theorem dX2_wallBeside_23 : decode cX2_wallBeside 23 = .ok (.aload_n 0, 1) := by decide +kernel
theorem dX2_wallBeside_24 : decode cX2_wallBeside 24 = .ok (.getfield 13, 3) := by decide +kernel
theorem dX2_wallBeside_27 : decode cX2_wallBeside 27 = .ok (.iconst 0, 1) := by decide +kernel
theorem dX2_wallBeside_28 : decode cX2_wallBeside 28 = .ok (.aaload, 1) := by decide +kernel
theorem dX2_wallBeside_29 : decode cX2_wallBeside 29 = .ok (.iload_n 3, 1) := by decide +kernel
theorem dX2_wallBeside_30 : decode cX2_wallBeside 30 = .ok (.iaload, 1) := by decide +kernel
theorem dX2_wallBeside_31 : decode cX2_wallBeside 31 = .ok (.ireturn, 1) := by decide +kernel
theorem dX2_wallBeside_12 : decode cX2_wallBeside 12 = .ok (.aload_n 0, 1) := by decide +kernel
theorem dX2_wallBeside_13 : decode cX2_wallBeside 13 = .ok (.getfield 13, 3) := by decide +kernel
theorem dX2_wallBeside_16 : decode cX2_wallBeside 16 = .ok (.iconst 1, 1) := by decide +kernel
theorem dX2_wallBeside_17 : decode cX2_wallBeside 17 = .ok (.aaload, 1) := by decide +kernel
theorem dX2_wallBeside_18 : decode cX2_wallBeside 18 = .ok (.iload_n 3, 1) := by decide +kernel
theorem dX2_wallBeside_19 : decode cX2_wallBeside 19 = .ok (.iaload, 1) := by decide +kernel
theorem dX2_wallBeside_20 : decode cX2_wallBeside 20 = .ok (.goto 11, 3) := by decide +kernel
theorem dX2_cellBeside_0 : decode cX2_cellBeside 0 = .ok (.iload_n 1, 1) := by decide +kernel
theorem dX2_cellBeside_1 : decode cX2_cellBeside 1 = .ok (.bipush 24, 2) := by decide +kernel
theorem dX2_cellBeside_3 : decode cX2_cellBeside 3 = .ok (.idiv, 1) := by decide +kernel
theorem dX2_cellBeside_4 : decode cX2_cellBeside 4 = .ok (.istore_n 3, 1) := by decide +kernel
theorem dX2_cellBeside_5 : decode cX2_cellBeside 5 = .ok (.iload_n 1, 1) := by decide +kernel
theorem dX2_cellBeside_6 : decode cX2_cellBeside 6 = .ok (.bipush 24, 2) := by decide +kernel
theorem dX2_cellBeside_8 : decode cX2_cellBeside 8 = .ok (.irem, 1) := by decide +kernel
theorem dX2_cellBeside_9 : decode cX2_cellBeside 9 = .ok (.istore 4, 2) := by decide +kernel
theorem dX2_cellBeside_11 : decode cX2_cellBeside 11 = .ok (.iload_n 2, 1) := by decide +kernel
theorem dX2_cellBeside_12 : decode cX2_cellBeside 12 = .ok (.tableswitch 71 0 2 #[28, 43, 56], 28) := by decide +kernel
theorem dX2_cellBeside_83 : decode cX2_cellBeside 83 = .ok (.iload 4, 2) := by decide +kernel
theorem dX2_cellBeside_85 : decode cX2_cellBeside 85 = .ok (.ifCond .le 9, 3) := by decide +kernel
theorem dX2_cellBeside_94 : decode cX2_cellBeside 94 = .ok (.iconst (-1), 1) := by decide +kernel
theorem dX2_cellBeside_95 : decode cX2_cellBeside 95 = .ok (.ireturn, 1) := by decide +kernel
theorem dX2_cellBeside_88 : decode cX2_cellBeside 88 = .ok (.iload_n 1, 1) := by decide +kernel
theorem dX2_cellBeside_89 : decode cX2_cellBeside 89 = .ok (.iconst 1, 1) := by decide +kernel
theorem dX2_cellBeside_90 : decode cX2_cellBeside 90 = .ok (.isub, 1) := by decide +kernel
theorem dX2_cellBeside_91 : decode cX2_cellBeside 91 = .ok (.goto 4, 3) := by decide +kernel
theorem dX2_cellBeside_40 : decode cX2_cellBeside 40 = .ok (.iload_n 3, 1) := by decide +kernel
theorem dX2_cellBeside_41 : decode cX2_cellBeside 41 = .ok (.bipush 23, 2) := by decide +kernel
theorem dX2_cellBeside_43 : decode cX2_cellBeside 43 = .ok (.if_icmp .ge 10, 3) := by decide +kernel
theorem dX2_cellBeside_53 : decode cX2_cellBeside 53 = .ok (.iconst (-1), 1) := by decide +kernel
theorem dX2_cellBeside_54 : decode cX2_cellBeside 54 = .ok (.ireturn, 1) := by decide +kernel
theorem dX2_cellBeside_46 : decode cX2_cellBeside 46 = .ok (.iload_n 1, 1) := by decide +kernel
theorem dX2_cellBeside_47 : decode cX2_cellBeside 47 = .ok (.bipush 24, 2) := by decide +kernel
theorem dX2_cellBeside_49 : decode cX2_cellBeside 49 = .ok (.iadd, 1) := by decide +kernel
theorem dX2_cellBeside_50 : decode cX2_cellBeside 50 = .ok (.goto 4, 3) := by decide +kernel
theorem dX2_cellBeside_55 : decode cX2_cellBeside 55 = .ok (.iload_n 3, 1) := by decide +kernel
theorem dX2_cellBeside_56 : decode cX2_cellBeside 56 = .ok (.ifCond .le 10, 3) := by decide +kernel
theorem dX2_cellBeside_66 : decode cX2_cellBeside 66 = .ok (.iconst (-1), 1) := by decide +kernel
theorem dX2_cellBeside_67 : decode cX2_cellBeside 67 = .ok (.ireturn, 1) := by decide +kernel
theorem dX2_cellBeside_59 : decode cX2_cellBeside 59 = .ok (.iload_n 1, 1) := by decide +kernel
theorem dX2_cellBeside_60 : decode cX2_cellBeside 60 = .ok (.bipush 24, 2) := by decide +kernel
theorem dX2_cellBeside_62 : decode cX2_cellBeside 62 = .ok (.isub, 1) := by decide +kernel
theorem dX2_cellBeside_63 : decode cX2_cellBeside 63 = .ok (.goto 4, 3) := by decide +kernel
theorem dX2_cellBeside_68 : decode cX2_cellBeside 68 = .ok (.iload 4, 2) := by decide +kernel
theorem dX2_cellBeside_70 : decode cX2_cellBeside 70 = .ok (.bipush 23, 2) := by decide +kernel
theorem dX2_cellBeside_72 : decode cX2_cellBeside 72 = .ok (.if_icmp .ge 9, 3) := by decide +kernel
theorem dX2_cellBeside_81 : decode cX2_cellBeside 81 = .ok (.iconst (-1), 1) := by decide +kernel
theorem dX2_cellBeside_82 : decode cX2_cellBeside 82 = .ok (.ireturn, 1) := by decide +kernel
theorem dX2_cellBeside_75 : decode cX2_cellBeside 75 = .ok (.iload_n 1, 1) := by decide +kernel
theorem dX2_cellBeside_76 : decode cX2_cellBeside 76 = .ok (.iconst 1, 1) := by decide +kernel
theorem dX2_cellBeside_77 : decode cX2_cellBeside 77 = .ok (.iadd, 1) := by decide +kernel
theorem dX2_cellBeside_78 : decode cX2_cellBeside 78 = .ok (.goto 4, 3) := by decide +kernel
theorem dX2_fill_0 : decode cX2_fill 0 = .ok (.iconst 1, 1) := by decide +kernel
theorem dX2_fill_1 : decode cX2_fill 1 = .ok (.istore_n 3, 1) := by decide +kernel
theorem dX2_fill_2 : decode cX2_fill 2 = .ok (.aload_n 0, 1) := by decide +kernel
theorem dX2_fill_3 : decode cX2_fill 3 = .ok (.getfield 20, 3) := by decide +kernel
theorem dX2_fill_6 : decode cX2_fill 6 = .ok (.iload_n 1, 1) := by decide +kernel
theorem dX2_fill_7 : decode cX2_fill 7 = .ok (.iload_n 2, 1) := by decide +kernel
theorem dX2_fill_8 : decode cX2_fill 8 = .ok (.iastore, 1) := by decide +kernel
theorem dX2_fill_9 : decode cX2_fill 9 = .ok (.aload_n 0, 1) := by decide +kernel
theorem dX2_fill_10 : decode cX2_fill 10 = .ok (.getfield 48, 3) := by decide +kernel
theorem dX2_fill_13 : decode cX2_fill 13 = .ok (.iconst 0, 1) := by decide +kernel
theorem dX2_fill_14 : decode cX2_fill 14 = .ok (.iload_n 1, 1) := by decide +kernel
theorem dX2_fill_15 : decode cX2_fill 15 = .ok (.iastore, 1) := by decide +kernel
theorem dX2_fill_16 : decode cX2_fill 16 = .ok (.iconst 0, 1) := by decide +kernel
theorem dX2_fill_17 : decode cX2_fill 17 = .ok (.istore 4, 2) := by decide +kernel
theorem dX2_fill_19 : decode cX2_fill 19 = .ok (.iload 4, 2) := by decide +kernel
theorem dX2_fill_21 : decode cX2_fill 21 = .ok (.iload_n 3, 1) := by decide +kernel
theorem dX2_fill_22 : decode cX2_fill 22 = .ok (.if_icmp .ge 112, 3) := by decide +kernel
theorem dX2_fill_25 : decode cX2_fill 25 = .ok (.iconst 0, 1) := by decide +kernel
theorem dX2_fill_26 : decode cX2_fill 26 = .ok (.istore 5, 2) := by decide +kernel
theorem dX2_fill_28 : decode cX2_fill 28 = .ok (.iload 5, 2) := by decide +kernel
theorem dX2_fill_30 : decode cX2_fill 30 = .ok (.iconst 4, 1) := by decide +kernel
theorem dX2_fill_31 : decode cX2_fill 31 = .ok (.if_icmp .ge 97, 3) := by decide +kernel
theorem dX2_fill_34 : decode cX2_fill 34 = .ok (.aload_n 0, 1) := by decide +kernel
theorem dX2_fill_35 : decode cX2_fill 35 = .ok (.aload_n 0, 1) := by decide +kernel
theorem dX2_fill_36 : decode cX2_fill 36 = .ok (.getfield 48, 3) := by decide +kernel
theorem dX2_fill_39 : decode cX2_fill 39 = .ok (.iload 4, 2) := by decide +kernel
theorem dX2_fill_41 : decode cX2_fill 41 = .ok (.iaload, 1) := by decide +kernel
theorem dX2_fill_42 : decode cX2_fill 42 = .ok (.iload 5, 2) := by decide +kernel
theorem dX2_fill_44 : decode cX2_fill 44 = .ok (.invokevirtual 127, 3) := by decide +kernel
theorem dX2_fill_47 : decode cX2_fill 47 = .ok (.istore 6, 2) := by decide +kernel
theorem dX2_fill_49 : decode cX2_fill 49 = .ok (.iload 6, 2) := by decide +kernel
theorem dX2_fill_51 : decode cX2_fill 51 = .ok (.iconst (-1), 1) := by decide +kernel
theorem dX2_fill_52 : decode cX2_fill 52 = .ok (.if_icmp .eq 24, 3) := by decide +kernel
theorem dX2_fill_76 : decode cX2_fill 76 = .ok (.iconst 0, 1) := by decide +kernel
theorem dX2_fill_77 : decode cX2_fill 77 = .ok (.istore 7, 2) := by decide +kernel
theorem dX2_fill_79 : decode cX2_fill 79 = .ok (.iload 7, 2) := by decide +kernel
theorem dX2_fill_81 : decode cX2_fill 81 = .ok (.ifCond .eq 41, 3) := by decide +kernel
theorem dX2_fill_122 : decode cX2_fill 122 = .ok (.iinc 5 1, 3) := by decide +kernel
theorem dX2_fill_125 : decode cX2_fill 125 = .ok (.goto (-97), 3) := by decide +kernel
theorem dX2_fill_84 : decode cX2_fill 84 = .ok (.aload_n 0, 1) := by decide +kernel
theorem dX2_fill_85 : decode cX2_fill 85 = .ok (.getfield 20, 3) := by decide +kernel
theorem dX2_fill_88 : decode cX2_fill 88 = .ok (.iload 6, 2) := by decide +kernel
theorem dX2_fill_90 : decode cX2_fill 90 = .ok (.iaload, 1) := by decide +kernel
theorem dX2_fill_91 : decode cX2_fill 91 = .ok (.bipush (-3), 2) := by decide +kernel
theorem dX2_fill_93 : decode cX2_fill 93 = .ok (.if_icmp .ne 29, 3) := by decide +kernel
theorem dX2_fill_96 : decode cX2_fill 96 = .ok (.iload_n 3, 1) := by decide +kernel
theorem dX2_fill_97 : decode cX2_fill 97 = .ok (.sipush 576, 3) := by decide +kernel
theorem dX2_fill_100 : decode cX2_fill 100 = .ok (.if_icmp .ge 22, 3) := by decide +kernel
theorem dX2_fill_103 : decode cX2_fill 103 = .ok (.aload_n 0, 1) := by decide +kernel
theorem dX2_fill_104 : decode cX2_fill 104 = .ok (.getfield 20, 3) := by decide +kernel
theorem dX2_fill_107 : decode cX2_fill 107 = .ok (.iload 6, 2) := by decide +kernel
theorem dX2_fill_109 : decode cX2_fill 109 = .ok (.iload_n 2, 1) := by decide +kernel
theorem dX2_fill_110 : decode cX2_fill 110 = .ok (.iastore, 1) := by decide +kernel
theorem dX2_fill_111 : decode cX2_fill 111 = .ok (.aload_n 0, 1) := by decide +kernel
theorem dX2_fill_112 : decode cX2_fill 112 = .ok (.getfield 48, 3) := by decide +kernel
theorem dX2_fill_115 : decode cX2_fill 115 = .ok (.iload_n 3, 1) := by decide +kernel
theorem dX2_fill_116 : decode cX2_fill 116 = .ok (.iload 6, 2) := by decide +kernel
theorem dX2_fill_118 : decode cX2_fill 118 = .ok (.iastore, 1) := by decide +kernel
theorem dX2_fill_119 : decode cX2_fill 119 = .ok (.iinc 3 1, 3) := by decide +kernel
theorem dX2_fill_55 : decode cX2_fill 55 = .ok (.aload_n 0, 1) := by decide +kernel
theorem dX2_fill_56 : decode cX2_fill 56 = .ok (.aload_n 0, 1) := by decide +kernel
theorem dX2_fill_57 : decode cX2_fill 57 = .ok (.getfield 48, 3) := by decide +kernel
theorem dX2_fill_60 : decode cX2_fill 60 = .ok (.iload 4, 2) := by decide +kernel
theorem dX2_fill_62 : decode cX2_fill 62 = .ok (.iaload, 1) := by decide +kernel
theorem dX2_fill_63 : decode cX2_fill 63 = .ok (.iload 5, 2) := by decide +kernel
theorem dX2_fill_65 : decode cX2_fill 65 = .ok (.invokevirtual 124, 3) := by decide +kernel
theorem dX2_fill_68 : decode cX2_fill 68 = .ok (.iconst (-1), 1) := by decide +kernel
theorem dX2_fill_69 : decode cX2_fill 69 = .ok (.if_icmp .ne 7, 3) := by decide +kernel
theorem dX2_fill_72 : decode cX2_fill 72 = .ok (.iconst 1, 1) := by decide +kernel
theorem dX2_fill_73 : decode cX2_fill 73 = .ok (.goto 4, 3) := by decide +kernel
theorem dX2_fill_128 : decode cX2_fill 128 = .ok (.iinc 4 1, 3) := by decide +kernel
theorem dX2_fill_131 : decode cX2_fill 131 = .ok (.goto (-112), 3) := by decide +kernel
theorem dX2_fill_134 : decode cX2_fill 134 = .ok (.iload_n 3, 1) := by decide +kernel
theorem dX2_fill_135 : decode cX2_fill 135 = .ok (.ireturn, 1) := by decide +kernel
theorem dX2_fillFromEdge_0 : decode cX2_fillFromEdge 0 = .ok (.aload_n 0, 1) := by decide +kernel
theorem dX2_fillFromEdge_1 : decode cX2_fillFromEdge 1 = .ok (.getfield 20, 3) := by decide +kernel
theorem dX2_fillFromEdge_4 : decode cX2_fillFromEdge 4 = .ok (.iload_n 1, 1) := by decide +kernel
theorem dX2_fillFromEdge_5 : decode cX2_fillFromEdge 5 = .ok (.iaload, 1) := by decide +kernel
theorem dX2_fillFromEdge_6 : decode cX2_fillFromEdge 6 = .ok (.bipush (-3), 2) := by decide +kernel
theorem dX2_fillFromEdge_8 : decode cX2_fillFromEdge 8 = .ok (.if_icmp .ne 20, 3) := by decide +kernel
theorem dX2_fillFromEdge_28 : decode cX2_fillFromEdge 28 = .ok (.return_, 1) := by decide +kernel
theorem dX2_fillFromEdge_11 : decode cX2_fillFromEdge 11 = .ok (.aload_n 0, 1) := by decide +kernel
theorem dX2_fillFromEdge_12 : decode cX2_fillFromEdge 12 = .ok (.iload_n 1, 1) := by decide +kernel
theorem dX2_fillFromEdge_13 : decode cX2_fillFromEdge 13 = .ok (.iload_n 2, 1) := by decide +kernel
theorem dX2_fillFromEdge_14 : decode cX2_fillFromEdge 14 = .ok (.invokevirtual 124, 3) := by decide +kernel
theorem dX2_fillFromEdge_17 : decode cX2_fillFromEdge 17 = .ok (.iconst (-1), 1) := by decide +kernel
theorem dX2_fillFromEdge_18 : decode cX2_fillFromEdge 18 = .ok (.if_icmp .ne 10, 3) := by decide +kernel
theorem dX2_fillFromEdge_21 : decode cX2_fillFromEdge 21 = .ok (.aload_n 0, 1) := by decide +kernel
theorem dX2_fillFromEdge_22 : decode cX2_fillFromEdge 22 = .ok (.iload_n 1, 1) := by decide +kernel
theorem dX2_fillFromEdge_23 : decode cX2_fillFromEdge 23 = .ok (.iconst (-1), 1) := by decide +kernel
theorem dX2_fillFromEdge_24 : decode cX2_fillFromEdge 24 = .ok (.invokevirtual 122, 3) := by decide +kernel
theorem dX2_fillFromEdge_27 : decode cX2_fillFromEdge 27 = .ok (.pop, 1) := by decide +kernel
theorem dX2_fillSpaces_0 : decode cX2_fillSpaces 0 = .ok (.aload_n 0, 1) := by decide +kernel
theorem dX2_fillSpaces_1 : decode cX2_fillSpaces 1 = .ok (.getfield 20, 3) := by decide +kernel
theorem dX2_fillSpaces_4 : decode cX2_fillSpaces 4 = .ok (.bipush (-3), 2) := by decide +kernel
theorem dX2_fillSpaces_6 : decode cX2_fillSpaces 6 = .ok (.invokestatic 88, 3) := by decide +kernel
theorem dX2_fillSpaces_9 : decode cX2_fillSpaces 9 = .ok (.iconst 0, 1) := by decide +kernel
theorem dX2_fillSpaces_10 : decode cX2_fillSpaces 10 = .ok (.istore_n 1, 1) := by decide +kernel
theorem dX2_fillSpaces_11 : decode cX2_fillSpaces 11 = .ok (.iload_n 1, 1) := by decide +kernel
theorem dX2_fillSpaces_12 : decode cX2_fillSpaces 12 = .ok (.bipush 24, 2) := by decide +kernel
theorem dX2_fillSpaces_14 : decode cX2_fillSpaces 14 = .ok (.if_icmp .ge 51, 3) := by decide +kernel
theorem dX2_fillSpaces_17 : decode cX2_fillSpaces 17 = .ok (.aload_n 0, 1) := by decide +kernel
theorem dX2_fillSpaces_18 : decode cX2_fillSpaces 18 = .ok (.bipush 23, 2) := by decide +kernel
theorem dX2_fillSpaces_20 : decode cX2_fillSpaces 20 = .ok (.iload_n 1, 1) := by decide +kernel
theorem dX2_fillSpaces_21 : decode cX2_fillSpaces 21 = .ok (.invokestatic 114, 3) := by decide +kernel
theorem dX2_fillSpaces_24 : decode cX2_fillSpaces 24 = .ok (.iconst 0, 1) := by decide +kernel
theorem dX2_fillSpaces_25 : decode cX2_fillSpaces 25 = .ok (.invokevirtual 118, 3) := by decide +kernel
theorem dX2_fillSpaces_28 : decode cX2_fillSpaces 28 = .ok (.aload_n 0, 1) := by decide +kernel
theorem dX2_fillSpaces_29 : decode cX2_fillSpaces 29 = .ok (.iconst 0, 1) := by decide +kernel
theorem dX2_fillSpaces_30 : decode cX2_fillSpaces 30 = .ok (.iload_n 1, 1) := by decide +kernel
theorem dX2_fillSpaces_31 : decode cX2_fillSpaces 31 = .ok (.invokestatic 114, 3) := by decide +kernel
theorem dX2_fillSpaces_34 : decode cX2_fillSpaces 34 = .ok (.iconst 1, 1) := by decide +kernel
theorem dX2_fillSpaces_35 : decode cX2_fillSpaces 35 = .ok (.invokevirtual 118, 3) := by decide +kernel
theorem dX2_fillSpaces_38 : decode cX2_fillSpaces 38 = .ok (.aload_n 0, 1) := by decide +kernel
theorem dX2_fillSpaces_39 : decode cX2_fillSpaces 39 = .ok (.iload_n 1, 1) := by decide +kernel
theorem dX2_fillSpaces_40 : decode cX2_fillSpaces 40 = .ok (.bipush 23, 2) := by decide +kernel
theorem dX2_fillSpaces_42 : decode cX2_fillSpaces 42 = .ok (.invokestatic 114, 3) := by decide +kernel
theorem dX2_fillSpaces_45 : decode cX2_fillSpaces 45 = .ok (.iconst 2, 1) := by decide +kernel
theorem dX2_fillSpaces_46 : decode cX2_fillSpaces 46 = .ok (.invokevirtual 118, 3) := by decide +kernel
theorem dX2_fillSpaces_49 : decode cX2_fillSpaces 49 = .ok (.aload_n 0, 1) := by decide +kernel
theorem dX2_fillSpaces_50 : decode cX2_fillSpaces 50 = .ok (.iload_n 1, 1) := by decide +kernel
theorem dX2_fillSpaces_51 : decode cX2_fillSpaces 51 = .ok (.iconst 0, 1) := by decide +kernel
theorem dX2_fillSpaces_52 : decode cX2_fillSpaces 52 = .ok (.invokestatic 114, 3) := by decide +kernel
theorem dX2_fillSpaces_55 : decode cX2_fillSpaces 55 = .ok (.iconst 3, 1) := by decide +kernel
theorem dX2_fillSpaces_56 : decode cX2_fillSpaces 56 = .ok (.invokevirtual 118, 3) := by decide +kernel
theorem dX2_fillSpaces_59 : decode cX2_fillSpaces 59 = .ok (.iinc 1 1, 3) := by decide +kernel
theorem dX2_fillSpaces_62 : decode cX2_fillSpaces 62 = .ok (.goto (-51), 3) := by decide +kernel
theorem dX2_fillSpaces_65 : decode cX2_fillSpaces 65 = .ok (.aload_n 0, 1) := by decide +kernel
theorem dX2_fillSpaces_66 : decode cX2_fillSpaces 66 = .ok (.iconst 0, 1) := by decide +kernel
theorem dX2_fillSpaces_67 : decode cX2_fillSpaces 67 = .ok (.putfield 58, 3) := by decide +kernel
theorem dX2_fillSpaces_70 : decode cX2_fillSpaces 70 = .ok (.iconst 0, 1) := by decide +kernel
theorem dX2_fillSpaces_71 : decode cX2_fillSpaces 71 = .ok (.istore_n 1, 1) := by decide +kernel
theorem dX2_fillSpaces_72 : decode cX2_fillSpaces 72 = .ok (.iload_n 1, 1) := by decide +kernel
theorem dX2_fillSpaces_73 : decode cX2_fillSpaces 73 = .ok (.sipush 576, 3) := by decide +kernel
theorem dX2_fillSpaces_76 : decode cX2_fillSpaces 76 = .ok (.if_icmp .ge 57, 3) := by decide +kernel
theorem dX2_fillSpaces_79 : decode cX2_fillSpaces 79 = .ok (.aload_n 0, 1) := by decide +kernel
theorem dX2_fillSpaces_80 : decode cX2_fillSpaces 80 = .ok (.getfield 20, 3) := by decide +kernel
theorem dX2_fillSpaces_83 : decode cX2_fillSpaces 83 = .ok (.iload_n 1, 1) := by decide +kernel
theorem dX2_fillSpaces_84 : decode cX2_fillSpaces 84 = .ok (.iaload, 1) := by decide +kernel
theorem dX2_fillSpaces_85 : decode cX2_fillSpaces 85 = .ok (.bipush (-3), 2) := by decide +kernel
theorem dX2_fillSpaces_87 : decode cX2_fillSpaces 87 = .ok (.if_icmp .ne 40, 3) := by decide +kernel
theorem dX2_fillSpaces_127 : decode cX2_fillSpaces 127 = .ok (.iinc 1 1, 3) := by decide +kernel
theorem dX2_fillSpaces_130 : decode cX2_fillSpaces 130 = .ok (.goto (-58), 3) := by decide +kernel
theorem dX2_fillSpaces_90 : decode cX2_fillSpaces 90 = .ok (.aload_n 0, 1) := by decide +kernel
theorem dX2_fillSpaces_91 : decode cX2_fillSpaces 91 = .ok (.getfield 58, 3) := by decide +kernel
theorem dX2_fillSpaces_94 : decode cX2_fillSpaces 94 = .ok (.bipush 100, 2) := by decide +kernel
theorem dX2_fillSpaces_96 : decode cX2_fillSpaces 96 = .ok (.if_icmp .ge 31, 3) := by decide +kernel
theorem dX2_fillSpaces_99 : decode cX2_fillSpaces 99 = .ok (.aload_n 0, 1) := by decide +kernel
theorem dX2_fillSpaces_100 : decode cX2_fillSpaces 100 = .ok (.getfield 33, 3) := by decide +kernel
theorem dX2_fillSpaces_103 : decode cX2_fillSpaces 103 = .ok (.aload_n 0, 1) := by decide +kernel
theorem dX2_fillSpaces_104 : decode cX2_fillSpaces 104 = .ok (.getfield 58, 3) := by decide +kernel
theorem dX2_fillSpaces_107 : decode cX2_fillSpaces 107 = .ok (.aload_n 0, 1) := by decide +kernel
theorem dX2_fillSpaces_108 : decode cX2_fillSpaces 108 = .ok (.iload_n 1, 1) := by decide +kernel
theorem dX2_fillSpaces_109 : decode cX2_fillSpaces 109 = .ok (.aload_n 0, 1) := by decide +kernel
theorem dX2_fillSpaces_110 : decode cX2_fillSpaces 110 = .ok (.getfield 58, 3) := by decide +kernel
theorem dX2_fillSpaces_113 : decode cX2_fillSpaces 113 = .ok (.invokevirtual 122, 3) := by decide +kernel
theorem dX2_fillSpaces_116 : decode cX2_fillSpaces 116 = .ok (.iastore, 1) := by decide +kernel
theorem dX2_fillSpaces_117 : decode cX2_fillSpaces 117 = .ok (.aload_n 0, 1) := by decide +kernel
theorem dX2_fillSpaces_118 : decode cX2_fillSpaces 118 = .ok (.dup, 1) := by decide +kernel
theorem dX2_fillSpaces_119 : decode cX2_fillSpaces 119 = .ok (.getfield 58, 3) := by decide +kernel
theorem dX2_fillSpaces_122 : decode cX2_fillSpaces 122 = .ok (.iconst 1, 1) := by decide +kernel
theorem dX2_fillSpaces_123 : decode cX2_fillSpaces 123 = .ok (.iadd, 1) := by decide +kernel
theorem dX2_fillSpaces_124 : decode cX2_fillSpaces 124 = .ok (.putfield 58, 3) := by decide +kernel
theorem dX2_fillSpaces_133 : decode cX2_fillSpaces 133 = .ok (.return_, 1) := by decide +kernel
theorem dX2_leftOf_0 : decode cX2_leftOf 0 = .ok (.aload_n 0, 1) := by decide +kernel
theorem dX2_leftOf_1 : decode cX2_leftOf 1 = .ok (.iload_n 3, 1) := by decide +kernel
theorem dX2_leftOf_2 : decode cX2_leftOf 2 = .ok (.iconst 1, 1) := by decide +kernel
theorem dX2_leftOf_3 : decode cX2_leftOf 3 = .ok (.if_icmp .eq 8, 3) := by decide +kernel
theorem dX2_leftOf_11 : decode cX2_leftOf 11 = .ok (.iload_n 1, 1) := by decide +kernel
theorem dX2_leftOf_12 : decode cX2_leftOf 12 = .ok (.iconst 1, 1) := by decide +kernel
theorem dX2_leftOf_13 : decode cX2_leftOf 13 = .ok (.isub, 1) := by decide +kernel
theorem dX2_leftOf_14 : decode cX2_leftOf 14 = .ok (.goto 4, 3) := by decide +kernel
theorem dX2_leftOf_18 : decode cX2_leftOf 18 = .ok (.iload_n 3, 1) := by decide +kernel
theorem dX2_leftOf_19 : decode cX2_leftOf 19 = .ok (.iconst 2, 1) := by decide +kernel
theorem dX2_leftOf_20 : decode cX2_leftOf 20 = .ok (.if_icmp .lt 9, 3) := by decide +kernel
theorem dX2_leftOf_29 : decode cX2_leftOf 29 = .ok (.iload_n 2, 1) := by decide +kernel
theorem dX2_leftOf_30 : decode cX2_leftOf 30 = .ok (.invokevirtual 136, 3) := by decide +kernel
theorem dX2_leftOf_33 : decode cX2_leftOf 33 = .ok (.ireturn, 1) := by decide +kernel
theorem dX2_leftOf_23 : decode cX2_leftOf 23 = .ok (.iload_n 2, 1) := by decide +kernel
theorem dX2_leftOf_24 : decode cX2_leftOf 24 = .ok (.iconst 1, 1) := by decide +kernel
theorem dX2_leftOf_25 : decode cX2_leftOf 25 = .ok (.isub, 1) := by decide +kernel
theorem dX2_leftOf_26 : decode cX2_leftOf 26 = .ok (.goto 4, 3) := by decide +kernel
theorem dX2_leftOf_6 : decode cX2_leftOf 6 = .ok (.iload_n 3, 1) := by decide +kernel
theorem dX2_leftOf_7 : decode cX2_leftOf 7 = .ok (.iconst 2, 1) := by decide +kernel
theorem dX2_leftOf_8 : decode cX2_leftOf 8 = .ok (.if_icmp .ne 9, 3) := by decide +kernel
theorem dX2_leftOf_17 : decode cX2_leftOf 17 = .ok (.iload_n 1, 1) := by decide +kernel
theorem dX2_pieceLength_0 : decode cX2_pieceLength 0 = .ok (.iconst 1, 1) := by decide +kernel
theorem dX2_pieceLength_1 : decode cX2_pieceLength 1 = .ok (.istore 4, 2) := by decide +kernel
theorem dX2_pieceLength_3 : decode cX2_pieceLength 3 = .ok (.iconst 1, 1) := by decide +kernel
theorem dX2_pieceLength_4 : decode cX2_pieceLength 4 = .ok (.istore 5, 2) := by decide +kernel
theorem dX2_pieceLength_6 : decode cX2_pieceLength 6 = .ok (.iload 5, 2) := by decide +kernel
theorem dX2_pieceLength_8 : decode cX2_pieceLength 8 = .ok (.bipush 24, 2) := by decide +kernel
theorem dX2_pieceLength_10 : decode cX2_pieceLength 10 = .ok (.if_icmp .ge 56, 3) := by decide +kernel
theorem dX2_pieceLength_13 : decode cX2_pieceLength 13 = .ok (.aload_n 0, 1) := by decide +kernel
theorem dX2_pieceLength_14 : decode cX2_pieceLength 14 = .ok (.iload_n 1, 1) := by decide +kernel
theorem dX2_pieceLength_15 : decode cX2_pieceLength 15 = .ok (.iload_n 2, 1) := by decide +kernel
theorem dX2_pieceLength_16 : decode cX2_pieceLength 16 = .ok (.iload_n 3, 1) := by decide +kernel
theorem dX2_pieceLength_17 : decode cX2_pieceLength 17 = .ok (.invokevirtual 110, 3) := by decide +kernel
theorem dX2_pieceLength_20 : decode cX2_pieceLength 20 = .ok (.iconst (-1), 1) := by decide +kernel
theorem dX2_pieceLength_21 : decode cX2_pieceLength 21 = .ok (.if_icmp .eq 45, 3) := by decide +kernel
theorem dX2_pieceLength_24 : decode cX2_pieceLength 24 = .ok (.iload_n 1, 1) := by decide +kernel
theorem dX2_pieceLength_25 : decode cX2_pieceLength 25 = .ok (.getstatic 158, 3) := by decide +kernel
theorem dX2_pieceLength_28 : decode cX2_pieceLength 28 = .ok (.iload_n 3, 1) := by decide +kernel
theorem dX2_pieceLength_29 : decode cX2_pieceLength 29 = .ok (.iaload, 1) := by decide +kernel
theorem dX2_pieceLength_30 : decode cX2_pieceLength 30 = .ok (.iadd, 1) := by decide +kernel
theorem dX2_pieceLength_31 : decode cX2_pieceLength 31 = .ok (.istore_n 1, 1) := by decide +kernel
theorem dX2_pieceLength_32 : decode cX2_pieceLength 32 = .ok (.iload_n 2, 1) := by decide +kernel
theorem dX2_pieceLength_33 : decode cX2_pieceLength 33 = .ok (.getstatic 161, 3) := by decide +kernel
theorem dX2_pieceLength_36 : decode cX2_pieceLength 36 = .ok (.iload_n 3, 1) := by decide +kernel
theorem dX2_pieceLength_37 : decode cX2_pieceLength 37 = .ok (.iaload, 1) := by decide +kernel
theorem dX2_pieceLength_38 : decode cX2_pieceLength 38 = .ok (.iadd, 1) := by decide +kernel
theorem dX2_pieceLength_39 : decode cX2_pieceLength 39 = .ok (.istore_n 2, 1) := by decide +kernel
theorem dX2_pieceLength_40 : decode cX2_pieceLength 40 = .ok (.aload_n 0, 1) := by decide +kernel
theorem dX2_pieceLength_41 : decode cX2_pieceLength 41 = .ok (.getfield 16, 3) := by decide +kernel
theorem dX2_pieceLength_44 : decode cX2_pieceLength 44 = .ok (.iload_n 1, 1) := by decide +kernel
theorem dX2_pieceLength_45 : decode cX2_pieceLength 45 = .ok (.bipush 25, 2) := by decide +kernel
theorem dX2_pieceLength_47 : decode cX2_pieceLength 47 = .ok (.imul, 1) := by decide +kernel
theorem dX2_pieceLength_48 : decode cX2_pieceLength 48 = .ok (.iload_n 2, 1) := by decide +kernel
theorem dX2_pieceLength_49 : decode cX2_pieceLength 49 = .ok (.iadd, 1) := by decide +kernel
theorem dX2_pieceLength_50 : decode cX2_pieceLength 50 = .ok (.baload, 1) := by decide +kernel
theorem dX2_pieceLength_51 : decode cX2_pieceLength 51 = .ok (.ifCond .eq 6, 3) := by decide +kernel
theorem dX2_pieceLength_57 : decode cX2_pieceLength 57 = .ok (.iinc 4 1, 3) := by decide +kernel
theorem dX2_pieceLength_60 : decode cX2_pieceLength 60 = .ok (.iinc 5 1, 3) := by decide +kernel
theorem dX2_pieceLength_63 : decode cX2_pieceLength 63 = .ok (.goto (-57), 3) := by decide +kernel
theorem dX2_pieceLength_54 : decode cX2_pieceLength 54 = .ok (.iload 4, 2) := by decide +kernel
theorem dX2_pieceLength_56 : decode cX2_pieceLength 56 = .ok (.ireturn, 1) := by decide +kernel
theorem dX2_pieceLength_66 : decode cX2_pieceLength 66 = .ok (.iload 4, 2) := by decide +kernel
theorem dX2_pieceLength_68 : decode cX2_pieceLength 68 = .ok (.ireturn, 1) := by decide +kernel
theorem dX2_rightOf_0 : decode cX2_rightOf 0 = .ok (.aload_n 0, 1) := by decide +kernel
theorem dX2_rightOf_1 : decode cX2_rightOf 1 = .ok (.iload_n 3, 1) := by decide +kernel
theorem dX2_rightOf_2 : decode cX2_rightOf 2 = .ok (.iconst 2, 1) := by decide +kernel
theorem dX2_rightOf_3 : decode cX2_rightOf 3 = .ok (.if_icmp .lt 9, 3) := by decide +kernel
theorem dX2_rightOf_12 : decode cX2_rightOf 12 = .ok (.iload_n 1, 1) := by decide +kernel
theorem dX2_rightOf_13 : decode cX2_rightOf 13 = .ok (.iload_n 3, 1) := by decide +kernel
theorem dX2_rightOf_14 : decode cX2_rightOf 14 = .ok (.ifCond .eq 8, 3) := by decide +kernel
theorem dX2_rightOf_22 : decode cX2_rightOf 22 = .ok (.iload_n 2, 1) := by decide +kernel
theorem dX2_rightOf_23 : decode cX2_rightOf 23 = .ok (.iconst 1, 1) := by decide +kernel
theorem dX2_rightOf_24 : decode cX2_rightOf 24 = .ok (.isub, 1) := by decide +kernel
theorem dX2_rightOf_25 : decode cX2_rightOf 25 = .ok (.goto 4, 3) := by decide +kernel
theorem dX2_rightOf_29 : decode cX2_rightOf 29 = .ok (.invokevirtual 136, 3) := by decide +kernel
theorem dX2_rightOf_32 : decode cX2_rightOf 32 = .ok (.ireturn, 1) := by decide +kernel
theorem dX2_rightOf_17 : decode cX2_rightOf 17 = .ok (.iload_n 3, 1) := by decide +kernel
theorem dX2_rightOf_18 : decode cX2_rightOf 18 = .ok (.iconst 3, 1) := by decide +kernel
theorem dX2_rightOf_19 : decode cX2_rightOf 19 = .ok (.if_icmp .ne 9, 3) := by decide +kernel
theorem dX2_rightOf_28 : decode cX2_rightOf 28 = .ok (.iload_n 2, 1) := by decide +kernel
theorem dX2_rightOf_6 : decode cX2_rightOf 6 = .ok (.iload_n 1, 1) := by decide +kernel
theorem dX2_rightOf_7 : decode cX2_rightOf 7 = .ok (.iconst 1, 1) := by decide +kernel
theorem dX2_rightOf_8 : decode cX2_rightOf 8 = .ok (.isub, 1) := by decide +kernel
theorem dX2_rightOf_9 : decode cX2_rightOf 9 = .ok (.goto 4, 3) := by decide +kernel
theorem dX2_noteSide_0 : decode cX2_noteSide 0 = .ok (.aload_n 0, 1) := by decide +kernel
theorem dX2_noteSide_1 : decode cX2_noteSide 1 = .ok (.getfield 142, 3) := by decide +kernel
theorem dX2_noteSide_4 : decode cX2_noteSide 4 = .ok (.sipush 440, 3) := by decide +kernel
theorem dX2_noteSide_7 : decode cX2_noteSide 7 = .ok (.if_icmp .ge 84, 3) := by decide +kernel
theorem dX2_noteSide_91 : decode cX2_noteSide 91 = .ok (.return_, 1) := by decide +kernel
theorem dX2_noteSide_10 : decode cX2_noteSide 10 = .ok (.aload_n 0, 1) := by decide +kernel
theorem dX2_noteSide_11 : decode cX2_noteSide 11 = .ok (.getfield 42, 3) := by decide +kernel
theorem dX2_noteSide_14 : decode cX2_noteSide 14 = .ok (.aload_n 0, 1) := by decide +kernel
theorem dX2_noteSide_15 : decode cX2_noteSide 15 = .ok (.getfield 142, 3) := by decide +kernel
theorem dX2_noteSide_18 : decode cX2_noteSide 18 = .ok (.aaload, 1) := by decide +kernel
theorem dX2_noteSide_19 : decode cX2_noteSide 19 = .ok (.astore 5, 2) := by decide +kernel
theorem dX2_noteSide_21 : decode cX2_noteSide 21 = .ok (.aload 5, 2) := by decide +kernel
theorem dX2_noteSide_23 : decode cX2_noteSide 23 = .ok (.iconst 0, 1) := by decide +kernel
theorem dX2_noteSide_24 : decode cX2_noteSide 24 = .ok (.aload_n 0, 1) := by decide +kernel
theorem dX2_noteSide_25 : decode cX2_noteSide 25 = .ok (.iload_n 1, 1) := by decide +kernel
theorem dX2_noteSide_26 : decode cX2_noteSide 26 = .ok (.iload_n 2, 1) := by decide +kernel
theorem dX2_noteSide_27 : decode cX2_noteSide 27 = .ok (.iload_n 3, 1) := by decide +kernel
theorem dX2_noteSide_28 : decode cX2_noteSide 28 = .ok (.invokevirtual 110, 3) := by decide +kernel
theorem dX2_noteSide_31 : decode cX2_noteSide 31 = .ok (.iastore, 1) := by decide +kernel
theorem dX2_noteSide_32 : decode cX2_noteSide 32 = .ok (.aload 5, 2) := by decide +kernel
theorem dX2_noteSide_34 : decode cX2_noteSide 34 = .ok (.iconst 1, 1) := by decide +kernel
theorem dX2_noteSide_35 : decode cX2_noteSide 35 = .ok (.iload_n 1, 1) := by decide +kernel
theorem dX2_noteSide_36 : decode cX2_noteSide 36 = .ok (.iastore, 1) := by decide +kernel
theorem dX2_noteSide_37 : decode cX2_noteSide 37 = .ok (.aload 5, 2) := by decide +kernel
theorem dX2_noteSide_39 : decode cX2_noteSide 39 = .ok (.iconst 2, 1) := by decide +kernel
theorem dX2_noteSide_40 : decode cX2_noteSide 40 = .ok (.iload_n 2, 1) := by decide +kernel
theorem dX2_noteSide_41 : decode cX2_noteSide 41 = .ok (.iastore, 1) := by decide +kernel
theorem dX2_noteSide_42 : decode cX2_noteSide 42 = .ok (.aload 5, 2) := by decide +kernel
theorem dX2_noteSide_44 : decode cX2_noteSide 44 = .ok (.iconst 3, 1) := by decide +kernel
theorem dX2_noteSide_45 : decode cX2_noteSide 45 = .ok (.iload_n 1, 1) := by decide +kernel
theorem dX2_noteSide_46 : decode cX2_noteSide 46 = .ok (.iload 4, 2) := by decide +kernel
theorem dX2_noteSide_48 : decode cX2_noteSide 48 = .ok (.getstatic 158, 3) := by decide +kernel
theorem dX2_noteSide_51 : decode cX2_noteSide 51 = .ok (.iload_n 3, 1) := by decide +kernel
theorem dX2_noteSide_52 : decode cX2_noteSide 52 = .ok (.iaload, 1) := by decide +kernel
theorem dX2_noteSide_53 : decode cX2_noteSide 53 = .ok (.imul, 1) := by decide +kernel
theorem dX2_noteSide_54 : decode cX2_noteSide 54 = .ok (.iadd, 1) := by decide +kernel
theorem dX2_noteSide_55 : decode cX2_noteSide 55 = .ok (.iastore, 1) := by decide +kernel
theorem dX2_noteSide_56 : decode cX2_noteSide 56 = .ok (.aload 5, 2) := by decide +kernel
theorem dX2_noteSide_58 : decode cX2_noteSide 58 = .ok (.iconst 4, 1) := by decide +kernel
theorem dX2_noteSide_59 : decode cX2_noteSide 59 = .ok (.iload_n 2, 1) := by decide +kernel
theorem dX2_noteSide_60 : decode cX2_noteSide 60 = .ok (.iload 4, 2) := by decide +kernel
theorem dX2_noteSide_62 : decode cX2_noteSide 62 = .ok (.getstatic 161, 3) := by decide +kernel
theorem dX2_noteSide_65 : decode cX2_noteSide 65 = .ok (.iload_n 3, 1) := by decide +kernel
theorem dX2_noteSide_66 : decode cX2_noteSide 66 = .ok (.iaload, 1) := by decide +kernel
theorem dX2_noteSide_67 : decode cX2_noteSide 67 = .ok (.imul, 1) := by decide +kernel
theorem dX2_noteSide_68 : decode cX2_noteSide 68 = .ok (.iadd, 1) := by decide +kernel
theorem dX2_noteSide_69 : decode cX2_noteSide 69 = .ok (.iastore, 1) := by decide +kernel
theorem dX2_noteSide_70 : decode cX2_noteSide 70 = .ok (.aload 5, 2) := by decide +kernel
theorem dX2_noteSide_72 : decode cX2_noteSide 72 = .ok (.iconst 5, 1) := by decide +kernel
theorem dX2_noteSide_73 : decode cX2_noteSide 73 = .ok (.aload_n 0, 1) := by decide +kernel
theorem dX2_noteSide_74 : decode cX2_noteSide 74 = .ok (.iload_n 1, 1) := by decide +kernel
theorem dX2_noteSide_75 : decode cX2_noteSide 75 = .ok (.iload_n 2, 1) := by decide +kernel
theorem dX2_noteSide_76 : decode cX2_noteSide 76 = .ok (.iload_n 3, 1) := by decide +kernel
theorem dX2_noteSide_77 : decode cX2_noteSide 77 = .ok (.invokevirtual 167, 3) := by decide +kernel
theorem dX2_noteSide_80 : decode cX2_noteSide 80 = .ok (.iastore, 1) := by decide +kernel
theorem dX2_noteSide_81 : decode cX2_noteSide 81 = .ok (.aload_n 0, 1) := by decide +kernel
theorem dX2_noteSide_82 : decode cX2_noteSide 82 = .ok (.dup, 1) := by decide +kernel
theorem dX2_noteSide_83 : decode cX2_noteSide 83 = .ok (.getfield 142, 3) := by decide +kernel
theorem dX2_noteSide_86 : decode cX2_noteSide 86 = .ok (.iconst 1, 1) := by decide +kernel
theorem dX2_noteSide_87 : decode cX2_noteSide 87 = .ok (.iadd, 1) := by decide +kernel
theorem dX2_noteSide_88 : decode cX2_noteSide 88 = .ok (.putfield 142, 3) := by decide +kernel
theorem dX2_turnAt_0 : decode cX2_turnAt 0 = .ok (.iconst 0, 1) := by decide +kernel
theorem dX2_turnAt_1 : decode cX2_turnAt 1 = .ok (.istore 4, 2) := by decide +kernel
theorem dX2_turnAt_3 : decode cX2_turnAt 3 = .ok (.iload 4, 2) := by decide +kernel
theorem dX2_turnAt_5 : decode cX2_turnAt 5 = .ok (.getstatic 170, 3) := by decide +kernel
theorem dX2_turnAt_8 : decode cX2_turnAt 8 = .ok (.arraylength, 1) := by decide +kernel
theorem dX2_turnAt_9 : decode cX2_turnAt 9 = .ok (.if_icmp .ge 36, 3) := by decide +kernel
theorem dX2_turnAt_12 : decode cX2_turnAt 12 = .ok (.iload_n 3, 1) := by decide +kernel
theorem dX2_turnAt_13 : decode cX2_turnAt 13 = .ok (.getstatic 170, 3) := by decide +kernel
theorem dX2_turnAt_16 : decode cX2_turnAt 16 = .ok (.iload 4, 2) := by decide +kernel
theorem dX2_turnAt_18 : decode cX2_turnAt 18 = .ok (.iaload, 1) := by decide +kernel
theorem dX2_turnAt_19 : decode cX2_turnAt 19 = .ok (.iadd, 1) := by decide +kernel
theorem dX2_turnAt_20 : decode cX2_turnAt 20 = .ok (.iconst 4, 1) := by decide +kernel
theorem dX2_turnAt_21 : decode cX2_turnAt 21 = .ok (.irem, 1) := by decide +kernel
theorem dX2_turnAt_22 : decode cX2_turnAt 22 = .ok (.istore 5, 2) := by decide +kernel
theorem dX2_turnAt_24 : decode cX2_turnAt 24 = .ok (.aload_n 0, 1) := by decide +kernel
theorem dX2_turnAt_25 : decode cX2_turnAt 25 = .ok (.iload_n 1, 1) := by decide +kernel
theorem dX2_turnAt_26 : decode cX2_turnAt 26 = .ok (.iload_n 2, 1) := by decide +kernel
theorem dX2_turnAt_27 : decode cX2_turnAt 27 = .ok (.iload 5, 2) := by decide +kernel
theorem dX2_turnAt_29 : decode cX2_turnAt 29 = .ok (.invokevirtual 110, 3) := by decide +kernel
theorem dX2_turnAt_32 : decode cX2_turnAt 32 = .ok (.iconst (-1), 1) := by decide +kernel
theorem dX2_turnAt_33 : decode cX2_turnAt 33 = .ok (.if_icmp .eq 6, 3) := by decide +kernel
theorem dX2_turnAt_39 : decode cX2_turnAt 39 = .ok (.iinc 4 1, 3) := by decide +kernel
theorem dX2_turnAt_42 : decode cX2_turnAt 42 = .ok (.goto (-39), 3) := by decide +kernel
theorem dX2_turnAt_36 : decode cX2_turnAt 36 = .ok (.iload 5, 2) := by decide +kernel
theorem dX2_turnAt_38 : decode cX2_turnAt 38 = .ok (.ireturn, 1) := by decide +kernel
theorem dX2_turnAt_45 : decode cX2_turnAt 45 = .ok (.iload_n 3, 1) := by decide +kernel
theorem dX2_turnAt_46 : decode cX2_turnAt 46 = .ok (.ireturn, 1) := by decide +kernel
theorem dX2_traceRing_0 : decode cX2_traceRing 0 = .ok (.iload_n 1, 1) := by decide +kernel
theorem dX2_traceRing_1 : decode cX2_traceRing 1 = .ok (.bipush 25, 2) := by decide +kernel
theorem dX2_traceRing_3 : decode cX2_traceRing 3 = .ok (.idiv, 1) := by decide +kernel
theorem dX2_traceRing_4 : decode cX2_traceRing 4 = .ok (.istore_n 3, 1) := by decide +kernel
theorem dX2_traceRing_5 : decode cX2_traceRing 5 = .ok (.iload_n 1, 1) := by decide +kernel
theorem dX2_traceRing_6 : decode cX2_traceRing 6 = .ok (.bipush 25, 2) := by decide +kernel
theorem dX2_traceRing_8 : decode cX2_traceRing 8 = .ok (.irem, 1) := by decide +kernel
theorem dX2_traceRing_9 : decode cX2_traceRing 9 = .ok (.istore 4, 2) := by decide +kernel
theorem dX2_traceRing_11 : decode cX2_traceRing 11 = .ok (.iload_n 2, 1) := by decide +kernel
theorem dX2_traceRing_12 : decode cX2_traceRing 12 = .ok (.istore 5, 2) := by decide +kernel
theorem dX2_traceRing_14 : decode cX2_traceRing 14 = .ok (.aload_n 0, 1) := by decide +kernel
theorem dX2_traceRing_15 : decode cX2_traceRing 15 = .ok (.iload_n 3, 1) := by decide +kernel
theorem dX2_traceRing_16 : decode cX2_traceRing 16 = .ok (.iload 4, 2) := by decide +kernel
theorem dX2_traceRing_18 : decode cX2_traceRing 18 = .ok (.iload 5, 2) := by decide +kernel
theorem dX2_traceRing_20 : decode cX2_traceRing 20 = .ok (.invokevirtual 148, 3) := by decide +kernel
theorem dX2_traceRing_23 : decode cX2_traceRing 23 = .ok (.istore 6, 2) := by decide +kernel
theorem dX2_traceRing_25 : decode cX2_traceRing 25 = .ok (.aload_n 0, 1) := by decide +kernel
theorem dX2_traceRing_26 : decode cX2_traceRing 26 = .ok (.getfield 142, 3) := by decide +kernel
theorem dX2_traceRing_29 : decode cX2_traceRing 29 = .ok (.istore 7, 2) := by decide +kernel
theorem dX2_traceRing_31 : decode cX2_traceRing 31 = .ok (.iconst 0, 1) := by decide +kernel
theorem dX2_traceRing_32 : decode cX2_traceRing 32 = .ok (.istore 8, 2) := by decide +kernel
theorem dX2_traceRing_34 : decode cX2_traceRing 34 = .ok (.iconst 0, 1) := by decide +kernel
theorem dX2_traceRing_35 : decode cX2_traceRing 35 = .ok (.istore 9, 2) := by decide +kernel
theorem dX2_traceRing_37 : decode cX2_traceRing 37 = .ok (.iload 9, 2) := by decide +kernel
theorem dX2_traceRing_39 : decode cX2_traceRing 39 = .ok (.sipush 440, 3) := by decide +kernel
theorem dX2_traceRing_42 : decode cX2_traceRing 42 = .ok (.if_icmp .ge 113, 3) := by decide +kernel
theorem dX2_traceRing_45 : decode cX2_traceRing 45 = .ok (.aload_n 0, 1) := by decide +kernel
theorem dX2_traceRing_46 : decode cX2_traceRing 46 = .ok (.getfield 45, 3) := by decide +kernel
theorem dX2_traceRing_49 : decode cX2_traceRing 49 = .ok (.iconst 4, 1) := by decide +kernel
theorem dX2_traceRing_50 : decode cX2_traceRing 50 = .ok (.iload_n 3, 1) := by decide +kernel
theorem dX2_traceRing_51 : decode cX2_traceRing 51 = .ok (.bipush 25, 2) := by decide +kernel
theorem dX2_traceRing_53 : decode cX2_traceRing 53 = .ok (.imul, 1) := by decide +kernel
theorem dX2_traceRing_54 : decode cX2_traceRing 54 = .ok (.iload 4, 2) := by decide +kernel
theorem dX2_traceRing_56 : decode cX2_traceRing 56 = .ok (.iadd, 1) := by decide +kernel
theorem dX2_traceRing_57 : decode cX2_traceRing 57 = .ok (.imul, 1) := by decide +kernel
theorem dX2_traceRing_58 : decode cX2_traceRing 58 = .ok (.iload 5, 2) := by decide +kernel
theorem dX2_traceRing_60 : decode cX2_traceRing 60 = .ok (.iadd, 1) := by decide +kernel
theorem dX2_traceRing_61 : decode cX2_traceRing 61 = .ok (.baload, 1) := by decide +kernel
theorem dX2_traceRing_62 : decode cX2_traceRing 62 = .ok (.ifCond .ne 93, 3) := by decide +kernel
theorem dX2_traceRing_65 : decode cX2_traceRing 65 = .ok (.aload_n 0, 1) := by decide +kernel
theorem dX2_traceRing_66 : decode cX2_traceRing 66 = .ok (.getfield 45, 3) := by decide +kernel
theorem dX2_traceRing_69 : decode cX2_traceRing 69 = .ok (.iconst 4, 1) := by decide +kernel
theorem dX2_traceRing_70 : decode cX2_traceRing 70 = .ok (.iload_n 3, 1) := by decide +kernel
theorem dX2_traceRing_71 : decode cX2_traceRing 71 = .ok (.bipush 25, 2) := by decide +kernel
theorem dX2_traceRing_73 : decode cX2_traceRing 73 = .ok (.imul, 1) := by decide +kernel
theorem dX2_traceRing_74 : decode cX2_traceRing 74 = .ok (.iload 4, 2) := by decide +kernel
theorem dX2_traceRing_76 : decode cX2_traceRing 76 = .ok (.iadd, 1) := by decide +kernel
theorem dX2_traceRing_77 : decode cX2_traceRing 77 = .ok (.imul, 1) := by decide +kernel
theorem dX2_traceRing_78 : decode cX2_traceRing 78 = .ok (.iload 5, 2) := by decide +kernel
theorem dX2_traceRing_80 : decode cX2_traceRing 80 = .ok (.iadd, 1) := by decide +kernel
theorem dX2_traceRing_81 : decode cX2_traceRing 81 = .ok (.iconst 1, 1) := by decide +kernel
theorem dX2_traceRing_82 : decode cX2_traceRing 82 = .ok (.bastore, 1) := by decide +kernel
theorem dX2_traceRing_83 : decode cX2_traceRing 83 = .ok (.aload_n 0, 1) := by decide +kernel
theorem dX2_traceRing_84 : decode cX2_traceRing 84 = .ok (.iload_n 3, 1) := by decide +kernel
theorem dX2_traceRing_85 : decode cX2_traceRing 85 = .ok (.iload 4, 2) := by decide +kernel
theorem dX2_traceRing_87 : decode cX2_traceRing 87 = .ok (.iload 5, 2) := by decide +kernel
theorem dX2_traceRing_89 : decode cX2_traceRing 89 = .ok (.invokevirtual 151, 3) := by decide +kernel
theorem dX2_traceRing_92 : decode cX2_traceRing 92 = .ok (.istore 10, 2) := by decide +kernel
theorem dX2_traceRing_94 : decode cX2_traceRing 94 = .ok (.aload_n 0, 1) := by decide +kernel
theorem dX2_traceRing_95 : decode cX2_traceRing 95 = .ok (.iload_n 3, 1) := by decide +kernel
theorem dX2_traceRing_96 : decode cX2_traceRing 96 = .ok (.iload 4, 2) := by decide +kernel
theorem dX2_traceRing_98 : decode cX2_traceRing 98 = .ok (.iload 5, 2) := by decide +kernel
theorem dX2_traceRing_100 : decode cX2_traceRing 100 = .ok (.iload 10, 2) := by decide +kernel
theorem dX2_traceRing_102 : decode cX2_traceRing 102 = .ok (.invokevirtual 154, 3) := by decide +kernel
theorem dX2_traceRing_105 : decode cX2_traceRing 105 = .ok (.iload 8, 2) := by decide +kernel
theorem dX2_traceRing_107 : decode cX2_traceRing 107 = .ok (.iload 10, 2) := by decide +kernel
theorem dX2_traceRing_109 : decode cX2_traceRing 109 = .ok (.iadd, 1) := by decide +kernel
theorem dX2_traceRing_110 : decode cX2_traceRing 110 = .ok (.istore 8, 2) := by decide +kernel
theorem dX2_traceRing_112 : decode cX2_traceRing 112 = .ok (.iload_n 3, 1) := by decide +kernel
theorem dX2_traceRing_113 : decode cX2_traceRing 113 = .ok (.iload 10, 2) := by decide +kernel
theorem dX2_traceRing_115 : decode cX2_traceRing 115 = .ok (.getstatic 158, 3) := by decide +kernel
theorem dX2_traceRing_118 : decode cX2_traceRing 118 = .ok (.iload 5, 2) := by decide +kernel
theorem dX2_traceRing_120 : decode cX2_traceRing 120 = .ok (.iaload, 1) := by decide +kernel
theorem dX2_traceRing_121 : decode cX2_traceRing 121 = .ok (.imul, 1) := by decide +kernel
theorem dX2_traceRing_122 : decode cX2_traceRing 122 = .ok (.iadd, 1) := by decide +kernel
theorem dX2_traceRing_123 : decode cX2_traceRing 123 = .ok (.istore_n 3, 1) := by decide +kernel
theorem dX2_traceRing_124 : decode cX2_traceRing 124 = .ok (.iload 4, 2) := by decide +kernel
theorem dX2_traceRing_126 : decode cX2_traceRing 126 = .ok (.iload 10, 2) := by decide +kernel
theorem dX2_traceRing_128 : decode cX2_traceRing 128 = .ok (.getstatic 161, 3) := by decide +kernel
theorem dX2_traceRing_131 : decode cX2_traceRing 131 = .ok (.iload 5, 2) := by decide +kernel
theorem dX2_traceRing_133 : decode cX2_traceRing 133 = .ok (.iaload, 1) := by decide +kernel
theorem dX2_traceRing_134 : decode cX2_traceRing 134 = .ok (.imul, 1) := by decide +kernel
theorem dX2_traceRing_135 : decode cX2_traceRing 135 = .ok (.iadd, 1) := by decide +kernel
theorem dX2_traceRing_136 : decode cX2_traceRing 136 = .ok (.istore 4, 2) := by decide +kernel
theorem dX2_traceRing_138 : decode cX2_traceRing 138 = .ok (.aload_n 0, 1) := by decide +kernel
theorem dX2_traceRing_139 : decode cX2_traceRing 139 = .ok (.iload_n 3, 1) := by decide +kernel
theorem dX2_traceRing_140 : decode cX2_traceRing 140 = .ok (.iload 4, 2) := by decide +kernel
theorem dX2_traceRing_142 : decode cX2_traceRing 142 = .ok (.iload 5, 2) := by decide +kernel
theorem dX2_traceRing_144 : decode cX2_traceRing 144 = .ok (.invokevirtual 164, 3) := by decide +kernel
theorem dX2_traceRing_147 : decode cX2_traceRing 147 = .ok (.istore 5, 2) := by decide +kernel
theorem dX2_traceRing_149 : decode cX2_traceRing 149 = .ok (.iinc 9 1, 3) := by decide +kernel
theorem dX2_traceRing_152 : decode cX2_traceRing 152 = .ok (.goto (-115), 3) := by decide +kernel
theorem dX2_traceRing_155 : decode cX2_traceRing 155 = .ok (.aload_n 0, 1) := by decide +kernel
theorem dX2_traceRing_156 : decode cX2_traceRing 156 = .ok (.getfield 39, 3) := by decide +kernel
theorem dX2_traceRing_159 : decode cX2_traceRing 159 = .ok (.aload_n 0, 1) := by decide +kernel
theorem dX2_traceRing_160 : decode cX2_traceRing 160 = .ok (.getfield 139, 3) := by decide +kernel
theorem dX2_traceRing_163 : decode cX2_traceRing 163 = .ok (.aaload, 1) := by decide +kernel
theorem dX2_traceRing_164 : decode cX2_traceRing 164 = .ok (.astore 9, 2) := by decide +kernel
theorem dX2_traceRing_166 : decode cX2_traceRing 166 = .ok (.aload 9, 2) := by decide +kernel
theorem dX2_traceRing_168 : decode cX2_traceRing 168 = .ok (.iconst 0, 1) := by decide +kernel
theorem dX2_traceRing_169 : decode cX2_traceRing 169 = .ok (.iload 6, 2) := by decide +kernel
theorem dX2_traceRing_171 : decode cX2_traceRing 171 = .ok (.iastore, 1) := by decide +kernel
theorem dX2_traceRing_172 : decode cX2_traceRing 172 = .ok (.aload 9, 2) := by decide +kernel
theorem dX2_traceRing_174 : decode cX2_traceRing 174 = .ok (.iconst 1, 1) := by decide +kernel
theorem dX2_traceRing_175 : decode cX2_traceRing 175 = .ok (.iload 7, 2) := by decide +kernel
theorem dX2_traceRing_177 : decode cX2_traceRing 177 = .ok (.iastore, 1) := by decide +kernel
theorem dX2_traceRing_178 : decode cX2_traceRing 178 = .ok (.aload 9, 2) := by decide +kernel
theorem dX2_traceRing_180 : decode cX2_traceRing 180 = .ok (.iconst 2, 1) := by decide +kernel
theorem dX2_traceRing_181 : decode cX2_traceRing 181 = .ok (.aload_n 0, 1) := by decide +kernel
theorem dX2_traceRing_182 : decode cX2_traceRing 182 = .ok (.getfield 142, 3) := by decide +kernel
theorem dX2_traceRing_185 : decode cX2_traceRing 185 = .ok (.iload 7, 2) := by decide +kernel
theorem dX2_traceRing_187 : decode cX2_traceRing 187 = .ok (.isub, 1) := by decide +kernel
theorem dX2_traceRing_188 : decode cX2_traceRing 188 = .ok (.iastore, 1) := by decide +kernel
theorem dX2_traceRing_189 : decode cX2_traceRing 189 = .ok (.aload_n 0, 1) := by decide +kernel
theorem dX2_traceRing_190 : decode cX2_traceRing 190 = .ok (.dup, 1) := by decide +kernel
theorem dX2_traceRing_191 : decode cX2_traceRing 191 = .ok (.getfield 139, 3) := by decide +kernel
theorem dX2_traceRing_194 : decode cX2_traceRing 194 = .ok (.iconst 1, 1) := by decide +kernel
theorem dX2_traceRing_195 : decode cX2_traceRing 195 = .ok (.iadd, 1) := by decide +kernel
theorem dX2_traceRing_196 : decode cX2_traceRing 196 = .ok (.putfield 139, 3) := by decide +kernel
theorem dX2_traceRing_199 : decode cX2_traceRing 199 = .ok (.iload 6, 2) := by decide +kernel
theorem dX2_traceRing_201 : decode cX2_traceRing 201 = .ok (.ifCond .lt 15, 3) := by decide +kernel
theorem dX2_traceRing_216 : decode cX2_traceRing 216 = .ok (.return_, 1) := by decide +kernel
theorem dX2_traceRing_204 : decode cX2_traceRing 204 = .ok (.aload_n 0, 1) := by decide +kernel
theorem dX2_traceRing_205 : decode cX2_traceRing 205 = .ok (.getfield 36, 3) := by decide +kernel
theorem dX2_traceRing_208 : decode cX2_traceRing 208 = .ok (.iload 6, 2) := by decide +kernel
theorem dX2_traceRing_210 : decode cX2_traceRing 210 = .ok (.dup2, 1) := by decide +kernel
theorem dX2_traceRing_211 : decode cX2_traceRing 211 = .ok (.iaload, 1) := by decide +kernel
theorem dX2_traceRing_212 : decode cX2_traceRing 212 = .ok (.iload 8, 2) := by decide +kernel
theorem dX2_traceRing_214 : decode cX2_traceRing 214 = .ok (.iadd, 1) := by decide +kernel
theorem dX2_traceRing_215 : decode cX2_traceRing 215 = .ok (.iastore, 1) := by decide +kernel
theorem dX2_traceRings_0 : decode cX2_traceRings 0 = .ok (.aload_n 0, 1) := by decide +kernel
theorem dX2_traceRings_1 : decode cX2_traceRings 1 = .ok (.iconst 0, 1) := by decide +kernel
theorem dX2_traceRings_2 : decode cX2_traceRings 2 = .ok (.putfield 139, 3) := by decide +kernel
theorem dX2_traceRings_5 : decode cX2_traceRings 5 = .ok (.aload_n 0, 1) := by decide +kernel
theorem dX2_traceRings_6 : decode cX2_traceRings 6 = .ok (.iconst 0, 1) := by decide +kernel
theorem dX2_traceRings_7 : decode cX2_traceRings 7 = .ok (.putfield 142, 3) := by decide +kernel
theorem dX2_traceRings_10 : decode cX2_traceRings 10 = .ok (.iconst 0, 1) := by decide +kernel
theorem dX2_traceRings_11 : decode cX2_traceRings 11 = .ok (.istore_n 1, 1) := by decide +kernel
theorem dX2_traceRings_12 : decode cX2_traceRings 12 = .ok (.iload_n 1, 1) := by decide +kernel
theorem dX2_traceRings_13 : decode cX2_traceRings 13 = .ok (.aload_n 0, 1) := by decide +kernel
theorem dX2_traceRings_14 : decode cX2_traceRings 14 = .ok (.getfield 45, 3) := by decide +kernel
theorem dX2_traceRings_17 : decode cX2_traceRings 17 = .ok (.arraylength, 1) := by decide +kernel
theorem dX2_traceRings_18 : decode cX2_traceRings 18 = .ok (.if_icmp .ge 16, 3) := by decide +kernel
theorem dX2_traceRings_21 : decode cX2_traceRings 21 = .ok (.aload_n 0, 1) := by decide +kernel
theorem dX2_traceRings_22 : decode cX2_traceRings 22 = .ok (.getfield 45, 3) := by decide +kernel
theorem dX2_traceRings_25 : decode cX2_traceRings 25 = .ok (.iload_n 1, 1) := by decide +kernel
theorem dX2_traceRings_26 : decode cX2_traceRings 26 = .ok (.iconst 0, 1) := by decide +kernel
theorem dX2_traceRings_27 : decode cX2_traceRings 27 = .ok (.bastore, 1) := by decide +kernel
theorem dX2_traceRings_28 : decode cX2_traceRings 28 = .ok (.iinc 1 1, 3) := by decide +kernel
theorem dX2_traceRings_31 : decode cX2_traceRings 31 = .ok (.goto (-19), 3) := by decide +kernel
theorem dX2_traceRings_34 : decode cX2_traceRings 34 = .ok (.aload_n 0, 1) := by decide +kernel
theorem dX2_traceRings_35 : decode cX2_traceRings 35 = .ok (.getfield 36, 3) := by decide +kernel
theorem dX2_traceRings_38 : decode cX2_traceRings 38 = .ok (.iconst 0, 1) := by decide +kernel
theorem dX2_traceRings_39 : decode cX2_traceRings 39 = .ok (.invokestatic 88, 3) := by decide +kernel
theorem dX2_traceRings_42 : decode cX2_traceRings 42 = .ok (.iconst 0, 1) := by decide +kernel
theorem dX2_traceRings_43 : decode cX2_traceRings 43 = .ok (.istore_n 1, 1) := by decide +kernel
theorem dX2_traceRings_44 : decode cX2_traceRings 44 = .ok (.iload_n 1, 1) := by decide +kernel
theorem dX2_traceRings_45 : decode cX2_traceRings 45 = .ok (.sipush 625, 3) := by decide +kernel
theorem dX2_traceRings_48 : decode cX2_traceRings 48 = .ok (.if_icmp .ge 87, 3) := by decide +kernel
theorem dX2_traceRings_51 : decode cX2_traceRings 51 = .ok (.iconst 0, 1) := by decide +kernel
theorem dX2_traceRings_52 : decode cX2_traceRings 52 = .ok (.istore_n 2, 1) := by decide +kernel
theorem dX2_traceRings_53 : decode cX2_traceRings 53 = .ok (.iload_n 2, 1) := by decide +kernel
theorem dX2_traceRings_54 : decode cX2_traceRings 54 = .ok (.iconst 4, 1) := by decide +kernel
theorem dX2_traceRings_55 : decode cX2_traceRings 55 = .ok (.if_icmp .ge 74, 3) := by decide +kernel
theorem dX2_traceRings_58 : decode cX2_traceRings 58 = .ok (.aload_n 0, 1) := by decide +kernel
theorem dX2_traceRings_59 : decode cX2_traceRings 59 = .ok (.getfield 16, 3) := by decide +kernel
theorem dX2_traceRings_62 : decode cX2_traceRings 62 = .ok (.iload_n 1, 1) := by decide +kernel
theorem dX2_traceRings_63 : decode cX2_traceRings 63 = .ok (.baload, 1) := by decide +kernel
theorem dX2_traceRings_64 : decode cX2_traceRings 64 = .ok (.ifCond .eq 24, 3) := by decide +kernel
theorem dX2_traceRings_88 : decode cX2_traceRings 88 = .ok (.iconst 0, 1) := by decide +kernel
theorem dX2_traceRings_89 : decode cX2_traceRings 89 = .ok (.istore_n 3, 1) := by decide +kernel
theorem dX2_traceRings_90 : decode cX2_traceRings 90 = .ok (.iload_n 3, 1) := by decide +kernel
theorem dX2_traceRings_91 : decode cX2_traceRings 91 = .ok (.ifCond .eq 32, 3) := by decide +kernel
theorem dX2_traceRings_123 : decode cX2_traceRings 123 = .ok (.iinc 2 1, 3) := by decide +kernel
theorem dX2_traceRings_126 : decode cX2_traceRings 126 = .ok (.goto (-73), 3) := by decide +kernel
theorem dX2_traceRings_94 : decode cX2_traceRings 94 = .ok (.aload_n 0, 1) := by decide +kernel
theorem dX2_traceRings_95 : decode cX2_traceRings 95 = .ok (.getfield 45, 3) := by decide +kernel
theorem dX2_traceRings_98 : decode cX2_traceRings 98 = .ok (.iconst 4, 1) := by decide +kernel
theorem dX2_traceRings_99 : decode cX2_traceRings 99 = .ok (.iload_n 1, 1) := by decide +kernel
theorem dX2_traceRings_100 : decode cX2_traceRings 100 = .ok (.imul, 1) := by decide +kernel
theorem dX2_traceRings_101 : decode cX2_traceRings 101 = .ok (.iload_n 2, 1) := by decide +kernel
theorem dX2_traceRings_102 : decode cX2_traceRings 102 = .ok (.iadd, 1) := by decide +kernel
theorem dX2_traceRings_103 : decode cX2_traceRings 103 = .ok (.baload, 1) := by decide +kernel
theorem dX2_traceRings_104 : decode cX2_traceRings 104 = .ok (.ifCond .ne 19, 3) := by decide +kernel
theorem dX2_traceRings_107 : decode cX2_traceRings 107 = .ok (.aload_n 0, 1) := by decide +kernel
theorem dX2_traceRings_108 : decode cX2_traceRings 108 = .ok (.getfield 139, 3) := by decide +kernel
theorem dX2_traceRings_111 : decode cX2_traceRings 111 = .ok (.sipush 220, 3) := by decide +kernel
theorem dX2_traceRings_114 : decode cX2_traceRings 114 = .ok (.if_icmp .ge 9, 3) := by decide +kernel
theorem dX2_traceRings_117 : decode cX2_traceRings 117 = .ok (.aload_n 0, 1) := by decide +kernel
theorem dX2_traceRings_118 : decode cX2_traceRings 118 = .ok (.iload_n 1, 1) := by decide +kernel
theorem dX2_traceRings_119 : decode cX2_traceRings 119 = .ok (.iload_n 2, 1) := by decide +kernel
theorem dX2_traceRings_120 : decode cX2_traceRings 120 = .ok (.invokevirtual 145, 3) := by decide +kernel
theorem dX2_traceRings_67 : decode cX2_traceRings 67 = .ok (.aload_n 0, 1) := by decide +kernel
theorem dX2_traceRings_68 : decode cX2_traceRings 68 = .ok (.iload_n 1, 1) := by decide +kernel
theorem dX2_traceRings_69 : decode cX2_traceRings 69 = .ok (.bipush 25, 2) := by decide +kernel
theorem dX2_traceRings_71 : decode cX2_traceRings 71 = .ok (.idiv, 1) := by decide +kernel
theorem dX2_traceRings_72 : decode cX2_traceRings 72 = .ok (.iload_n 1, 1) := by decide +kernel
theorem dX2_traceRings_73 : decode cX2_traceRings 73 = .ok (.bipush 25, 2) := by decide +kernel
theorem dX2_traceRings_75 : decode cX2_traceRings 75 = .ok (.irem, 1) := by decide +kernel
theorem dX2_traceRings_76 : decode cX2_traceRings 76 = .ok (.iload_n 2, 1) := by decide +kernel
theorem dX2_traceRings_77 : decode cX2_traceRings 77 = .ok (.invokevirtual 110, 3) := by decide +kernel
theorem dX2_traceRings_80 : decode cX2_traceRings 80 = .ok (.iconst (-1), 1) := by decide +kernel
theorem dX2_traceRings_81 : decode cX2_traceRings 81 = .ok (.if_icmp .eq 7, 3) := by decide +kernel
theorem dX2_traceRings_84 : decode cX2_traceRings 84 = .ok (.iconst 1, 1) := by decide +kernel
theorem dX2_traceRings_85 : decode cX2_traceRings 85 = .ok (.goto 4, 3) := by decide +kernel
theorem dX2_traceRings_129 : decode cX2_traceRings 129 = .ok (.iinc 1 1, 3) := by decide +kernel
theorem dX2_traceRings_132 : decode cX2_traceRings 132 = .ok (.goto (-88), 3) := by decide +kernel
theorem dX2_traceRings_135 : decode cX2_traceRings 135 = .ok (.return_, 1) := by decide +kernel
theorem dJ9_max_7cf53_0 : decode cJ9_max_7cf53 0 = .ok (.iload_n 0, 1) := by decide +kernel
theorem dJ9_max_7cf53_1 : decode cJ9_max_7cf53 1 = .ok (.iload_n 1, 1) := by decide +kernel
theorem dJ9_max_7cf53_2 : decode cJ9_max_7cf53 2 = .ok (.if_icmp .lt 7, 3) := by decide +kernel
theorem dJ9_max_7cf53_9 : decode cJ9_max_7cf53 9 = .ok (.iload_n 1, 1) := by decide +kernel
theorem dJ9_max_7cf53_10 : decode cJ9_max_7cf53 10 = .ok (.ireturn, 1) := by decide +kernel
theorem dJ9_max_7cf53_5 : decode cJ9_max_7cf53 5 = .ok (.iload_n 0, 1) := by decide +kernel
theorem dJ9_max_7cf53_6 : decode cJ9_max_7cf53 6 = .ok (.goto 4, 3) := by decide +kernel
theorem dJ6_stringSize_0f7a4_0 : decode cJ6_stringSize_0f7a4 0 = .ok (.iconst 1, 1) := by decide +kernel
theorem dJ6_stringSize_0f7a4_1 : decode cJ6_stringSize_0f7a4 1 = .ok (.istore_n 1, 1) := by decide +kernel
theorem dJ6_stringSize_0f7a4_2 : decode cJ6_stringSize_0f7a4 2 = .ok (.iload_n 0, 1) := by decide +kernel
theorem dJ6_stringSize_0f7a4_3 : decode cJ6_stringSize_0f7a4 3 = .ok (.ifCond .lt 8, 3) := by decide +kernel
theorem dJ6_stringSize_0f7a4_11 : decode cJ6_stringSize_0f7a4 11 = .ok (.bipush (-10), 2) := by decide +kernel
theorem dJ6_stringSize_0f7a4_13 : decode cJ6_stringSize_0f7a4 13 = .ok (.istore_n 2, 1) := by decide +kernel
theorem dJ6_stringSize_0f7a4_14 : decode cJ6_stringSize_0f7a4 14 = .ok (.iconst 1, 1) := by decide +kernel
theorem dJ6_stringSize_0f7a4_15 : decode cJ6_stringSize_0f7a4 15 = .ok (.istore_n 3, 1) := by decide +kernel
theorem dJ6_stringSize_0f7a4_16 : decode cJ6_stringSize_0f7a4 16 = .ok (.iload_n 3, 1) := by decide +kernel
theorem dJ6_stringSize_0f7a4_17 : decode cJ6_stringSize_0f7a4 17 = .ok (.bipush 10, 2) := by decide +kernel
theorem dJ6_stringSize_0f7a4_19 : decode cJ6_stringSize_0f7a4 19 = .ok (.if_icmp .ge 23, 3) := by decide +kernel
theorem dJ6_stringSize_0f7a4_22 : decode cJ6_stringSize_0f7a4 22 = .ok (.iload_n 0, 1) := by decide +kernel
theorem dJ6_stringSize_0f7a4_23 : decode cJ6_stringSize_0f7a4 23 = .ok (.iload_n 2, 1) := by decide +kernel
theorem dJ6_stringSize_0f7a4_24 : decode cJ6_stringSize_0f7a4 24 = .ok (.if_icmp .le 7, 3) := by decide +kernel
theorem dJ6_stringSize_0f7a4_31 : decode cJ6_stringSize_0f7a4 31 = .ok (.bipush 10, 2) := by decide +kernel
theorem dJ6_stringSize_0f7a4_33 : decode cJ6_stringSize_0f7a4 33 = .ok (.iload_n 2, 1) := by decide +kernel
theorem dJ6_stringSize_0f7a4_34 : decode cJ6_stringSize_0f7a4 34 = .ok (.imul, 1) := by decide +kernel
theorem dJ6_stringSize_0f7a4_35 : decode cJ6_stringSize_0f7a4 35 = .ok (.istore_n 2, 1) := by decide +kernel
theorem dJ6_stringSize_0f7a4_36 : decode cJ6_stringSize_0f7a4 36 = .ok (.iinc 3 1, 3) := by decide +kernel
theorem dJ6_stringSize_0f7a4_39 : decode cJ6_stringSize_0f7a4 39 = .ok (.goto (-23), 3) := by decide +kernel
theorem dJ6_stringSize_0f7a4_27 : decode cJ6_stringSize_0f7a4 27 = .ok (.iload_n 3, 1) := by decide +kernel
theorem dJ6_stringSize_0f7a4_28 : decode cJ6_stringSize_0f7a4 28 = .ok (.iload_n 1, 1) := by decide +kernel
theorem dJ6_stringSize_0f7a4_29 : decode cJ6_stringSize_0f7a4 29 = .ok (.iadd, 1) := by decide +kernel
theorem dJ6_stringSize_0f7a4_30 : decode cJ6_stringSize_0f7a4 30 = .ok (.ireturn, 1) := by decide +kernel
theorem dJ6_stringSize_0f7a4_42 : decode cJ6_stringSize_0f7a4 42 = .ok (.bipush 10, 2) := by decide +kernel
theorem dJ6_stringSize_0f7a4_44 : decode cJ6_stringSize_0f7a4 44 = .ok (.iload_n 1, 1) := by decide +kernel
theorem dJ6_stringSize_0f7a4_45 : decode cJ6_stringSize_0f7a4 45 = .ok (.iadd, 1) := by decide +kernel
theorem dJ6_stringSize_0f7a4_46 : decode cJ6_stringSize_0f7a4 46 = .ok (.ireturn, 1) := by decide +kernel
theorem dJ6_stringSize_0f7a4_6 : decode cJ6_stringSize_0f7a4 6 = .ok (.iconst 0, 1) := by decide +kernel
theorem dJ6_stringSize_0f7a4_7 : decode cJ6_stringSize_0f7a4 7 = .ok (.istore_n 1, 1) := by decide +kernel
theorem dJ6_stringSize_0f7a4_8 : decode cJ6_stringSize_0f7a4 8 = .ok (.iload_n 0, 1) := by decide +kernel
theorem dJ6_stringSize_0f7a4_9 : decode cJ6_stringSize_0f7a4 9 = .ok (.ineg, 1) := by decide +kernel
theorem dJ6_stringSize_0f7a4_10 : decode cJ6_stringSize_0f7a4 10 = .ok (.istore_n 0, 1) := by decide +kernel
theorem dX8_distanceTo_0 : decode cX8_distanceTo 0 = .ok (.iload_n 2, 1) := by decide +kernel
theorem dX8_distanceTo_1 : decode cX8_distanceTo 1 = .ok (.aload_n 0, 1) := by decide +kernel
theorem dX8_distanceTo_2 : decode cX8_distanceTo 2 = .ok (.getfield 13, 3) := by decide +kernel
theorem dX8_distanceTo_5 : decode cX8_distanceTo 5 = .ok (.iload_n 1, 1) := by decide +kernel
theorem dX8_distanceTo_6 : decode cX8_distanceTo 6 = .ok (.aaload, 1) := by decide +kernel
theorem dX8_distanceTo_7 : decode cX8_distanceTo 7 = .ok (.iconst 0, 1) := by decide +kernel
theorem dX8_distanceTo_8 : decode cX8_distanceTo 8 = .ok (.iaload, 1) := by decide +kernel
theorem dX8_distanceTo_9 : decode cX8_distanceTo 9 = .ok (.isub, 1) := by decide +kernel
theorem dX8_distanceTo_10 : decode cX8_distanceTo 10 = .ok (.iload_n 3, 1) := by decide +kernel
theorem dX8_distanceTo_11 : decode cX8_distanceTo 11 = .ok (.iadd, 1) := by decide +kernel
theorem dX8_distanceTo_12 : decode cX8_distanceTo 12 = .ok (.aload_n 0, 1) := by decide +kernel
theorem dX8_distanceTo_13 : decode cX8_distanceTo 13 = .ok (.getfield 13, 3) := by decide +kernel
theorem dX8_distanceTo_16 : decode cX8_distanceTo 16 = .ok (.iload_n 1, 1) := by decide +kernel
theorem dX8_distanceTo_17 : decode cX8_distanceTo 17 = .ok (.aaload, 1) := by decide +kernel
theorem dX8_distanceTo_18 : decode cX8_distanceTo 18 = .ok (.iconst 1, 1) := by decide +kernel
theorem dX8_distanceTo_19 : decode cX8_distanceTo 19 = .ok (.iaload, 1) := by decide +kernel
theorem dX8_distanceTo_20 : decode cX8_distanceTo 20 = .ok (.isub, 1) := by decide +kernel
theorem dX8_distanceTo_21 : decode cX8_distanceTo 21 = .ok (.ireturn, 1) := by decide +kernel
theorem dX2_distanceBeside_0 : decode cX2_distanceBeside 0 = .ok (.aload_n 0, 1) := by decide +kernel
theorem dX2_distanceBeside_1 : decode cX2_distanceBeside 1 = .ok (.iload_n 1, 1) := by decide +kernel
theorem dX2_distanceBeside_2 : decode cX2_distanceBeside 2 = .ok (.iload_n 2, 1) := by decide +kernel
theorem dX2_distanceBeside_3 : decode cX2_distanceBeside 3 = .ok (.invokevirtual 130, 3) := by decide +kernel
theorem dX2_distanceBeside_6 : decode cX2_distanceBeside 6 = .ok (.istore 4, 2) := by decide +kernel
theorem dX2_distanceBeside_8 : decode cX2_distanceBeside 8 = .ok (.aload_n 0, 1) := by decide +kernel
theorem dX2_distanceBeside_9 : decode cX2_distanceBeside 9 = .ok (.getfield 54, 3) := by decide +kernel
theorem dX2_distanceBeside_12 : decode cX2_distanceBeside 12 = .ok (.iload_n 3, 1) := by decide +kernel
theorem dX2_distanceBeside_13 : decode cX2_distanceBeside 13 = .ok (.iload 4, 2) := by decide +kernel
theorem dX2_distanceBeside_15 : decode cX2_distanceBeside 15 = .ok (.bipush 25, 2) := by decide +kernel
theorem dX2_distanceBeside_17 : decode cX2_distanceBeside 17 = .ok (.idiv, 1) := by decide +kernel
theorem dX2_distanceBeside_18 : decode cX2_distanceBeside 18 = .ok (.iload 4, 2) := by decide +kernel
theorem dX2_distanceBeside_20 : decode cX2_distanceBeside 20 = .ok (.bipush 25, 2) := by decide +kernel
theorem dX2_distanceBeside_22 : decode cX2_distanceBeside 22 = .ok (.irem, 1) := by decide +kernel
theorem dX2_distanceBeside_23 : decode cX2_distanceBeside 23 = .ok (.invokevirtual 133, 3) := by decide +kernel
theorem dX2_distanceBeside_26 : decode cX2_distanceBeside 26 = .ok (.ireturn, 1) := by decide +kernel
theorem dX2_countPoints_0 : decode cX2_countPoints 0 = .ok (.iconst 0, 1) := by decide +kernel
theorem dX2_countPoints_1 : decode cX2_countPoints 1 = .ok (.istore_n 1, 1) := by decide +kernel
theorem dX2_countPoints_2 : decode cX2_countPoints 2 = .ok (.iconst 0, 1) := by decide +kernel
theorem dX2_countPoints_3 : decode cX2_countPoints 3 = .ok (.istore_n 2, 1) := by decide +kernel
theorem dX2_countPoints_4 : decode cX2_countPoints 4 = .ok (.iload_n 2, 1) := by decide +kernel
theorem dX2_countPoints_5 : decode cX2_countPoints 5 = .ok (.sipush 625, 3) := by decide +kernel
theorem dX2_countPoints_8 : decode cX2_countPoints 8 = .ok (.if_icmp .ge 26, 3) := by decide +kernel
theorem dX2_countPoints_11 : decode cX2_countPoints 11 = .ok (.iload_n 1, 1) := by decide +kernel
theorem dX2_countPoints_12 : decode cX2_countPoints 12 = .ok (.aload_n 0, 1) := by decide +kernel
theorem dX2_countPoints_13 : decode cX2_countPoints 13 = .ok (.getfield 16, 3) := by decide +kernel
theorem dX2_countPoints_16 : decode cX2_countPoints 16 = .ok (.iload_n 2, 1) := by decide +kernel
theorem dX2_countPoints_17 : decode cX2_countPoints 17 = .ok (.baload, 1) := by decide +kernel
theorem dX2_countPoints_18 : decode cX2_countPoints 18 = .ok (.ifCond .eq 7, 3) := by decide +kernel
theorem dX2_countPoints_25 : decode cX2_countPoints 25 = .ok (.iconst 0, 1) := by decide +kernel
theorem dX2_countPoints_26 : decode cX2_countPoints 26 = .ok (.iadd, 1) := by decide +kernel
theorem dX2_countPoints_27 : decode cX2_countPoints 27 = .ok (.istore_n 1, 1) := by decide +kernel
theorem dX2_countPoints_28 : decode cX2_countPoints 28 = .ok (.iinc 2 1, 3) := by decide +kernel
theorem dX2_countPoints_31 : decode cX2_countPoints 31 = .ok (.goto (-27), 3) := by decide +kernel
theorem dX2_countPoints_21 : decode cX2_countPoints 21 = .ok (.iconst 1, 1) := by decide +kernel
theorem dX2_countPoints_22 : decode cX2_countPoints 22 = .ok (.goto 4, 3) := by decide +kernel
theorem dX2_countPoints_34 : decode cX2_countPoints 34 = .ok (.iload_n 1, 1) := by decide +kernel
theorem dX2_countPoints_35 : decode cX2_countPoints 35 = .ok (.ireturn, 1) := by decide +kernel
theorem dX2_countPieces_0 : decode cX2_countPieces 0 = .ok (.aload_n 0, 1) := by decide +kernel
theorem dX2_countPieces_1 : decode cX2_countPieces 1 = .ok (.getfield 142, 3) := by decide +kernel
theorem dX2_countPieces_4 : decode cX2_countPieces 4 = .ok (.iconst 2, 1) := by decide +kernel
theorem dX2_countPieces_5 : decode cX2_countPieces 5 = .ok (.idiv, 1) := by decide +kernel
theorem dX2_countPieces_6 : decode cX2_countPieces 6 = .ok (.ireturn, 1) := by decide +kernel
theorem dX2_countOutsideSides_0 : decode cX2_countOutsideSides 0 = .ok (.iconst 0, 1) := by decide +kernel
theorem dX2_countOutsideSides_1 : decode cX2_countOutsideSides 1 = .ok (.istore_n 1, 1) := by decide +kernel
theorem dX2_countOutsideSides_2 : decode cX2_countOutsideSides 2 = .ok (.iconst 0, 1) := by decide +kernel
theorem dX2_countOutsideSides_3 : decode cX2_countOutsideSides 3 = .ok (.istore_n 2, 1) := by decide +kernel
theorem dX2_countOutsideSides_4 : decode cX2_countOutsideSides 4 = .ok (.iload_n 2, 1) := by decide +kernel
theorem dX2_countOutsideSides_5 : decode cX2_countOutsideSides 5 = .ok (.aload_n 0, 1) := by decide +kernel
theorem dX2_countOutsideSides_6 : decode cX2_countOutsideSides 6 = .ok (.getfield 139, 3) := by decide +kernel
theorem dX2_countOutsideSides_9 : decode cX2_countOutsideSides 9 = .ok (.if_icmp .ge 36, 3) := by decide +kernel
theorem dX2_countOutsideSides_12 : decode cX2_countOutsideSides 12 = .ok (.iload_n 1, 1) := by decide +kernel
theorem dX2_countOutsideSides_13 : decode cX2_countOutsideSides 13 = .ok (.aload_n 0, 1) := by decide +kernel
theorem dX2_countOutsideSides_14 : decode cX2_countOutsideSides 14 = .ok (.getfield 39, 3) := by decide +kernel
theorem dX2_countOutsideSides_17 : decode cX2_countOutsideSides 17 = .ok (.iload_n 2, 1) := by decide +kernel
theorem dX2_countOutsideSides_18 : decode cX2_countOutsideSides 18 = .ok (.aaload, 1) := by decide +kernel
theorem dX2_countOutsideSides_19 : decode cX2_countOutsideSides 19 = .ok (.iconst 0, 1) := by decide +kernel
theorem dX2_countOutsideSides_20 : decode cX2_countOutsideSides 20 = .ok (.iaload, 1) := by decide +kernel
theorem dX2_countOutsideSides_21 : decode cX2_countOutsideSides 21 = .ok (.iconst (-1), 1) := by decide +kernel
theorem dX2_countOutsideSides_22 : decode cX2_countOutsideSides 22 = .ok (.if_icmp .ne 14, 3) := by decide +kernel
theorem dX2_countOutsideSides_36 : decode cX2_countOutsideSides 36 = .ok (.iconst 0, 1) := by decide +kernel
theorem dX2_countOutsideSides_37 : decode cX2_countOutsideSides 37 = .ok (.iadd, 1) := by decide +kernel
theorem dX2_countOutsideSides_38 : decode cX2_countOutsideSides 38 = .ok (.istore_n 1, 1) := by decide +kernel
theorem dX2_countOutsideSides_39 : decode cX2_countOutsideSides 39 = .ok (.iinc 2 1, 3) := by decide +kernel
theorem dX2_countOutsideSides_42 : decode cX2_countOutsideSides 42 = .ok (.goto (-38), 3) := by decide +kernel
theorem dX2_countOutsideSides_25 : decode cX2_countOutsideSides 25 = .ok (.aload_n 0, 1) := by decide +kernel
theorem dX2_countOutsideSides_26 : decode cX2_countOutsideSides 26 = .ok (.getfield 39, 3) := by decide +kernel
theorem dX2_countOutsideSides_29 : decode cX2_countOutsideSides 29 = .ok (.iload_n 2, 1) := by decide +kernel
theorem dX2_countOutsideSides_30 : decode cX2_countOutsideSides 30 = .ok (.aaload, 1) := by decide +kernel
theorem dX2_countOutsideSides_31 : decode cX2_countOutsideSides 31 = .ok (.iconst 2, 1) := by decide +kernel
theorem dX2_countOutsideSides_32 : decode cX2_countOutsideSides 32 = .ok (.iaload, 1) := by decide +kernel
theorem dX2_countOutsideSides_33 : decode cX2_countOutsideSides 33 = .ok (.goto 4, 3) := by decide +kernel
theorem dX2_countOutsideSides_45 : decode cX2_countOutsideSides 45 = .ok (.iload_n 1, 1) := by decide +kernel
theorem dX2_countOutsideSides_46 : decode cX2_countOutsideSides 46 = .ok (.ireturn, 1) := by decide +kernel
theorem dX2_findRing_0 : decode cX2_findRing 0 = .ok (.iconst 0, 1) := by decide +kernel
theorem dX2_findRing_1 : decode cX2_findRing 1 = .ok (.istore_n 3, 1) := by decide +kernel
theorem dX2_findRing_2 : decode cX2_findRing 2 = .ok (.iconst 0, 1) := by decide +kernel
theorem dX2_findRing_3 : decode cX2_findRing 3 = .ok (.istore 4, 2) := by decide +kernel
theorem dX2_findRing_5 : decode cX2_findRing 5 = .ok (.iload 4, 2) := by decide +kernel
theorem dX2_findRing_7 : decode cX2_findRing 7 = .ok (.aload_n 0, 1) := by decide +kernel
theorem dX2_findRing_8 : decode cX2_findRing 8 = .ok (.getfield 139, 3) := by decide +kernel
theorem dX2_findRing_11 : decode cX2_findRing 11 = .ok (.if_icmp .ge 33, 3) := by decide +kernel
theorem dX2_findRing_14 : decode cX2_findRing 14 = .ok (.aload_n 0, 1) := by decide +kernel
theorem dX2_findRing_15 : decode cX2_findRing 15 = .ok (.getfield 39, 3) := by decide +kernel
theorem dX2_findRing_18 : decode cX2_findRing 18 = .ok (.iload 4, 2) := by decide +kernel
theorem dX2_findRing_20 : decode cX2_findRing 20 = .ok (.aaload, 1) := by decide +kernel
theorem dX2_findRing_21 : decode cX2_findRing 21 = .ok (.iconst 0, 1) := by decide +kernel
theorem dX2_findRing_22 : decode cX2_findRing 22 = .ok (.iaload, 1) := by decide +kernel
theorem dX2_findRing_23 : decode cX2_findRing 23 = .ok (.iload_n 1, 1) := by decide +kernel
theorem dX2_findRing_24 : decode cX2_findRing 24 = .ok (.if_icmp .ne 14, 3) := by decide +kernel
theorem dX2_findRing_38 : decode cX2_findRing 38 = .ok (.iinc 4 1, 3) := by decide +kernel
theorem dX2_findRing_41 : decode cX2_findRing 41 = .ok (.goto (-36), 3) := by decide +kernel
theorem dX2_findRing_27 : decode cX2_findRing 27 = .ok (.iload_n 3, 1) := by decide +kernel
theorem dX2_findRing_28 : decode cX2_findRing 28 = .ok (.iload_n 2, 1) := by decide +kernel
theorem dX2_findRing_29 : decode cX2_findRing 29 = .ok (.if_icmp .ne 6, 3) := by decide +kernel
theorem dX2_findRing_35 : decode cX2_findRing 35 = .ok (.iinc 3 1, 3) := by decide +kernel
theorem dX2_findRing_32 : decode cX2_findRing 32 = .ok (.iload 4, 2) := by decide +kernel
theorem dX2_findRing_34 : decode cX2_findRing 34 = .ok (.ireturn, 1) := by decide +kernel
theorem dX2_findRing_44 : decode cX2_findRing 44 = .ok (.iconst (-1), 1) := by decide +kernel
theorem dX2_findRing_45 : decode cX2_findRing 45 = .ok (.ireturn, 1) := by decide +kernel
theorem dX2_sidesOf_0 : decode cX2_sidesOf 0 = .ok (.aload_n 0, 1) := by decide +kernel
theorem dX2_sidesOf_1 : decode cX2_sidesOf 1 = .ok (.iload_n 1, 1) := by decide +kernel
theorem dX2_sidesOf_2 : decode cX2_sidesOf 2 = .ok (.iload_n 2, 1) := by decide +kernel
theorem dX2_sidesOf_3 : decode cX2_sidesOf 3 = .ok (.invokevirtual 179, 3) := by decide +kernel
theorem dX2_sidesOf_6 : decode cX2_sidesOf 6 = .ok (.istore_n 3, 1) := by decide +kernel
theorem dX2_sidesOf_7 : decode cX2_sidesOf 7 = .ok (.iload_n 3, 1) := by decide +kernel
theorem dX2_sidesOf_8 : decode cX2_sidesOf 8 = .ok (.iconst (-1), 1) := by decide +kernel
theorem dX2_sidesOf_9 : decode cX2_sidesOf 9 = .ok (.if_icmp .ne 7, 3) := by decide +kernel
theorem dX2_sidesOf_16 : decode cX2_sidesOf 16 = .ok (.aload_n 0, 1) := by decide +kernel
theorem dX2_sidesOf_17 : decode cX2_sidesOf 17 = .ok (.getfield 39, 3) := by decide +kernel
theorem dX2_sidesOf_20 : decode cX2_sidesOf 20 = .ok (.iload_n 3, 1) := by decide +kernel
theorem dX2_sidesOf_21 : decode cX2_sidesOf 21 = .ok (.aaload, 1) := by decide +kernel
theorem dX2_sidesOf_22 : decode cX2_sidesOf 22 = .ok (.iconst 2, 1) := by decide +kernel
theorem dX2_sidesOf_23 : decode cX2_sidesOf 23 = .ok (.iaload, 1) := by decide +kernel
theorem dX2_sidesOf_24 : decode cX2_sidesOf 24 = .ok (.ireturn, 1) := by decide +kernel
theorem dX2_sidesOf_12 : decode cX2_sidesOf 12 = .ok (.iconst 0, 1) := by decide +kernel
theorem dX2_sidesOf_13 : decode cX2_sidesOf 13 = .ok (.goto 11, 3) := by decide +kernel
theorem dX2_sideOf_0 : decode cX2_sideOf 0 = .ok (.aload_n 0, 1) := by decide +kernel
theorem dX2_sideOf_1 : decode cX2_sideOf 1 = .ok (.iload_n 1, 1) := by decide +kernel
theorem dX2_sideOf_2 : decode cX2_sideOf 2 = .ok (.iload_n 2, 1) := by decide +kernel
theorem dX2_sideOf_3 : decode cX2_sideOf 3 = .ok (.invokevirtual 179, 3) := by decide +kernel
theorem dX2_sideOf_6 : decode cX2_sideOf 6 = .ok (.istore 5, 2) := by decide +kernel
theorem dX2_sideOf_8 : decode cX2_sideOf 8 = .ok (.iload 5, 2) := by decide +kernel
theorem dX2_sideOf_10 : decode cX2_sideOf 10 = .ok (.iconst (-1), 1) := by decide +kernel
theorem dX2_sideOf_11 : decode cX2_sideOf 11 = .ok (.if_icmp .ne 7, 3) := by decide +kernel
theorem dX2_sideOf_18 : decode cX2_sideOf 18 = .ok (.aload_n 0, 1) := by decide +kernel
theorem dX2_sideOf_19 : decode cX2_sideOf 19 = .ok (.getfield 42, 3) := by decide +kernel
theorem dX2_sideOf_22 : decode cX2_sideOf 22 = .ok (.aload_n 0, 1) := by decide +kernel
theorem dX2_sideOf_23 : decode cX2_sideOf 23 = .ok (.getfield 39, 3) := by decide +kernel
theorem dX2_sideOf_26 : decode cX2_sideOf 26 = .ok (.iload 5, 2) := by decide +kernel
theorem dX2_sideOf_28 : decode cX2_sideOf 28 = .ok (.aaload, 1) := by decide +kernel
theorem dX2_sideOf_29 : decode cX2_sideOf 29 = .ok (.iconst 1, 1) := by decide +kernel
theorem dX2_sideOf_30 : decode cX2_sideOf 30 = .ok (.iaload, 1) := by decide +kernel
theorem dX2_sideOf_31 : decode cX2_sideOf 31 = .ok (.iload_n 3, 1) := by decide +kernel
theorem dX2_sideOf_32 : decode cX2_sideOf 32 = .ok (.iadd, 1) := by decide +kernel
theorem dX2_sideOf_33 : decode cX2_sideOf 33 = .ok (.aaload, 1) := by decide +kernel
theorem dX2_sideOf_34 : decode cX2_sideOf 34 = .ok (.iload 4, 2) := by decide +kernel
theorem dX2_sideOf_36 : decode cX2_sideOf 36 = .ok (.iaload, 1) := by decide +kernel
theorem dX2_sideOf_37 : decode cX2_sideOf 37 = .ok (.ireturn, 1) := by decide +kernel
theorem dX2_sideOf_14 : decode cX2_sideOf 14 = .ok (.iconst (-1), 1) := by decide +kernel
theorem dX2_sideOf_15 : decode cX2_sideOf 15 = .ok (.goto 22, 3) := by decide +kernel
theorem dX2_countRings_0 : decode cX2_countRings 0 = .ok (.iconst 0, 1) := by decide +kernel
theorem dX2_countRings_1 : decode cX2_countRings 1 = .ok (.istore_n 2, 1) := by decide +kernel
theorem dX2_countRings_2 : decode cX2_countRings 2 = .ok (.iconst 0, 1) := by decide +kernel
theorem dX2_countRings_3 : decode cX2_countRings 3 = .ok (.istore_n 3, 1) := by decide +kernel
theorem dX2_countRings_4 : decode cX2_countRings 4 = .ok (.iload_n 3, 1) := by decide +kernel
theorem dX2_countRings_5 : decode cX2_countRings 5 = .ok (.aload_n 0, 1) := by decide +kernel
theorem dX2_countRings_6 : decode cX2_countRings 6 = .ok (.getfield 139, 3) := by decide +kernel
theorem dX2_countRings_9 : decode cX2_countRings 9 = .ok (.if_icmp .ge 29, 3) := by decide +kernel
theorem dX2_countRings_12 : decode cX2_countRings 12 = .ok (.iload_n 2, 1) := by decide +kernel
theorem dX2_countRings_13 : decode cX2_countRings 13 = .ok (.aload_n 0, 1) := by decide +kernel
theorem dX2_countRings_14 : decode cX2_countRings 14 = .ok (.getfield 39, 3) := by decide +kernel
theorem dX2_countRings_17 : decode cX2_countRings 17 = .ok (.iload_n 3, 1) := by decide +kernel
theorem dX2_countRings_18 : decode cX2_countRings 18 = .ok (.aaload, 1) := by decide +kernel
theorem dX2_countRings_19 : decode cX2_countRings 19 = .ok (.iconst 0, 1) := by decide +kernel
theorem dX2_countRings_20 : decode cX2_countRings 20 = .ok (.iaload, 1) := by decide +kernel
theorem dX2_countRings_21 : decode cX2_countRings 21 = .ok (.iload_n 1, 1) := by decide +kernel
theorem dX2_countRings_22 : decode cX2_countRings 22 = .ok (.if_icmp .ne 7, 3) := by decide +kernel
theorem dX2_countRings_29 : decode cX2_countRings 29 = .ok (.iconst 0, 1) := by decide +kernel
theorem dX2_countRings_30 : decode cX2_countRings 30 = .ok (.iadd, 1) := by decide +kernel
theorem dX2_countRings_31 : decode cX2_countRings 31 = .ok (.istore_n 2, 1) := by decide +kernel
theorem dX2_countRings_32 : decode cX2_countRings 32 = .ok (.iinc 3 1, 3) := by decide +kernel
theorem dX2_countRings_35 : decode cX2_countRings 35 = .ok (.goto (-31), 3) := by decide +kernel
theorem dX2_countRings_25 : decode cX2_countRings 25 = .ok (.iconst 1, 1) := by decide +kernel
theorem dX2_countRings_26 : decode cX2_countRings 26 = .ok (.goto 4, 3) := by decide +kernel
theorem dX2_countRings_38 : decode cX2_countRings 38 = .ok (.iload_n 2, 1) := by decide +kernel
theorem dX2_countRings_39 : decode cX2_countRings 39 = .ok (.ireturn, 1) := by decide +kernel
theorem dX2_measureOf_0 : decode cX2_measureOf 0 = .ok (.iload_n 2, 1) := by decide +kernel
theorem dX2_measureOf_1 : decode cX2_measureOf 1 = .ok (.lookupswitch 41 #[(0, 27), (1, 34)], 27) := by decide +kernel
theorem dX2_measureOf_42 : decode cX2_measureOf 42 = .ok (.aload_n 0, 1) := by decide +kernel
theorem dX2_measureOf_43 : decode cX2_measureOf 43 = .ok (.iload_n 1, 1) := by decide +kernel
theorem dX2_measureOf_44 : decode cX2_measureOf 44 = .ok (.invokevirtual 182, 3) := by decide +kernel
theorem dX2_measureOf_47 : decode cX2_measureOf 47 = .ok (.ireturn, 1) := by decide +kernel
theorem dX2_measureOf_28 : decode cX2_measureOf 28 = .ok (.aload_n 0, 1) := by decide +kernel
theorem dX2_measureOf_29 : decode cX2_measureOf 29 = .ok (.getfield 33, 3) := by decide +kernel
theorem dX2_measureOf_32 : decode cX2_measureOf 32 = .ok (.iload_n 1, 1) := by decide +kernel
theorem dX2_measureOf_33 : decode cX2_measureOf 33 = .ok (.iaload, 1) := by decide +kernel
theorem dX2_measureOf_34 : decode cX2_measureOf 34 = .ok (.ireturn, 1) := by decide +kernel
theorem dX2_measureOf_35 : decode cX2_measureOf 35 = .ok (.aload_n 0, 1) := by decide +kernel
theorem dX2_measureOf_36 : decode cX2_measureOf 36 = .ok (.getfield 36, 3) := by decide +kernel
theorem dX2_measureOf_39 : decode cX2_measureOf 39 = .ok (.iload_n 1, 1) := by decide +kernel
theorem dX2_measureOf_40 : decode cX2_measureOf 40 = .ok (.iaload, 1) := by decide +kernel
theorem dX2_measureOf_41 : decode cX2_measureOf 41 = .ok (.ireturn, 1) := by decide +kernel
theorem dX2_lengthBetween_0 : decode cX2_lengthBetween 0 = .ok (.iconst 0, 1) := by decide +kernel
theorem dX2_lengthBetween_1 : decode cX2_lengthBetween 1 = .ok (.istore_n 3, 1) := by decide +kernel
theorem dX2_lengthBetween_2 : decode cX2_lengthBetween 2 = .ok (.iconst 0, 1) := by decide +kernel
theorem dX2_lengthBetween_3 : decode cX2_lengthBetween 3 = .ok (.istore 4, 2) := by decide +kernel
theorem dX2_lengthBetween_5 : decode cX2_lengthBetween 5 = .ok (.iload 4, 2) := by decide +kernel
theorem dX2_lengthBetween_7 : decode cX2_lengthBetween 7 = .ok (.sipush 625, 3) := by decide +kernel
theorem dX2_lengthBetween_10 : decode cX2_lengthBetween 10 = .ok (.if_icmp .ge 118, 3) := by decide +kernel
theorem dX2_lengthBetween_13 : decode cX2_lengthBetween 13 = .ok (.iconst 0, 1) := by decide +kernel
theorem dX2_lengthBetween_14 : decode cX2_lengthBetween 14 = .ok (.istore 5, 2) := by decide +kernel
theorem dX2_lengthBetween_16 : decode cX2_lengthBetween 16 = .ok (.iload 5, 2) := by decide +kernel
theorem dX2_lengthBetween_18 : decode cX2_lengthBetween 18 = .ok (.iconst 2, 1) := by decide +kernel
theorem dX2_lengthBetween_19 : decode cX2_lengthBetween 19 = .ok (.if_icmp .ge 103, 3) := by decide +kernel
theorem dX2_lengthBetween_22 : decode cX2_lengthBetween 22 = .ok (.aload_n 0, 1) := by decide +kernel
theorem dX2_lengthBetween_23 : decode cX2_lengthBetween 23 = .ok (.iload 4, 2) := by decide +kernel
theorem dX2_lengthBetween_25 : decode cX2_lengthBetween 25 = .ok (.bipush 25, 2) := by decide +kernel
theorem dX2_lengthBetween_27 : decode cX2_lengthBetween 27 = .ok (.idiv, 1) := by decide +kernel
theorem dX2_lengthBetween_28 : decode cX2_lengthBetween 28 = .ok (.iload 4, 2) := by decide +kernel
theorem dX2_lengthBetween_30 : decode cX2_lengthBetween 30 = .ok (.bipush 25, 2) := by decide +kernel
theorem dX2_lengthBetween_32 : decode cX2_lengthBetween 32 = .ok (.irem, 1) := by decide +kernel
theorem dX2_lengthBetween_33 : decode cX2_lengthBetween 33 = .ok (.iload 5, 2) := by decide +kernel
theorem dX2_lengthBetween_35 : decode cX2_lengthBetween 35 = .ok (.invokevirtual 148, 3) := by decide +kernel
theorem dX2_lengthBetween_38 : decode cX2_lengthBetween 38 = .ok (.istore 6, 2) := by decide +kernel
theorem dX2_lengthBetween_40 : decode cX2_lengthBetween 40 = .ok (.aload_n 0, 1) := by decide +kernel
theorem dX2_lengthBetween_41 : decode cX2_lengthBetween 41 = .ok (.iload 4, 2) := by decide +kernel
theorem dX2_lengthBetween_43 : decode cX2_lengthBetween 43 = .ok (.bipush 25, 2) := by decide +kernel
theorem dX2_lengthBetween_45 : decode cX2_lengthBetween 45 = .ok (.idiv, 1) := by decide +kernel
theorem dX2_lengthBetween_46 : decode cX2_lengthBetween 46 = .ok (.iload 4, 2) := by decide +kernel
theorem dX2_lengthBetween_48 : decode cX2_lengthBetween 48 = .ok (.bipush 25, 2) := by decide +kernel
theorem dX2_lengthBetween_50 : decode cX2_lengthBetween 50 = .ok (.irem, 1) := by decide +kernel
theorem dX2_lengthBetween_51 : decode cX2_lengthBetween 51 = .ok (.iload 5, 2) := by decide +kernel
theorem dX2_lengthBetween_53 : decode cX2_lengthBetween 53 = .ok (.invokevirtual 167, 3) := by decide +kernel
theorem dX2_lengthBetween_56 : decode cX2_lengthBetween 56 = .ok (.istore 7, 2) := by decide +kernel
theorem dX2_lengthBetween_58 : decode cX2_lengthBetween 58 = .ok (.iload 6, 2) := by decide +kernel
theorem dX2_lengthBetween_60 : decode cX2_lengthBetween 60 = .ok (.iload_n 1, 1) := by decide +kernel
theorem dX2_lengthBetween_61 : decode cX2_lengthBetween 61 = .ok (.if_icmp .ne 9, 3) := by decide +kernel
theorem dX2_lengthBetween_70 : decode cX2_lengthBetween 70 = .ok (.iload 6, 2) := by decide +kernel
theorem dX2_lengthBetween_72 : decode cX2_lengthBetween 72 = .ok (.iload_n 2, 1) := by decide +kernel
theorem dX2_lengthBetween_73 : decode cX2_lengthBetween 73 = .ok (.if_icmp .ne 13, 3) := by decide +kernel
theorem dX2_lengthBetween_86 : decode cX2_lengthBetween 86 = .ok (.iconst 0, 1) := by decide +kernel
theorem dX2_lengthBetween_87 : decode cX2_lengthBetween 87 = .ok (.istore 8, 2) := by decide +kernel
theorem dX2_lengthBetween_89 : decode cX2_lengthBetween 89 = .ok (.iload_n 3, 1) := by decide +kernel
theorem dX2_lengthBetween_90 : decode cX2_lengthBetween 90 = .ok (.iload 8, 2) := by decide +kernel
theorem dX2_lengthBetween_92 : decode cX2_lengthBetween 92 = .ok (.ifCond .eq 21, 3) := by decide +kernel
theorem dX2_lengthBetween_113 : decode cX2_lengthBetween 113 = .ok (.iconst 0, 1) := by decide +kernel
theorem dX2_lengthBetween_114 : decode cX2_lengthBetween 114 = .ok (.iadd, 1) := by decide +kernel
theorem dX2_lengthBetween_115 : decode cX2_lengthBetween 115 = .ok (.istore_n 3, 1) := by decide +kernel
theorem dX2_lengthBetween_116 : decode cX2_lengthBetween 116 = .ok (.iinc 5 1, 3) := by decide +kernel
theorem dX2_lengthBetween_119 : decode cX2_lengthBetween 119 = .ok (.goto (-103), 3) := by decide +kernel
theorem dX2_lengthBetween_95 : decode cX2_lengthBetween 95 = .ok (.aload_n 0, 1) := by decide +kernel
theorem dX2_lengthBetween_96 : decode cX2_lengthBetween 96 = .ok (.getfield 13, 3) := by decide +kernel
theorem dX2_lengthBetween_99 : decode cX2_lengthBetween 99 = .ok (.iload 5, 2) := by decide +kernel
theorem dX2_lengthBetween_101 : decode cX2_lengthBetween 101 = .ok (.aaload, 1) := by decide +kernel
theorem dX2_lengthBetween_102 : decode cX2_lengthBetween 102 = .ok (.iload 4, 2) := by decide +kernel
theorem dX2_lengthBetween_104 : decode cX2_lengthBetween 104 = .ok (.iaload, 1) := by decide +kernel
theorem dX2_lengthBetween_105 : decode cX2_lengthBetween 105 = .ok (.iconst (-1), 1) := by decide +kernel
theorem dX2_lengthBetween_106 : decode cX2_lengthBetween 106 = .ok (.if_icmp .eq 7, 3) := by decide +kernel
theorem dX2_lengthBetween_109 : decode cX2_lengthBetween 109 = .ok (.iconst 1, 1) := by decide +kernel
theorem dX2_lengthBetween_110 : decode cX2_lengthBetween 110 = .ok (.goto 4, 3) := by decide +kernel
theorem dX2_lengthBetween_76 : decode cX2_lengthBetween 76 = .ok (.iload 7, 2) := by decide +kernel
theorem dX2_lengthBetween_78 : decode cX2_lengthBetween 78 = .ok (.iload_n 1, 1) := by decide +kernel
theorem dX2_lengthBetween_79 : decode cX2_lengthBetween 79 = .ok (.if_icmp .ne 7, 3) := by decide +kernel
theorem dX2_lengthBetween_82 : decode cX2_lengthBetween 82 = .ok (.iconst 1, 1) := by decide +kernel
theorem dX2_lengthBetween_83 : decode cX2_lengthBetween 83 = .ok (.goto 4, 3) := by decide +kernel
theorem dX2_lengthBetween_64 : decode cX2_lengthBetween 64 = .ok (.iload 7, 2) := by decide +kernel
theorem dX2_lengthBetween_66 : decode cX2_lengthBetween 66 = .ok (.iload_n 2, 1) := by decide +kernel
theorem dX2_lengthBetween_67 : decode cX2_lengthBetween 67 = .ok (.if_icmp .eq 15, 3) := by decide +kernel
theorem dX2_lengthBetween_122 : decode cX2_lengthBetween 122 = .ok (.iinc 4 1, 3) := by decide +kernel
theorem dX2_lengthBetween_125 : decode cX2_lengthBetween 125 = .ok (.goto (-120), 3) := by decide +kernel
theorem dX2_lengthBetween_128 : decode cX2_lengthBetween 128 = .ok (.iload_n 3, 1) := by decide +kernel
theorem dX2_lengthBetween_129 : decode cX2_lengthBetween 129 = .ok (.ireturn, 1) := by decide +kernel
theorem dX2_goThrough_0 : decode cX2_goThrough 0 = .ok (.iconst 0, 1) := by decide +kernel
theorem dX2_goThrough_1 : decode cX2_goThrough 1 = .ok (.istore 4, 2) := by decide +kernel
theorem dX2_goThrough_3 : decode cX2_goThrough 3 = .ok (.aload_n 0, 1) := by decide +kernel
theorem dX2_goThrough_4 : decode cX2_goThrough 4 = .ok (.getfield 54, 3) := by decide +kernel
theorem dX2_goThrough_7 : decode cX2_goThrough 7 = .ok (.iload_n 1, 1) := by decide +kernel
theorem dX2_goThrough_8 : decode cX2_goThrough 8 = .ok (.iload_n 2, 1) := by decide +kernel
theorem dX2_goThrough_9 : decode cX2_goThrough 9 = .ok (.invokevirtual 192, 3) := by decide +kernel
theorem dX2_goThrough_12 : decode cX2_goThrough 12 = .ok (.istore 5, 2) := by decide +kernel
theorem dX2_goThrough_14 : decode cX2_goThrough 14 = .ok (.aload_n 0, 1) := by decide +kernel
theorem dX2_goThrough_15 : decode cX2_goThrough 15 = .ok (.getfield 54, 3) := by decide +kernel
theorem dX2_goThrough_18 : decode cX2_goThrough 18 = .ok (.iload_n 1, 1) := by decide +kernel
theorem dX2_goThrough_19 : decode cX2_goThrough 19 = .ok (.iload_n 2, 1) := by decide +kernel
theorem dX2_goThrough_20 : decode cX2_goThrough 20 = .ok (.invokevirtual 195, 3) := by decide +kernel
theorem dX2_goThrough_23 : decode cX2_goThrough 23 = .ok (.istore 6, 2) := by decide +kernel
theorem dX2_goThrough_25 : decode cX2_goThrough 25 = .ok (.iload 6, 2) := by decide +kernel
theorem dX2_goThrough_27 : decode cX2_goThrough 27 = .ok (.iload 5, 2) := by decide +kernel
theorem dX2_goThrough_29 : decode cX2_goThrough 29 = .ok (.if_icmp .ge 104, 3) := by decide +kernel
theorem dX2_goThrough_32 : decode cX2_goThrough 32 = .ok (.aload_n 0, 1) := by decide +kernel
theorem dX2_goThrough_33 : decode cX2_goThrough 33 = .ok (.iload_n 1, 1) := by decide +kernel
theorem dX2_goThrough_34 : decode cX2_goThrough 34 = .ok (.iload 6, 2) := by decide +kernel
theorem dX2_goThrough_36 : decode cX2_goThrough 36 = .ok (.invokevirtual 198, 3) := by decide +kernel
theorem dX2_goThrough_39 : decode cX2_goThrough 39 = .ok (.iconst 1, 1) := by decide +kernel
theorem dX2_goThrough_40 : decode cX2_goThrough 40 = .ok (.iadd, 1) := by decide +kernel
theorem dX2_goThrough_41 : decode cX2_goThrough 41 = .ok (.istore 7, 2) := by decide +kernel
theorem dX2_goThrough_43 : decode cX2_goThrough 43 = .ok (.aload_n 0, 1) := by decide +kernel
theorem dX2_goThrough_44 : decode cX2_goThrough 44 = .ok (.iload_n 1, 1) := by decide +kernel
theorem dX2_goThrough_45 : decode cX2_goThrough 45 = .ok (.iload 6, 2) := by decide +kernel
theorem dX2_goThrough_47 : decode cX2_goThrough 47 = .ok (.invokevirtual 201, 3) := by decide +kernel
theorem dX2_goThrough_50 : decode cX2_goThrough 50 = .ok (.iconst 1, 1) := by decide +kernel
theorem dX2_goThrough_51 : decode cX2_goThrough 51 = .ok (.iadd, 1) := by decide +kernel
theorem dX2_goThrough_52 : decode cX2_goThrough 52 = .ok (.istore 8, 2) := by decide +kernel
theorem dX2_goThrough_54 : decode cX2_goThrough 54 = .ok (.aload_n 0, 1) := by decide +kernel
theorem dX2_goThrough_55 : decode cX2_goThrough 55 = .ok (.getfield 48, 3) := by decide +kernel
theorem dX2_goThrough_58 : decode cX2_goThrough 58 = .ok (.iload 7, 2) := by decide +kernel
theorem dX2_goThrough_60 : decode cX2_goThrough 60 = .ok (.iaload, 1) := by decide +kernel
theorem dX2_goThrough_61 : decode cX2_goThrough 61 = .ok (.iload_n 3, 1) := by decide +kernel
theorem dX2_goThrough_62 : decode cX2_goThrough 62 = .ok (.if_icmp .ne 30, 3) := by decide +kernel
theorem dX2_goThrough_92 : decode cX2_goThrough 92 = .ok (.aload_n 0, 1) := by decide +kernel
theorem dX2_goThrough_93 : decode cX2_goThrough 93 = .ok (.getfield 48, 3) := by decide +kernel
theorem dX2_goThrough_96 : decode cX2_goThrough 96 = .ok (.iload 8, 2) := by decide +kernel
theorem dX2_goThrough_98 : decode cX2_goThrough 98 = .ok (.iaload, 1) := by decide +kernel
theorem dX2_goThrough_99 : decode cX2_goThrough 99 = .ok (.iload_n 3, 1) := by decide +kernel
theorem dX2_goThrough_100 : decode cX2_goThrough 100 = .ok (.if_icmp .ne 27, 3) := by decide +kernel
theorem dX2_goThrough_127 : decode cX2_goThrough 127 = .ok (.iinc 6 1, 3) := by decide +kernel
theorem dX2_goThrough_130 : decode cX2_goThrough 130 = .ok (.goto (-105), 3) := by decide +kernel
theorem dX2_goThrough_103 : decode cX2_goThrough 103 = .ok (.aload_n 0, 1) := by decide +kernel
theorem dX2_goThrough_104 : decode cX2_goThrough 104 = .ok (.getfield 48, 3) := by decide +kernel
theorem dX2_goThrough_107 : decode cX2_goThrough 107 = .ok (.iload 7, 2) := by decide +kernel
theorem dX2_goThrough_109 : decode cX2_goThrough 109 = .ok (.iaload, 1) := by decide +kernel
theorem dX2_goThrough_110 : decode cX2_goThrough 110 = .ok (.iconst (-1), 1) := by decide +kernel
theorem dX2_goThrough_111 : decode cX2_goThrough 111 = .ok (.if_icmp .ne 16, 3) := by decide +kernel
theorem dX2_goThrough_114 : decode cX2_goThrough 114 = .ok (.aload_n 0, 1) := by decide +kernel
theorem dX2_goThrough_115 : decode cX2_goThrough 115 = .ok (.getfield 48, 3) := by decide +kernel
theorem dX2_goThrough_118 : decode cX2_goThrough 118 = .ok (.iload 7, 2) := by decide +kernel
theorem dX2_goThrough_120 : decode cX2_goThrough 120 = .ok (.iload_n 3, 1) := by decide +kernel
theorem dX2_goThrough_121 : decode cX2_goThrough 121 = .ok (.iconst 1, 1) := by decide +kernel
theorem dX2_goThrough_122 : decode cX2_goThrough 122 = .ok (.iadd, 1) := by decide +kernel
theorem dX2_goThrough_123 : decode cX2_goThrough 123 = .ok (.iastore, 1) := by decide +kernel
theorem dX2_goThrough_124 : decode cX2_goThrough 124 = .ok (.iconst 1, 1) := by decide +kernel
theorem dX2_goThrough_125 : decode cX2_goThrough 125 = .ok (.istore 4, 2) := by decide +kernel
theorem dX2_goThrough_65 : decode cX2_goThrough 65 = .ok (.aload_n 0, 1) := by decide +kernel
theorem dX2_goThrough_66 : decode cX2_goThrough 66 = .ok (.getfield 48, 3) := by decide +kernel
theorem dX2_goThrough_69 : decode cX2_goThrough 69 = .ok (.iload 8, 2) := by decide +kernel
theorem dX2_goThrough_71 : decode cX2_goThrough 71 = .ok (.iaload, 1) := by decide +kernel
theorem dX2_goThrough_72 : decode cX2_goThrough 72 = .ok (.iconst (-1), 1) := by decide +kernel
theorem dX2_goThrough_73 : decode cX2_goThrough 73 = .ok (.if_icmp .ne 19, 3) := by decide +kernel
theorem dX2_goThrough_76 : decode cX2_goThrough 76 = .ok (.aload_n 0, 1) := by decide +kernel
theorem dX2_goThrough_77 : decode cX2_goThrough 77 = .ok (.getfield 48, 3) := by decide +kernel
theorem dX2_goThrough_80 : decode cX2_goThrough 80 = .ok (.iload 8, 2) := by decide +kernel
theorem dX2_goThrough_82 : decode cX2_goThrough 82 = .ok (.iload_n 3, 1) := by decide +kernel
theorem dX2_goThrough_83 : decode cX2_goThrough 83 = .ok (.iconst 1, 1) := by decide +kernel
theorem dX2_goThrough_84 : decode cX2_goThrough 84 = .ok (.iadd, 1) := by decide +kernel
theorem dX2_goThrough_85 : decode cX2_goThrough 85 = .ok (.iastore, 1) := by decide +kernel
theorem dX2_goThrough_86 : decode cX2_goThrough 86 = .ok (.iconst 1, 1) := by decide +kernel
theorem dX2_goThrough_87 : decode cX2_goThrough 87 = .ok (.istore 4, 2) := by decide +kernel
theorem dX2_goThrough_89 : decode cX2_goThrough 89 = .ok (.goto 38, 3) := by decide +kernel
theorem dX2_goThrough_133 : decode cX2_goThrough 133 = .ok (.iload 4, 2) := by decide +kernel
theorem dX2_goThrough_135 : decode cX2_goThrough 135 = .ok (.ireturn, 1) := by decide +kernel
theorem zl_X2_110 : zm_L zk_E RX2 110 yX2_wallFrom (.code yX2_wallFrom cX2_wallFrom 4 (some .int)) 3 ∧ Cond.instanceMethod yX2_wallFrom ∈ zk_E.2.2.1 ∧ Cond.selects yX2_wallFrom.cls yX2_wallFrom yX2_wallFrom ∈ zk_E.2.2.1 := ⟨⟨zk_b5 56 (by decide +kernel) rfl, zk_b1 3 (by decide +kernel) rfl, zk_b5 53 (by decide +kernel) rfl, by decide +kernel, by decide +kernel, by decide +kernel⟩, zk_b5 55 (by decide +kernel) rfl, zk_s2 (q := (yX2_wallFrom, 19)) 3 (by decide +kernel)⟩
theorem zl_X2_130 : zm_L zk_E RX2 130 yX2_placeBeside (.code yX2_placeBeside cX2_placeBeside 4 (some .int)) 2 ∧ Cond.instanceMethod yX2_placeBeside ∈ zk_E.2.2.1 ∧ Cond.selects yX2_placeBeside.cls yX2_placeBeside yX2_placeBeside ∈ zk_E.2.2.1 := ⟨⟨zk_b5 75 (by decide +kernel) rfl, zk_b1 3 (by decide +kernel) rfl, zk_b5 72 (by decide +kernel) rfl, by decide +kernel, by decide +kernel, by decide +kernel⟩, zk_b5 74 (by decide +kernel) rfl, zk_s2 (q := (yX2_placeBeside, 19)) 6 (by decide +kernel)⟩
theorem zl_X2_48 : zm_F zk_E RX2 48 2 17 := ⟨RX2, TX2, 19, rfl, zk_i2, by decide, zk_b1 107 (by decide +kernel) rfl⟩
theorem zl_X2_127 : zm_L zk_E RX2 127 yX2_cellBeside (.code yX2_cellBeside cX2_cellBeside 5 (some .int)) 2 ∧ Cond.instanceMethod yX2_cellBeside ∈ zk_E.2.2.1 ∧ Cond.selects yX2_cellBeside.cls yX2_cellBeside yX2_cellBeside ∈ zk_E.2.2.1 := ⟨⟨zk_b5 83 (by decide +kernel) rfl, zk_b1 3 (by decide +kernel) rfl, zk_b5 80 (by decide +kernel) rfl, by decide +kernel, by decide +kernel, by decide +kernel⟩, zk_b5 81 (by decide +kernel) rfl, zk_b5 82 (by decide +kernel) rfl⟩
theorem zl_X2_124 : zm_L zk_E RX2 124 yX2_wallBeside (.code yX2_wallBeside cX2_wallBeside 4 (some .int)) 2 ∧ Cond.instanceMethod yX2_wallBeside ∈ zk_E.2.2.1 ∧ Cond.selects yX2_wallBeside.cls yX2_wallBeside yX2_wallBeside ∈ zk_E.2.2.1 := ⟨⟨zk_b5 71 (by decide +kernel) rfl, zk_b1 3 (by decide +kernel) rfl, zk_b5 68 (by decide +kernel) rfl, by decide +kernel, by decide +kernel, by decide +kernel⟩, zk_b5 69 (by decide +kernel) rfl, zk_b5 70 (by decide +kernel) rfl⟩
theorem zl_X2_122 : zm_L zk_E RX2 122 yX2_fill (.code yX2_fill cX2_fill 8 (some .int)) 2 ∧ Cond.instanceMethod yX2_fill ∈ zk_E.2.2.1 ∧ Cond.selects yX2_fill.cls yX2_fill yX2_fill ∈ zk_E.2.2.1 := ⟨⟨zk_b5 79 (by decide +kernel) rfl, zk_b1 3 (by decide +kernel) rfl, zk_b5 76 (by decide +kernel) rfl, by decide +kernel, by decide +kernel, by decide +kernel⟩, zk_b5 78 (by decide +kernel) rfl, zk_s2 (q := (yX2_fill, 19)) 7 (by decide +kernel)⟩
theorem zl_X2_114 : zm_L zk_E RX2 114 yX2_cellNumber (.code yX2_cellNumber cX2_cellNumber 2 (some .int)) 2 ∧ Cond.static yX2_cellNumber ∈ zk_E.2.2.1 := ⟨⟨zk_b5 63 (by decide +kernel) rfl, zk_b1 3 (by decide +kernel) rfl, zk_b5 61 (by decide +kernel) rfl, by decide +kernel, by decide +kernel, by decide +kernel⟩, zk_b5 62 (by decide +kernel) rfl⟩
theorem zl_X2_118 : zm_L zk_E RX2 118 yX2_fillFromEdge (.code yX2_fillFromEdge cX2_fillFromEdge 3 none) 2 ∧ Cond.instanceMethod yX2_fillFromEdge ∈ zk_E.2.2.1 ∧ Cond.selects yX2_fillFromEdge.cls yX2_fillFromEdge yX2_fillFromEdge ∈ zk_E.2.2.1 := ⟨⟨zk_b5 67 (by decide +kernel) rfl, zk_b1 3 (by decide +kernel) rfl, zk_b5 64 (by decide +kernel) rfl, by decide +kernel, by decide +kernel, by decide +kernel⟩, zk_b5 66 (by decide +kernel) rfl, zk_s2 (q := (yX2_fillFromEdge, 19)) 5 (by decide +kernel)⟩
theorem zl_X2_58 : zm_F zk_E RX2 58 2 3 := ⟨RX2, TX2, 19, rfl, zk_i2, by decide, zk_b1 89 (by decide +kernel) rfl⟩
theorem zt_2_3 : zm_T zk_E RX2 2 3 .int false := ⟨RX2, TX2, 19, tyX2, rfl, tyX2_ok, nmX2, rfl, rfl, rfl⟩
theorem zl_X2_33 : zm_F zk_E RX2 33 2 10 := ⟨RX2, TX2, 19, rfl, zk_i2, by decide, zk_b1 100 (by decide +kernel) rfl⟩
theorem zl_X2_158 : Cond.fieldLink RX2 158 "TowerHouse$Finding" "SIDE_X" "[I" ∈ zk_E.2.2.1 := zk_b5 104 (by decide +kernel) rfl
theorem zl_X2_161 : Cond.fieldLink RX2 161 "TowerHouse$Finding" "SIDE_Y" "[I" ∈ zk_E.2.2.1 := zk_b5 106 (by decide +kernel) rfl
theorem zl_X2_142 : zm_F zk_E RX2 142 2 14 := ⟨RX2, TX2, 19, rfl, zk_i2, by decide, zk_b1 104 (by decide +kernel) rfl⟩
theorem zl_X2_42 : zm_F zk_E RX2 42 2 15 := ⟨RX2, TX2, 19, rfl, zk_i2, by decide, zk_b1 105 (by decide +kernel) rfl⟩
theorem zl_X2_167 : zm_L zk_E RX2 167 yX2_rightOf (.code yX2_rightOf cX2_rightOf 4 (some .int)) 3 ∧ Cond.instanceMethod yX2_rightOf ∈ zk_E.2.2.1 ∧ Cond.selects yX2_rightOf.cls yX2_rightOf yX2_rightOf ∈ zk_E.2.2.1 := ⟨⟨zk_b5 115 (by decide +kernel) rfl, zk_b1 3 (by decide +kernel) rfl, zk_b5 112 (by decide +kernel) rfl, by decide +kernel, by decide +kernel, by decide +kernel⟩, zk_b5 114 (by decide +kernel) rfl, zk_s2 (q := (yX2_rightOf, 19)) 13 (by decide +kernel)⟩
theorem zt_2_14 : zm_T zk_E RX2 2 14 .int false := ⟨RX2, TX2, 19, tyX2, rfl, tyX2_ok, nmX2, rfl, rfl, rfl⟩
theorem zl_X2_170 : Cond.fieldLink RX2 170 "TowerHouse$Finding" "TURNS" "[I" ∈ zk_E.2.2.1 := zk_b5 120 (by decide +kernel) rfl
theorem zl_X2_148 : zm_L zk_E RX2 148 yX2_leftOf (.code yX2_leftOf cX2_leftOf 4 (some .int)) 3 ∧ Cond.instanceMethod yX2_leftOf ∈ zk_E.2.2.1 ∧ Cond.selects yX2_leftOf.cls yX2_leftOf yX2_leftOf ∈ zk_E.2.2.1 := ⟨⟨zk_b5 95 (by decide +kernel) rfl, zk_b1 3 (by decide +kernel) rfl, zk_b5 92 (by decide +kernel) rfl, by decide +kernel, by decide +kernel, by decide +kernel⟩, zk_b5 94 (by decide +kernel) rfl, zk_s2 (q := (yX2_leftOf, 19)) 10 (by decide +kernel)⟩
theorem zl_X2_45 : zm_F zk_E RX2 45 2 16 := ⟨RX2, TX2, 19, rfl, zk_i2, by decide, zk_b1 106 (by decide +kernel) rfl⟩
theorem zl_X2_151 : zm_L zk_E RX2 151 yX2_pieceLength (.code yX2_pieceLength cX2_pieceLength 6 (some .int)) 3 ∧ Cond.instanceMethod yX2_pieceLength ∈ zk_E.2.2.1 ∧ Cond.selects yX2_pieceLength.cls yX2_pieceLength yX2_pieceLength ∈ zk_E.2.2.1 := ⟨⟨zk_b5 103 (by decide +kernel) rfl, zk_b1 3 (by decide +kernel) rfl, zk_b5 100 (by decide +kernel) rfl, by decide +kernel, by decide +kernel, by decide +kernel⟩, zk_b5 102 (by decide +kernel) rfl, zk_s2 (q := (yX2_pieceLength, 19)) 11 (by decide +kernel)⟩
theorem zl_X2_154 : zm_L zk_E RX2 154 yX2_noteSide (.code yX2_noteSide cX2_noteSide 6 none) 4 ∧ Cond.instanceMethod yX2_noteSide ∈ zk_E.2.2.1 ∧ Cond.selects yX2_noteSide.cls yX2_noteSide yX2_noteSide ∈ zk_E.2.2.1 := ⟨⟨zk_b5 111 (by decide +kernel) rfl, zk_b1 3 (by decide +kernel) rfl, zk_b5 108 (by decide +kernel) rfl, by decide +kernel, by decide +kernel, by decide +kernel⟩, zk_b5 110 (by decide +kernel) rfl, zk_s2 (q := (yX2_noteSide, 19)) 12 (by decide +kernel)⟩
theorem zl_X2_164 : zm_L zk_E RX2 164 yX2_turnAt (.code yX2_turnAt cX2_turnAt 6 (some .int)) 3 ∧ Cond.instanceMethod yX2_turnAt ∈ zk_E.2.2.1 ∧ Cond.selects yX2_turnAt.cls yX2_turnAt yX2_turnAt ∈ zk_E.2.2.1 := ⟨⟨zk_b5 119 (by decide +kernel) rfl, zk_b1 3 (by decide +kernel) rfl, zk_b5 116 (by decide +kernel) rfl, by decide +kernel, by decide +kernel, by decide +kernel⟩, zk_b5 118 (by decide +kernel) rfl, zk_s2 (q := (yX2_turnAt, 19)) 14 (by decide +kernel)⟩
theorem zl_X2_39 : zm_F zk_E RX2 39 2 13 := ⟨RX2, TX2, 19, rfl, zk_i2, by decide, zk_b1 103 (by decide +kernel) rfl⟩
theorem zl_X2_139 : zm_F zk_E RX2 139 2 12 := ⟨RX2, TX2, 19, rfl, zk_i2, by decide, zk_b1 102 (by decide +kernel) rfl⟩
theorem zt_2_12 : zm_T zk_E RX2 2 12 .int false := ⟨RX2, TX2, 19, tyX2, rfl, tyX2_ok, nmX2, rfl, rfl, rfl⟩
theorem zl_X2_36 : zm_F zk_E RX2 36 2 11 := ⟨RX2, TX2, 19, rfl, zk_i2, by decide, zk_b1 101 (by decide +kernel) rfl⟩
theorem zl_X2_145 : zm_L zk_E RX2 145 yX2_traceRing (.code yX2_traceRing cX2_traceRing 11 none) 2 ∧ Cond.instanceMethod yX2_traceRing ∈ zk_E.2.2.1 ∧ Cond.selects yX2_traceRing.cls yX2_traceRing yX2_traceRing ∈ zk_E.2.2.1 := ⟨⟨zk_b5 91 (by decide +kernel) rfl, zk_b1 3 (by decide +kernel) rfl, zk_b5 88 (by decide +kernel) rfl, by decide +kernel, by decide +kernel, by decide +kernel⟩, zk_b5 90 (by decide +kernel) rfl, zk_s2 (q := (yX2_traceRing, 19)) 9 (by decide +kernel)⟩
theorem zl_X2_133 : zm_L zk_E RX2 133 yX8_distanceTo (.code yX8_distanceTo cX8_distanceTo 4 (some .int)) 3 ∧ Cond.instanceMethod yX8_distanceTo ∈ zk_E.2.2.1 ∧ Cond.selects yX8_distanceTo.cls yX8_distanceTo yX8_distanceTo ∈ zk_E.2.2.1 := ⟨⟨zk_b7 223 (by decide +kernel) rfl, zk_b1 2 (by decide +kernel) rfl, zk_b7 220 (by decide +kernel) rfl, by decide +kernel, by decide +kernel, by decide +kernel⟩, zk_b7 221 (by decide +kernel) rfl, zk_b7 222 (by decide +kernel) rfl⟩
theorem zl_X2_179 : zm_L zk_E RX2 179 yX2_findRing (.code yX2_findRing cX2_findRing 5 (some .int)) 2 ∧ Cond.instanceMethod yX2_findRing ∈ zk_E.2.2.1 ∧ Cond.selects yX2_findRing.cls yX2_findRing yX2_findRing ∈ zk_E.2.2.1 := ⟨⟨zk_b6 169 (by decide +kernel) rfl, zk_b1 3 (by decide +kernel) rfl, zk_b6 166 (by decide +kernel) rfl, by decide +kernel, by decide +kernel, by decide +kernel⟩, zk_b6 168 (by decide +kernel) rfl, zk_s3 (q := (yX2_findRing, 19)) 2 (by decide +kernel)⟩
theorem zl_X2_182 : zm_L zk_E RX2 182 yX2_countRings (.code yX2_countRings cX2_countRings 4 (some .int)) 1 ∧ Cond.instanceMethod yX2_countRings ∈ zk_E.2.2.1 ∧ Cond.selects yX2_countRings.cls yX2_countRings yX2_countRings ∈ zk_E.2.2.1 := ⟨⟨zk_b6 195 (by decide +kernel) rfl, zk_b1 3 (by decide +kernel) rfl, zk_b6 192 (by decide +kernel) rfl, by decide +kernel, by decide +kernel, by decide +kernel⟩, zk_b6 194 (by decide +kernel) rfl, zk_s3 (q := (yX2_countRings, 19)) 3 (by decide +kernel)⟩
theorem zl_X2_192 : zm_L zk_E RX2 192 yX8_toOf (.code yX8_toOf cX8_toOf 3 (some .int)) 2 ∧ Cond.instanceMethod yX8_toOf ∈ zk_E.2.2.1 ∧ Cond.selects yX8_toOf.cls yX8_toOf yX8_toOf ∈ zk_E.2.2.1 := ⟨⟨zk_b7 0 (by decide +kernel) rfl, zk_b1 2 (by decide +kernel) rfl, zk_b6 237 (by decide +kernel) rfl, by decide +kernel, by decide +kernel, by decide +kernel⟩, zk_b6 238 (by decide +kernel) rfl, zk_b6 239 (by decide +kernel) rfl⟩
theorem zl_X2_195 : zm_L zk_E RX2 195 yX8_fromOf (.code yX8_fromOf cX8_fromOf 3 (some .int)) 2 ∧ Cond.instanceMethod yX8_fromOf ∈ zk_E.2.2.1 ∧ Cond.selects yX8_fromOf.cls yX8_fromOf yX8_fromOf ∈ zk_E.2.2.1 := ⟨⟨zk_b7 4 (by decide +kernel) rfl, zk_b1 2 (by decide +kernel) rfl, zk_b7 1 (by decide +kernel) rfl, by decide +kernel, by decide +kernel, by decide +kernel⟩, zk_b7 2 (by decide +kernel) rfl, zk_b7 3 (by decide +kernel) rfl⟩
theorem zl_X2_198 : zm_L zk_E RX2 198 yX2_roomLeft (.code yX2_roomLeft cX2_roomLeft 5 (some .int)) 2 ∧ Cond.instanceMethod yX2_roomLeft ∈ zk_E.2.2.1 ∧ Cond.selects yX2_roomLeft.cls yX2_roomLeft yX2_roomLeft ∈ zk_E.2.2.1 := ⟨⟨zk_b7 8 (by decide +kernel) rfl, zk_b1 3 (by decide +kernel) rfl, zk_b7 5 (by decide +kernel) rfl, by decide +kernel, by decide +kernel, by decide +kernel⟩, zk_b7 6 (by decide +kernel) rfl, zk_b7 7 (by decide +kernel) rfl⟩
theorem zl_X2_201 : zm_L zk_E RX2 201 yX2_roomRight (.code yX2_roomRight cX2_roomRight 5 (some .int)) 2 ∧ Cond.instanceMethod yX2_roomRight ∈ zk_E.2.2.1 ∧ Cond.selects yX2_roomRight.cls yX2_roomRight yX2_roomRight ∈ zk_E.2.2.1 := ⟨⟨zk_b7 20 (by decide +kernel) rfl, zk_b1 3 (by decide +kernel) rfl, zk_b7 17 (by decide +kernel) rfl, by decide +kernel, by decide +kernel, by decide +kernel⟩, zk_b7 18 (by decide +kernel) rfl, zk_b7 19 (by decide +kernel) rfl⟩
def zf_X2_wallFrom (N : Nat) (a0 : Nat) (i1 : Int32) (i2 : Int32) (i3 : Int32) (S : zm_S) : Option (Int32 × zm_S) := if (i3).toInt = 0 then if (24 : Int32) ≤ i1 then some ((-1 : Int32), S) else (zg_r S a0 2 4).bind (fun b4 => (za_r S b4 (0 : Int32)).bind (fun b5 => (za_x S 0 b5 ((i1 * (25 : Int32)) + i2)).bind (fun v6 => some (v6, S)))) else if (i3).toInt = 1 then if (24 : Int32) ≤ i2 then some ((-1 : Int32), S) else (zg_r S a0 2 4).bind (fun b7 => (za_r S b7 (1 : Int32)).bind (fun b8 => (za_x S 0 b8 ((i1 * (25 : Int32)) + i2)).bind (fun v9 => some (v9, S)))) else if (i3).toInt = 2 then if i1 ≤ 0 then some ((-1 : Int32), S) else (zg_r S a0 2 4).bind (fun b10 => (za_r S b10 (0 : Int32)).bind (fun b11 => (za_x S 0 b11 (((i1 - (1 : Int32)) * (25 : Int32)) + i2)).bind (fun v12 => some (v12, S)))) else if i2 ≤ 0 then some ((-1 : Int32), S) else (zg_r S a0 2 4).bind (fun b1 => (za_r S b1 (1 : Int32)).bind (fun b2 => (za_x S 0 b2 (((i1 * (25 : Int32)) + i2) - (1 : Int32))).bind (fun v3 => some (v3, S))))
set_option maxHeartbeats 4000000 in
set_option maxRecDepth 100000 in
theorem zt_X2_wallFrom {l : Launch} {V : zm_V} {N : Nat} {S : zm_S} {out : (Int32 × zm_S)} {d : Nat} {a0 : Nat} {i1 : Int32} {i2 : Int32} {i3 : Int32} (hd : 1 ≤ d) (h : zf_X2_wallFrom N a0 i1 i2 i3 S = some out) : zm_Met l zk_E V yX2_wallFrom (.code yX2_wallFrom cX2_wallFrom 4 (some .int)) d [.ref a0, .int i1, .int i2, .int i3] S 0 0 (zo_i out) zo_x := by
  refine zm_of (by decide +kernel) (Nat.le_of_ble_eq_true rfl) ?_
  intro p e R s m args below meth c hRR hX hr hxt
  have hR : R.frames = d ∧ R.locals = 64 * d := by rw [hRR]; exact ⟨rfl, rfl⟩
  have hX : zm_X p R s m args meth c RX2 "wallFrom" cX2_wallFrom 4 zk_E V 0 0 := hX
  unfold zf_X2_wallFrom at h
  refine zw_sub (lv' := [(0, .ref a0), (1, .int i1), (2, .int i2), (3, .int i3)]) (List.forall_mem_cons.mpr ⟨rfl, (List.forall_mem_cons.mpr ⟨rfl, (List.forall_mem_cons.mpr ⟨rfl, (List.forall_mem_cons.mpr ⟨rfl, zs_nil⟩)⟩)⟩)⟩) ?_
  refine zw_iload_n hX dX2_wallFrom_0 rfl ?_
  by_cases c1_0 : (i3).toInt = 0
  · rw [if_pos c1_0] at h
    refine zw_tableIn (off := 27) (tgt := 28) hX dX2_wallFrom_1 (by rw [c1_0]; decide) (by rw [c1_0]; decide) (by rw [c1_0]; decide) (by decide) ?_
    refine zw_iload_n hX dX2_wallFrom_28 rfl ?_
    refine zw_bipush (v := (24 : Int32)) hX dX2_wallFrom_29 (by decide) ?_
    refine zw_icmp_ge (tgt := 50) hX dX2_wallFrom_31 (by decide) (fun c31 => ?_) (fun c31 => ?_)
    · rw [if_pos c31] at h
      refine zw_iconst (v := (-1 : Int32)) hX dX2_wallFrom_50 (by decide) ?_
      obtain rfl := Option.some.inj h
      exact zw_iret hX hr dX2_wallFrom_51 rfl ⟨rfl, rfl⟩
    · rw [if_neg c31] at h
      refine zw_aload_n hX dX2_wallFrom_34 rfl ?_
      obtain ⟨b4, g, h⟩ := zb_some h
      refine zw_getr hX zl_X2_13 dX2_wallFrom_35 g ?_
      refine zw_iconst (v := (0 : Int32)) hX dX2_wallFrom_38 (by decide) ?_
      obtain ⟨b5, g, h⟩ := zb_some h
      refine zw_xr hX dX2_wallFrom_39 g ?_
      refine zw_iload_n hX dX2_wallFrom_40 rfl ?_
      refine zw_bipush (v := (25 : Int32)) hX dX2_wallFrom_41 (by decide) ?_
      refine zw_imul hX dX2_wallFrom_43 ?_
      refine zw_iload_n hX dX2_wallFrom_44 rfl ?_
      refine zw_iadd hX dX2_wallFrom_45 ?_
      obtain ⟨v6, g, h⟩ := zb_some h
      refine zw_xi hX dX2_wallFrom_46 g ?_
      refine zw_goto (tgt := 51) hX dX2_wallFrom_47 (by decide) ?_
      obtain rfl := Option.some.inj h
      exact zw_iret hX hr dX2_wallFrom_51 rfl ⟨rfl, rfl⟩
  rw [if_neg c1_0] at h
  by_cases c1_1 : (i3).toInt = 1
  · rw [if_pos c1_1] at h
    refine zw_tableIn (off := 51) (tgt := 52) hX dX2_wallFrom_1 (by rw [c1_1]; decide) (by rw [c1_1]; decide) (by rw [c1_1]; decide) (by decide) ?_
    refine zw_iload_n hX dX2_wallFrom_52 rfl ?_
    refine zw_bipush (v := (24 : Int32)) hX dX2_wallFrom_53 (by decide) ?_
    refine zw_icmp_ge (tgt := 74) hX dX2_wallFrom_55 (by decide) (fun c55 => ?_) (fun c55 => ?_)
    · rw [if_pos c55] at h
      refine zw_iconst (v := (-1 : Int32)) hX dX2_wallFrom_74 (by decide) ?_
      obtain rfl := Option.some.inj h
      exact zw_iret hX hr dX2_wallFrom_75 rfl ⟨rfl, rfl⟩
    · rw [if_neg c55] at h
      refine zw_aload_n hX dX2_wallFrom_58 rfl ?_
      obtain ⟨b7, g, h⟩ := zb_some h
      refine zw_getr hX zl_X2_13 dX2_wallFrom_59 g ?_
      refine zw_iconst (v := (1 : Int32)) hX dX2_wallFrom_62 (by decide) ?_
      obtain ⟨b8, g, h⟩ := zb_some h
      refine zw_xr hX dX2_wallFrom_63 g ?_
      refine zw_iload_n hX dX2_wallFrom_64 rfl ?_
      refine zw_bipush (v := (25 : Int32)) hX dX2_wallFrom_65 (by decide) ?_
      refine zw_imul hX dX2_wallFrom_67 ?_
      refine zw_iload_n hX dX2_wallFrom_68 rfl ?_
      refine zw_iadd hX dX2_wallFrom_69 ?_
      obtain ⟨v9, g, h⟩ := zb_some h
      refine zw_xi hX dX2_wallFrom_70 g ?_
      refine zw_goto (tgt := 75) hX dX2_wallFrom_71 (by decide) ?_
      obtain rfl := Option.some.inj h
      exact zw_iret hX hr dX2_wallFrom_75 rfl ⟨rfl, rfl⟩
  rw [if_neg c1_1] at h
  by_cases c1_2 : (i3).toInt = 2
  · rw [if_pos c1_2] at h
    refine zw_tableIn (off := 75) (tgt := 76) hX dX2_wallFrom_1 (by rw [c1_2]; decide) (by rw [c1_2]; decide) (by rw [c1_2]; decide) (by decide) ?_
    refine zw_iload_n hX dX2_wallFrom_76 rfl ?_
    refine zw_if_le (tgt := 98) hX dX2_wallFrom_77 (by decide) (fun c77 => ?_) (fun c77 => ?_)
    · rw [if_pos c77] at h
      refine zw_iconst (v := (-1 : Int32)) hX dX2_wallFrom_98 (by decide) ?_
      obtain rfl := Option.some.inj h
      exact zw_iret hX hr dX2_wallFrom_99 rfl ⟨rfl, rfl⟩
    · rw [if_neg c77] at h
      refine zw_aload_n hX dX2_wallFrom_80 rfl ?_
      obtain ⟨b10, g, h⟩ := zb_some h
      refine zw_getr hX zl_X2_13 dX2_wallFrom_81 g ?_
      refine zw_iconst (v := (0 : Int32)) hX dX2_wallFrom_84 (by decide) ?_
      obtain ⟨b11, g, h⟩ := zb_some h
      refine zw_xr hX dX2_wallFrom_85 g ?_
      refine zw_iload_n hX dX2_wallFrom_86 rfl ?_
      refine zw_iconst (v := (1 : Int32)) hX dX2_wallFrom_87 (by decide) ?_
      refine zw_isub hX dX2_wallFrom_88 ?_
      refine zw_bipush (v := (25 : Int32)) hX dX2_wallFrom_89 (by decide) ?_
      refine zw_imul hX dX2_wallFrom_91 ?_
      refine zw_iload_n hX dX2_wallFrom_92 rfl ?_
      refine zw_iadd hX dX2_wallFrom_93 ?_
      obtain ⟨v12, g, h⟩ := zb_some h
      refine zw_xi hX dX2_wallFrom_94 g ?_
      refine zw_goto (tgt := 99) hX dX2_wallFrom_95 (by decide) ?_
      obtain rfl := Option.some.inj h
      exact zw_iret hX hr dX2_wallFrom_99 rfl ⟨rfl, rfl⟩
  rw [if_neg c1_2] at h
  refine zw_tableOut (tgt := 100) hX dX2_wallFrom_1 (by omega) (by decide) ?_
  refine zw_iload_n hX dX2_wallFrom_100 rfl ?_
  refine zw_if_le (tgt := 122) hX dX2_wallFrom_101 (by decide) (fun c101 => ?_) (fun c101 => ?_)
  · rw [if_pos c101] at h
    refine zw_iconst (v := (-1 : Int32)) hX dX2_wallFrom_122 (by decide) ?_
    obtain rfl := Option.some.inj h
    exact zw_iret hX hr dX2_wallFrom_123 rfl ⟨rfl, rfl⟩
  · rw [if_neg c101] at h
    refine zw_aload_n hX dX2_wallFrom_104 rfl ?_
    obtain ⟨b1, g, h⟩ := zb_some h
    refine zw_getr hX zl_X2_13 dX2_wallFrom_105 g ?_
    refine zw_iconst (v := (1 : Int32)) hX dX2_wallFrom_108 (by decide) ?_
    obtain ⟨b2, g, h⟩ := zb_some h
    refine zw_xr hX dX2_wallFrom_109 g ?_
    refine zw_iload_n hX dX2_wallFrom_110 rfl ?_
    refine zw_bipush (v := (25 : Int32)) hX dX2_wallFrom_111 (by decide) ?_
    refine zw_imul hX dX2_wallFrom_113 ?_
    refine zw_iload_n hX dX2_wallFrom_114 rfl ?_
    refine zw_iadd hX dX2_wallFrom_115 ?_
    refine zw_iconst (v := (1 : Int32)) hX dX2_wallFrom_116 (by decide) ?_
    refine zw_isub hX dX2_wallFrom_117 ?_
    obtain ⟨v3, g, h⟩ := zb_some h
    refine zw_xi hX dX2_wallFrom_118 g ?_
    refine zw_goto (tgt := 123) hX dX2_wallFrom_119 (by decide) ?_
    obtain rfl := Option.some.inj h
    exact zw_iret hX hr dX2_wallFrom_123 rfl ⟨rfl, rfl⟩
def zf_X2_markPoints_J96 (N : Nat) (k : Nat → Int32 → Int32 → zm_S → Option ((Unit × zm_S) ⊕ ((Unit) × zm_S))) (a0 : Nat) (i1 : Int32) (i2 : Int32) (t0 : Nat) (t1 : Int32) (S : zm_S) : Option ((Unit × zm_S) ⊕ ((Unit) × zm_S)) := (zs_z S t0 t1 (0 : Int32)).bind (fun S8 => k a0 i1 (i2 + (1 : Int32)) S8)
set_option maxHeartbeats 4000000 in
set_option maxRecDepth 100000 in
theorem zt_X2_markPoints_J96 {p : Program} {l : Launch} {e : Env} {R : Room} {s : State} {m : MethodId} {args : Array Value} {below : List Frame} {meth : Method} {c : Code} {V : zm_V} {mc ms d rc rs : Nat} (hX : zm_X p R s m args meth c RX2 "markPoints" cX2_markPoints 5 zk_E V mc ms) (hr : meth.sig.returnType = none) (hR : R.frames = d ∧ R.locals = 64 * d) (hd : 2 ≤ d) {N : Nat} {k : Nat → Int32 → Int32 → zm_S → Option ((Unit × zm_S) ⊕ ((Unit) × zm_S))} {a0 : Nat} {i1 : Int32} {i2 : Int32} {t0 : Nat} {t1 : Int32} {res : (Unit × zm_S) ⊕ ((Unit) × zm_S)} {out : (Unit × zm_S)}   (hf : ∀ o, res = .inl o → o = out) (hk : ∀ (S' : zm_S), res = .inr ((), S') → zw p l e R s m args below meth c (vx_MQ below (zm_Qc zk_E V (zo_v out)) (zm_XC zk_E V zo_x) args s mc ms (fun q => V.2.2.2.1 ≤ q)) 5 zk_E V mc ms 104 [(0, .ref a0), (1, .int i1)] [] S' rc rs) (hrec : ∀ (i2' : Int32) (S : zm_S), k a0 i1 i2' S = some res → zw p l e R s m args below meth c (vx_MQ below (zm_Qc zk_E V (zo_v out)) (zm_XC zk_E V zo_x) args s mc ms (fun q => V.2.2.2.1 ≤ q)) 5 zk_E V mc ms 10 [(0, .ref a0), (1, .int i1), (2, .int i2')] [] S rc rs) {S : zm_S} (h : zf_X2_markPoints_J96 N k a0 i1 i2 t0 t1 S = some res) : zw p l e R s m args below meth c (vx_MQ below (zm_Qc zk_E V (zo_v out)) (zm_XC zk_E V zo_x) args s mc ms (fun q => V.2.2.2.1 ≤ q)) 5 zk_E V mc ms 96 [(0, .ref a0), (1, .int i1), (2, .int i2)] [.int t1, .ref t0] S rc rs := by
  unfold zf_X2_markPoints_J96 at h
  refine zw_iconst (v := (0 : Int32)) hX dX2_markPoints_96 (by decide) ?_
  obtain ⟨S8, g, h⟩ := zb_some h
  refine zw_sz hX dX2_markPoints_97 g ?_
  refine zw_iinc (v := (i2 + (1 : Int32))) hX dX2_markPoints_98 rfl rfl (by decide) ?_
  refine zw_goto (tgt := 10) hX dX2_markPoints_101 (by decide) ?_
  refine zw_sub (lv' := [(0, .ref a0), (1, .int i1), (2, .int (i2 + (1 : Int32)))]) (List.forall_mem_cons.mpr ⟨rfl, (List.forall_mem_cons.mpr ⟨rfl, (List.forall_mem_cons.mpr ⟨rfl, zs_nil⟩)⟩)⟩) ?_
  exact hrec _ _ h
def zf_X2_markPoints_J71 (N : Nat) (k : Nat → Int32 → Int32 → zm_S → Option ((Unit × zm_S) ⊕ ((Unit) × zm_S))) (a0 : Nat) (i1 : Int32) (i2 : Int32) (i3 : Int32) (t0 : Int32) (S : zm_S) : Option ((Unit × zm_S) ⊕ ((Unit) × zm_S)) := (zg_r S a0 2 5).bind (fun b7 => if i3 = 0 then zf_X2_markPoints_J96 N (k) a0 i1 i2 b7 ((i1 * (25 : Int32)) + i2) S else if t0 = 0 then zf_X2_markPoints_J96 N (k) a0 i1 i2 b7 ((i1 * (25 : Int32)) + i2) S else (zs_z S b7 ((i1 * (25 : Int32)) + i2) (1 : Int32)).bind (fun S9 => k a0 i1 (i2 + (1 : Int32)) S9))
set_option maxHeartbeats 4000000 in
set_option maxRecDepth 100000 in
theorem zt_X2_markPoints_J71 {p : Program} {l : Launch} {e : Env} {R : Room} {s : State} {m : MethodId} {args : Array Value} {below : List Frame} {meth : Method} {c : Code} {V : zm_V} {mc ms d rc rs : Nat} (hX : zm_X p R s m args meth c RX2 "markPoints" cX2_markPoints 5 zk_E V mc ms) (hr : meth.sig.returnType = none) (hR : R.frames = d ∧ R.locals = 64 * d) (hd : 2 ≤ d) {N : Nat} {k : Nat → Int32 → Int32 → zm_S → Option ((Unit × zm_S) ⊕ ((Unit) × zm_S))} {a0 : Nat} {i1 : Int32} {i2 : Int32} {i3 : Int32} {t0 : Int32} {res : (Unit × zm_S) ⊕ ((Unit) × zm_S)} {out : (Unit × zm_S)}   (hf : ∀ o, res = .inl o → o = out) (hk : ∀ (S' : zm_S), res = .inr ((), S') → zw p l e R s m args below meth c (vx_MQ below (zm_Qc zk_E V (zo_v out)) (zm_XC zk_E V zo_x) args s mc ms (fun q => V.2.2.2.1 ≤ q)) 5 zk_E V mc ms 104 [(0, .ref a0), (1, .int i1)] [] S' rc rs) (hrec : ∀ (i2' : Int32) (S : zm_S), k a0 i1 i2' S = some res → zw p l e R s m args below meth c (vx_MQ below (zm_Qc zk_E V (zo_v out)) (zm_XC zk_E V zo_x) args s mc ms (fun q => V.2.2.2.1 ≤ q)) 5 zk_E V mc ms 10 [(0, .ref a0), (1, .int i1), (2, .int i2')] [] S rc rs) {S : zm_S} (h : zf_X2_markPoints_J71 N k a0 i1 i2 i3 t0 S = some res) : zw p l e R s m args below meth c (vx_MQ below (zm_Qc zk_E V (zo_v out)) (zm_XC zk_E V zo_x) args s mc ms (fun q => V.2.2.2.1 ≤ q)) 5 zk_E V mc ms 71 [(0, .ref a0), (1, .int i1), (2, .int i2), (3, .int i3)] [.int t0] S rc rs := by
  unfold zf_X2_markPoints_J71 at h
  refine zw_istore hX dX2_markPoints_71 (by decide) ?_
  refine zw_aload_n hX dX2_markPoints_73 rfl ?_
  obtain ⟨b7, g, h⟩ := zb_some h
  refine zw_getr hX zl_X2_16 dX2_markPoints_74 g ?_
  refine zw_iload_n hX dX2_markPoints_77 rfl ?_
  refine zw_bipush (v := (25 : Int32)) hX dX2_markPoints_78 (by decide) ?_
  refine zw_imul hX dX2_markPoints_80 ?_
  refine zw_iload_n hX dX2_markPoints_81 rfl ?_
  refine zw_iadd hX dX2_markPoints_82 ?_
  refine zw_iload_n hX dX2_markPoints_83 rfl ?_
  refine zw_if_eq (tgt := 96) hX dX2_markPoints_84 (by decide) (fun c84 => ?_) (fun c84 => ?_)
  · rw [if_pos c84] at h
    refine zw_sub (lv' := [(0, .ref a0), (1, .int i1), (2, .int i2)]) (List.forall_mem_cons.mpr ⟨rfl, (List.forall_mem_cons.mpr ⟨rfl, (List.forall_mem_cons.mpr ⟨rfl, zs_nil⟩)⟩)⟩) ?_
    exact zt_X2_markPoints_J96 hX hr hR hd hf hk hrec h
  · rw [if_neg c84] at h
    refine zw_iload hX dX2_markPoints_87 rfl ?_
    refine zw_if_eq (tgt := 96) hX dX2_markPoints_89 (by decide) (fun c89 => ?_) (fun c89 => ?_)
    · rw [if_pos c89] at h
      refine zw_sub (lv' := [(0, .ref a0), (1, .int i1), (2, .int i2)]) (List.forall_mem_cons.mpr ⟨rfl, (List.forall_mem_cons.mpr ⟨rfl, (List.forall_mem_cons.mpr ⟨rfl, zs_nil⟩)⟩)⟩) ?_
      exact zt_X2_markPoints_J96 hX hr hR hd hf hk hrec h
    · rw [if_neg c89] at h
      refine zw_iconst (v := (1 : Int32)) hX dX2_markPoints_92 (by decide) ?_
      refine zw_goto (tgt := 97) hX dX2_markPoints_93 (by decide) ?_
      obtain ⟨S9, g, h⟩ := zb_some h
      refine zw_sz hX dX2_markPoints_97 g ?_
      refine zw_iinc (v := (i2 + (1 : Int32))) hX dX2_markPoints_98 rfl rfl (by decide) ?_
      refine zw_goto (tgt := 10) hX dX2_markPoints_101 (by decide) ?_
      refine zw_sub (lv' := [(0, .ref a0), (1, .int i1), (2, .int (i2 + (1 : Int32)))]) (List.forall_mem_cons.mpr ⟨rfl, (List.forall_mem_cons.mpr ⟨rfl, (List.forall_mem_cons.mpr ⟨rfl, zs_nil⟩)⟩)⟩) ?_
      exact hrec _ _ h
def zf_X2_markPoints_J66 (N : Nat) (k : Nat → Int32 → Int32 → zm_S → Option ((Unit × zm_S) ⊕ ((Unit) × zm_S))) (a0 : Nat) (i1 : Int32) (i2 : Int32) (i3 : Int32) (S : zm_S) : Option ((Unit × zm_S) ⊕ ((Unit) × zm_S)) := zf_X2_markPoints_J71 N (k) a0 i1 i2 i3 (1 : Int32) S
set_option maxHeartbeats 4000000 in
set_option maxRecDepth 100000 in
theorem zt_X2_markPoints_J66 {p : Program} {l : Launch} {e : Env} {R : Room} {s : State} {m : MethodId} {args : Array Value} {below : List Frame} {meth : Method} {c : Code} {V : zm_V} {mc ms d rc rs : Nat} (hX : zm_X p R s m args meth c RX2 "markPoints" cX2_markPoints 5 zk_E V mc ms) (hr : meth.sig.returnType = none) (hR : R.frames = d ∧ R.locals = 64 * d) (hd : 2 ≤ d) {N : Nat} {k : Nat → Int32 → Int32 → zm_S → Option ((Unit × zm_S) ⊕ ((Unit) × zm_S))} {a0 : Nat} {i1 : Int32} {i2 : Int32} {i3 : Int32} {res : (Unit × zm_S) ⊕ ((Unit) × zm_S)} {out : (Unit × zm_S)}   (hf : ∀ o, res = .inl o → o = out) (hk : ∀ (S' : zm_S), res = .inr ((), S') → zw p l e R s m args below meth c (vx_MQ below (zm_Qc zk_E V (zo_v out)) (zm_XC zk_E V zo_x) args s mc ms (fun q => V.2.2.2.1 ≤ q)) 5 zk_E V mc ms 104 [(0, .ref a0), (1, .int i1)] [] S' rc rs) (hrec : ∀ (i2' : Int32) (S : zm_S), k a0 i1 i2' S = some res → zw p l e R s m args below meth c (vx_MQ below (zm_Qc zk_E V (zo_v out)) (zm_XC zk_E V zo_x) args s mc ms (fun q => V.2.2.2.1 ≤ q)) 5 zk_E V mc ms 10 [(0, .ref a0), (1, .int i1), (2, .int i2')] [] S rc rs) {S : zm_S} (h : zf_X2_markPoints_J66 N k a0 i1 i2 i3 S = some res) : zw p l e R s m args below meth c (vx_MQ below (zm_Qc zk_E V (zo_v out)) (zm_XC zk_E V zo_x) args s mc ms (fun q => V.2.2.2.1 ≤ q)) 5 zk_E V mc ms 66 [(0, .ref a0), (1, .int i1), (2, .int i2), (3, .int i3)] [] S rc rs := by
  unfold zf_X2_markPoints_J66 at h
  refine zw_iconst (v := (1 : Int32)) hX dX2_markPoints_66 (by decide) ?_
  refine zw_goto (tgt := 71) hX dX2_markPoints_67 (by decide) ?_
  refine zw_sub (lv' := [(0, .ref a0), (1, .int i1), (2, .int i2), (3, .int i3)]) (List.forall_mem_cons.mpr ⟨rfl, (List.forall_mem_cons.mpr ⟨rfl, (List.forall_mem_cons.mpr ⟨rfl, (List.forall_mem_cons.mpr ⟨rfl, zs_nil⟩)⟩)⟩)⟩) ?_
  exact zt_X2_markPoints_J71 hX hr hR hd hf hk hrec h
def zf_X2_markPoints_J43 (N : Nat) (k : Nat → Int32 → Int32 → zm_S → Option ((Unit × zm_S) ⊕ ((Unit) × zm_S))) (a0 : Nat) (i1 : Int32) (i2 : Int32) (t0 : Int32) (S : zm_S) : Option ((Unit × zm_S) ⊕ ((Unit) × zm_S)) := (zi S a0 2).bind (fun _ => (zf_X2_wallFrom N a0 i1 i2 (1 : Int32) S).bind (fun r6 => if r6.1 = (-1 : Int32) then (zi r6.2 a0 2).bind (fun _ => (zf_X2_wallFrom N a0 i1 i2 (3 : Int32) r6.2).bind (fun r12 => if r12.1 = (-1 : Int32) then zf_X2_markPoints_J71 N (k) a0 i1 i2 t0 (0 : Int32) r12.2 else zf_X2_markPoints_J66 N (k) a0 i1 i2 t0 r12.2)) else zf_X2_markPoints_J66 N (k) a0 i1 i2 t0 r6.2))
set_option maxHeartbeats 4000000 in
set_option maxRecDepth 100000 in
theorem zt_X2_markPoints_J43 {p : Program} {l : Launch} {e : Env} {R : Room} {s : State} {m : MethodId} {args : Array Value} {below : List Frame} {meth : Method} {c : Code} {V : zm_V} {mc ms d rc rs : Nat} (hX : zm_X p R s m args meth c RX2 "markPoints" cX2_markPoints 5 zk_E V mc ms) (hr : meth.sig.returnType = none) (hR : R.frames = d ∧ R.locals = 64 * d) (hd : 2 ≤ d) {N : Nat} {k : Nat → Int32 → Int32 → zm_S → Option ((Unit × zm_S) ⊕ ((Unit) × zm_S))} {a0 : Nat} {i1 : Int32} {i2 : Int32} {t0 : Int32} {res : (Unit × zm_S) ⊕ ((Unit) × zm_S)} {out : (Unit × zm_S)}   (hf : ∀ o, res = .inl o → o = out) (hk : ∀ (S' : zm_S), res = .inr ((), S') → zw p l e R s m args below meth c (vx_MQ below (zm_Qc zk_E V (zo_v out)) (zm_XC zk_E V zo_x) args s mc ms (fun q => V.2.2.2.1 ≤ q)) 5 zk_E V mc ms 104 [(0, .ref a0), (1, .int i1)] [] S' rc rs) (hrec : ∀ (i2' : Int32) (S : zm_S), k a0 i1 i2' S = some res → zw p l e R s m args below meth c (vx_MQ below (zm_Qc zk_E V (zo_v out)) (zm_XC zk_E V zo_x) args s mc ms (fun q => V.2.2.2.1 ≤ q)) 5 zk_E V mc ms 10 [(0, .ref a0), (1, .int i1), (2, .int i2')] [] S rc rs) {S : zm_S} (h : zf_X2_markPoints_J43 N k a0 i1 i2 t0 S = some res) : zw p l e R s m args below meth c (vx_MQ below (zm_Qc zk_E V (zo_v out)) (zm_XC zk_E V zo_x) args s mc ms (fun q => V.2.2.2.1 ≤ q)) 5 zk_E V mc ms 43 [(0, .ref a0), (1, .int i1), (2, .int i2)] [.int t0] S rc rs := by
  unfold zf_X2_markPoints_J43 at h
  refine zw_istore_n hX dX2_markPoints_43 (by decide) ?_
  refine zw_aload_n hX dX2_markPoints_44 rfl ?_
  refine zw_iload_n hX dX2_markPoints_45 rfl ?_
  refine zw_iload_n hX dX2_markPoints_46 rfl ?_
  refine zw_iconst (v := (1 : Int32)) hX dX2_markPoints_47 (by decide) ?_
  obtain ⟨_, gi, h⟩ := zb_some h
  obtain ⟨r6, g, h⟩ := zb_some h
  refine zc_Vi (as := [.int i1, .int i2, .int (1 : Int32)]) hX gi (zt_X2_wallFrom (d := d - 1) (by omega) g) zl_X2_110 rfl dX2_markPoints_48 ⟨rfl, rfl, Nat.le_of_ble_eq_true rfl⟩ ⟨by omega, by omega⟩ ?_
  refine zw_iconst (v := (-1 : Int32)) hX dX2_markPoints_51 (by decide) ?_
  refine zw_icmp_ne (tgt := 66) hX dX2_markPoints_52 (by decide) (fun c52 => ?_) (fun c52 => ?_)
  · rw [if_neg c52] at h
    refine zw_sub (lv' := [(0, .ref a0), (1, .int i1), (2, .int i2), (3, .int t0)]) (List.forall_mem_cons.mpr ⟨rfl, (List.forall_mem_cons.mpr ⟨rfl, (List.forall_mem_cons.mpr ⟨rfl, (List.forall_mem_cons.mpr ⟨rfl, zs_nil⟩)⟩)⟩)⟩) ?_
    exact zt_X2_markPoints_J66 hX hr hR hd hf hk hrec h
  · rw [if_pos c52] at h
    refine zw_aload_n hX dX2_markPoints_55 rfl ?_
    refine zw_iload_n hX dX2_markPoints_56 rfl ?_
    refine zw_iload_n hX dX2_markPoints_57 rfl ?_
    refine zw_iconst (v := (3 : Int32)) hX dX2_markPoints_58 (by decide) ?_
    obtain ⟨_, gi, h⟩ := zb_some h
    obtain ⟨r12, g, h⟩ := zb_some h
    refine zc_Vi (as := [.int i1, .int i2, .int (3 : Int32)]) hX gi (zt_X2_wallFrom (d := d - 1) (by omega) g) zl_X2_110 rfl dX2_markPoints_59 ⟨rfl, rfl, Nat.le_of_ble_eq_true rfl⟩ ⟨by omega, by omega⟩ ?_
    refine zw_iconst (v := (-1 : Int32)) hX dX2_markPoints_62 (by decide) ?_
    refine zw_icmp_eq (tgt := 70) hX dX2_markPoints_63 (by decide) (fun c63 => ?_) (fun c63 => ?_)
    · rw [if_pos c63] at h
      refine zw_iconst (v := (0 : Int32)) hX dX2_markPoints_70 (by decide) ?_
      refine zw_sub (lv' := [(0, .ref a0), (1, .int i1), (2, .int i2), (3, .int t0)]) (List.forall_mem_cons.mpr ⟨rfl, (List.forall_mem_cons.mpr ⟨rfl, (List.forall_mem_cons.mpr ⟨rfl, (List.forall_mem_cons.mpr ⟨rfl, zs_nil⟩)⟩)⟩)⟩) ?_
      exact zt_X2_markPoints_J71 hX hr hR hd hf hk hrec h
    · rw [if_neg c63] at h
      refine zw_sub (lv' := [(0, .ref a0), (1, .int i1), (2, .int i2), (3, .int t0)]) (List.forall_mem_cons.mpr ⟨rfl, (List.forall_mem_cons.mpr ⟨rfl, (List.forall_mem_cons.mpr ⟨rfl, (List.forall_mem_cons.mpr ⟨rfl, zs_nil⟩)⟩)⟩)⟩) ?_
      exact zt_X2_markPoints_J66 hX hr hR hd hf hk hrec h
def zf_X2_markPoints_J38 (N : Nat) (k : Nat → Int32 → Int32 → zm_S → Option ((Unit × zm_S) ⊕ ((Unit) × zm_S))) (a0 : Nat) (i1 : Int32) (i2 : Int32) (S : zm_S) : Option ((Unit × zm_S) ⊕ ((Unit) × zm_S)) := zf_X2_markPoints_J43 N (k) a0 i1 i2 (1 : Int32) S
set_option maxHeartbeats 4000000 in
set_option maxRecDepth 100000 in
theorem zt_X2_markPoints_J38 {p : Program} {l : Launch} {e : Env} {R : Room} {s : State} {m : MethodId} {args : Array Value} {below : List Frame} {meth : Method} {c : Code} {V : zm_V} {mc ms d rc rs : Nat} (hX : zm_X p R s m args meth c RX2 "markPoints" cX2_markPoints 5 zk_E V mc ms) (hr : meth.sig.returnType = none) (hR : R.frames = d ∧ R.locals = 64 * d) (hd : 2 ≤ d) {N : Nat} {k : Nat → Int32 → Int32 → zm_S → Option ((Unit × zm_S) ⊕ ((Unit) × zm_S))} {a0 : Nat} {i1 : Int32} {i2 : Int32} {res : (Unit × zm_S) ⊕ ((Unit) × zm_S)} {out : (Unit × zm_S)}   (hf : ∀ o, res = .inl o → o = out) (hk : ∀ (S' : zm_S), res = .inr ((), S') → zw p l e R s m args below meth c (vx_MQ below (zm_Qc zk_E V (zo_v out)) (zm_XC zk_E V zo_x) args s mc ms (fun q => V.2.2.2.1 ≤ q)) 5 zk_E V mc ms 104 [(0, .ref a0), (1, .int i1)] [] S' rc rs) (hrec : ∀ (i2' : Int32) (S : zm_S), k a0 i1 i2' S = some res → zw p l e R s m args below meth c (vx_MQ below (zm_Qc zk_E V (zo_v out)) (zm_XC zk_E V zo_x) args s mc ms (fun q => V.2.2.2.1 ≤ q)) 5 zk_E V mc ms 10 [(0, .ref a0), (1, .int i1), (2, .int i2')] [] S rc rs) {S : zm_S} (h : zf_X2_markPoints_J38 N k a0 i1 i2 S = some res) : zw p l e R s m args below meth c (vx_MQ below (zm_Qc zk_E V (zo_v out)) (zm_XC zk_E V zo_x) args s mc ms (fun q => V.2.2.2.1 ≤ q)) 5 zk_E V mc ms 38 [(0, .ref a0), (1, .int i1), (2, .int i2)] [] S rc rs := by
  unfold zf_X2_markPoints_J38 at h
  refine zw_iconst (v := (1 : Int32)) hX dX2_markPoints_38 (by decide) ?_
  refine zw_goto (tgt := 43) hX dX2_markPoints_39 (by decide) ?_
  refine zw_sub (lv' := [(0, .ref a0), (1, .int i1), (2, .int i2)]) (List.forall_mem_cons.mpr ⟨rfl, (List.forall_mem_cons.mpr ⟨rfl, (List.forall_mem_cons.mpr ⟨rfl, zs_nil⟩)⟩)⟩) ?_
  exact zt_X2_markPoints_J43 hX hr hR hd hf hk hrec h
def zf_X2_markPoints_L10 (N : Nat) : Nat → Nat → Int32 → Int32 → zm_S → Option ((Unit × zm_S) ⊕ ((Unit) × zm_S))
  | 0, _, _, _, _ => none
  | n + 1, a0, i1, i2, S => if (24 : Int32) < i2 then some (.inr ((), S)) else (zi S a0 2).bind (fun _ => (zf_X2_wallFrom N a0 i1 i2 (0 : Int32) S).bind (fun r3 => if r3.1 = (-1 : Int32) then (zi r3.2 a0 2).bind (fun _ => (zf_X2_wallFrom N a0 i1 i2 (2 : Int32) r3.2).bind (fun r15 => if r15.1 = (-1 : Int32) then zf_X2_markPoints_J43 N (zf_X2_markPoints_L10 N n) a0 i1 i2 (0 : Int32) r15.2 else zf_X2_markPoints_J38 N (zf_X2_markPoints_L10 N n) a0 i1 i2 r15.2)) else zf_X2_markPoints_J38 N (zf_X2_markPoints_L10 N n) a0 i1 i2 r3.2))
set_option maxHeartbeats 4000000 in
set_option maxRecDepth 100000 in
theorem zt_X2_markPoints_L10 {p : Program} {l : Launch} {e : Env} {R : Room} {s : State} {m : MethodId} {args : Array Value} {below : List Frame} {meth : Method} {c : Code} {V : zm_V} {mc ms d rc rs : Nat} (hX : zm_X p R s m args meth c RX2 "markPoints" cX2_markPoints 5 zk_E V mc ms) (hr : meth.sig.returnType = none) (hR : R.frames = d ∧ R.locals = 64 * d) (hd : 2 ≤ d) {N : Nat} {res : (Unit × zm_S) ⊕ ((Unit) × zm_S)} {out : (Unit × zm_S)} (a0 : Nat) (i1 : Int32) (hf : ∀ o, res = .inl o → o = out) (hk : ∀ (S' : zm_S), res = .inr ((), S') → zw p l e R s m args below meth c (vx_MQ below (zm_Qc zk_E V (zo_v out)) (zm_XC zk_E V zo_x) args s mc ms (fun q => V.2.2.2.1 ≤ q)) 5 zk_E V mc ms 104 [(0, .ref a0), (1, .int i1)] [] S' rc rs) : ∀ (n : Nat) (i2 : Int32) (S : zm_S), zf_X2_markPoints_L10 N n a0 i1 i2 S = some res → zw p l e R s m args below meth c (vx_MQ below (zm_Qc zk_E V (zo_v out)) (zm_XC zk_E V zo_x) args s mc ms (fun q => V.2.2.2.1 ≤ q)) 5 zk_E V mc ms 10 [(0, .ref a0), (1, .int i1), (2, .int i2)] [] S rc rs := by
  intro n
  induction n with
  | zero => intro i2 S h; cases h
  | succ n ih =>
    intro i2 S h
    rw [zf_X2_markPoints_L10] at h
    refine zw_iload_n hX dX2_markPoints_10 rfl ?_
    refine zw_bipush (v := (24 : Int32)) hX dX2_markPoints_11 (by decide) ?_
    refine zw_icmp_gt (tgt := 104) hX dX2_markPoints_13 (by decide) (fun c13 => ?_) (fun c13 => ?_)
    · rw [if_pos c13] at h
      refine zw_sub (lv' := [(0, .ref a0), (1, .int i1)]) (List.forall_mem_cons.mpr ⟨rfl, (List.forall_mem_cons.mpr ⟨rfl, zs_nil⟩)⟩) ?_
      exact hk  _ (Option.some.inj h).symm
    · rw [if_neg c13] at h
      refine zw_aload_n hX dX2_markPoints_16 rfl ?_
      refine zw_iload_n hX dX2_markPoints_17 rfl ?_
      refine zw_iload_n hX dX2_markPoints_18 rfl ?_
      refine zw_iconst (v := (0 : Int32)) hX dX2_markPoints_19 (by decide) ?_
      obtain ⟨_, gi, h⟩ := zb_some h
      obtain ⟨r3, g, h⟩ := zb_some h
      refine zc_Vi (as := [.int i1, .int i2, .int (0 : Int32)]) hX gi (zt_X2_wallFrom (d := d - 1) (by omega) g) zl_X2_110 rfl dX2_markPoints_20 ⟨rfl, rfl, Nat.le_of_ble_eq_true rfl⟩ ⟨by omega, by omega⟩ ?_
      refine zw_iconst (v := (-1 : Int32)) hX dX2_markPoints_23 (by decide) ?_
      refine zw_icmp_ne (tgt := 38) hX dX2_markPoints_24 (by decide) (fun c24 => ?_) (fun c24 => ?_)
      · rw [if_neg c24] at h
        refine zw_sub (lv' := [(0, .ref a0), (1, .int i1), (2, .int i2)]) (List.forall_mem_cons.mpr ⟨rfl, (List.forall_mem_cons.mpr ⟨rfl, (List.forall_mem_cons.mpr ⟨rfl, zs_nil⟩)⟩)⟩) ?_
        exact zt_X2_markPoints_J38 hX hr hR hd hf hk ih h
      · rw [if_pos c24] at h
        refine zw_aload_n hX dX2_markPoints_27 rfl ?_
        refine zw_iload_n hX dX2_markPoints_28 rfl ?_
        refine zw_iload_n hX dX2_markPoints_29 rfl ?_
        refine zw_iconst (v := (2 : Int32)) hX dX2_markPoints_30 (by decide) ?_
        obtain ⟨_, gi, h⟩ := zb_some h
        obtain ⟨r15, g, h⟩ := zb_some h
        refine zc_Vi (as := [.int i1, .int i2, .int (2 : Int32)]) hX gi (zt_X2_wallFrom (d := d - 1) (by omega) g) zl_X2_110 rfl dX2_markPoints_31 ⟨rfl, rfl, Nat.le_of_ble_eq_true rfl⟩ ⟨by omega, by omega⟩ ?_
        refine zw_iconst (v := (-1 : Int32)) hX dX2_markPoints_34 (by decide) ?_
        refine zw_icmp_eq (tgt := 42) hX dX2_markPoints_35 (by decide) (fun c35 => ?_) (fun c35 => ?_)
        · rw [if_pos c35] at h
          refine zw_iconst (v := (0 : Int32)) hX dX2_markPoints_42 (by decide) ?_
          refine zw_sub (lv' := [(0, .ref a0), (1, .int i1), (2, .int i2)]) (List.forall_mem_cons.mpr ⟨rfl, (List.forall_mem_cons.mpr ⟨rfl, (List.forall_mem_cons.mpr ⟨rfl, zs_nil⟩)⟩)⟩) ?_
          exact zt_X2_markPoints_J43 hX hr hR hd hf hk ih h
        · rw [if_neg c35] at h
          refine zw_sub (lv' := [(0, .ref a0), (1, .int i1), (2, .int i2)]) (List.forall_mem_cons.mpr ⟨rfl, (List.forall_mem_cons.mpr ⟨rfl, (List.forall_mem_cons.mpr ⟨rfl, zs_nil⟩)⟩)⟩) ?_
          exact zt_X2_markPoints_J38 hX hr hR hd hf hk ih h
def zf_X2_markPoints_L2 (N : Nat) : Nat → Nat → Int32 → zm_S → Option ((Unit × zm_S) ⊕ ((Unit) × zm_S))
  | 0, _, _, _ => none
  | n + 1, a0, i1, S => if (24 : Int32) < i1 then some (.inr ((), S)) else (zf_X2_markPoints_L10 N N a0 i1 (0 : Int32) S).bind (fun r => match r with | .inl o => some (.inl o) | .inr (_, S16) => zf_X2_markPoints_L2 N n a0 (i1 + (1 : Int32)) S16)
set_option maxHeartbeats 4000000 in
set_option maxRecDepth 100000 in
theorem zt_X2_markPoints_L2 {p : Program} {l : Launch} {e : Env} {R : Room} {s : State} {m : MethodId} {args : Array Value} {below : List Frame} {meth : Method} {c : Code} {V : zm_V} {mc ms d rc rs : Nat} (hX : zm_X p R s m args meth c RX2 "markPoints" cX2_markPoints 5 zk_E V mc ms) (hr : meth.sig.returnType = none) (hR : R.frames = d ∧ R.locals = 64 * d) (hd : 2 ≤ d) {N : Nat} {res : (Unit × zm_S) ⊕ ((Unit) × zm_S)} {out : (Unit × zm_S)} (a0 : Nat) (hf : ∀ o, res = .inl o → o = out) (hk : ∀ (S' : zm_S), res = .inr ((), S') → zw p l e R s m args below meth c (vx_MQ below (zm_Qc zk_E V (zo_v out)) (zm_XC zk_E V zo_x) args s mc ms (fun q => V.2.2.2.1 ≤ q)) 5 zk_E V mc ms 110 [(0, .ref a0)] [] S' rc rs) : ∀ (n : Nat) (i1 : Int32) (S : zm_S), zf_X2_markPoints_L2 N n a0 i1 S = some res → zw p l e R s m args below meth c (vx_MQ below (zm_Qc zk_E V (zo_v out)) (zm_XC zk_E V zo_x) args s mc ms (fun q => V.2.2.2.1 ≤ q)) 5 zk_E V mc ms 2 [(0, .ref a0), (1, .int i1)] [] S rc rs := by
  intro n
  induction n with
  | zero => intro i1 S h; cases h
  | succ n ih =>
    intro i1 S h
    rw [zf_X2_markPoints_L2] at h
    refine zw_iload_n hX dX2_markPoints_2 rfl ?_
    refine zw_bipush (v := (24 : Int32)) hX dX2_markPoints_3 (by decide) ?_
    refine zw_icmp_gt (tgt := 110) hX dX2_markPoints_5 (by decide) (fun c5 => ?_) (fun c5 => ?_)
    · rw [if_pos c5] at h
      refine zw_sub (lv' := [(0, .ref a0)]) (List.forall_mem_cons.mpr ⟨rfl, zs_nil⟩) ?_
      exact hk  _ (Option.some.inj h).symm
    · rw [if_neg c5] at h
      refine zw_iconst (v := (0 : Int32)) hX dX2_markPoints_8 (by decide) ?_
      refine zw_istore_n hX dX2_markPoints_9 (by decide) ?_
      obtain ⟨r, g, h⟩ := zb_some h
      refine zw_sub (lv' := [(0, .ref a0), (1, .int i1), (2, .int (0 : Int32))]) (List.forall_mem_cons.mpr ⟨rfl, (List.forall_mem_cons.mpr ⟨rfl, (List.forall_mem_cons.mpr ⟨rfl, zs_nil⟩)⟩)⟩) ?_
      refine zt_X2_markPoints_L10 hX hr hR hd (res := r) (out := out) a0 i1 ?_ ?_ N _ _ g
      · intro o ho
        subst ho
        exact hf _ (Option.some.inj h).symm
      · intro  S16 hx
        subst hx
        try dsimp only at h
        refine zw_iinc (v := (i1 + (1 : Int32))) hX dX2_markPoints_104 rfl rfl (by decide) ?_
        refine zw_goto (tgt := 2) hX dX2_markPoints_107 (by decide) ?_
        refine zw_sub (lv' := [(0, .ref a0), (1, .int (i1 + (1 : Int32)))]) (List.forall_mem_cons.mpr ⟨rfl, (List.forall_mem_cons.mpr ⟨rfl, zs_nil⟩)⟩) ?_
        exact ih _ _ h
def zf_X2_markPoints_L112 (N : Nat) : Nat → Nat → Int32 → zm_S → Option ((Unit × zm_S) ⊕ ((Unit) × zm_S))
  | 0, _, _, _ => none
  | n + 1, a0, i1, S => (zg_r S a0 2 0).bind (fun b18 => (zg_i S b18 8 0).bind (fun v19 => if v19 ≤ i1 then some (.inr ((), S)) else (zg_r S a0 2 0).bind (fun b20 => (zg_r S b20 8 1).bind (fun b21 => (za_r S b21 i1).bind (fun b22 => (zg_r S a0 2 5).bind (fun b23 => (za_x S 0 b22 (0 : Int32)).bind (fun v24 => (za_x S 0 b22 (1 : Int32)).bind (fun v25 => (zs_z S b23 ((v24 * (25 : Int32)) + v25) (1 : Int32)).bind (fun S26 => (zg_r S26 a0 2 5).bind (fun b27 => (za_x S26 0 b22 (2 : Int32)).bind (fun v28 => (za_x S26 0 b22 (3 : Int32)).bind (fun v29 => (zs_z S26 b27 ((v28 * (25 : Int32)) + v29) (1 : Int32)).bind (fun S30 => zf_X2_markPoints_L112 N n a0 (i1 + (1 : Int32)) S30)))))))))))))
set_option maxHeartbeats 4000000 in
set_option maxRecDepth 100000 in
theorem zt_X2_markPoints_L112 {p : Program} {l : Launch} {e : Env} {R : Room} {s : State} {m : MethodId} {args : Array Value} {below : List Frame} {meth : Method} {c : Code} {V : zm_V} {mc ms d rc rs : Nat} (hX : zm_X p R s m args meth c RX2 "markPoints" cX2_markPoints 5 zk_E V mc ms) (hr : meth.sig.returnType = none) (hR : R.frames = d ∧ R.locals = 64 * d) (hd : 2 ≤ d) {N : Nat} {res : (Unit × zm_S) ⊕ ((Unit) × zm_S)} {out : (Unit × zm_S)} (a0 : Nat) (hf : ∀ o, res = .inl o → o = out) (hk : ∀ (S' : zm_S), res = .inr ((), S') → zw p l e R s m args below meth c (vx_MQ below (zm_Qc zk_E V (zo_v out)) (zm_XC zk_E V zo_x) args s mc ms (fun q => V.2.2.2.1 ≤ q)) 5 zk_E V mc ms 171 [] [] S' rc rs) : ∀ (n : Nat) (i1 : Int32) (S : zm_S), zf_X2_markPoints_L112 N n a0 i1 S = some res → zw p l e R s m args below meth c (vx_MQ below (zm_Qc zk_E V (zo_v out)) (zm_XC zk_E V zo_x) args s mc ms (fun q => V.2.2.2.1 ≤ q)) 5 zk_E V mc ms 112 [(0, .ref a0), (1, .int i1)] [] S rc rs := by
  intro n
  induction n with
  | zero => intro i1 S h; cases h
  | succ n ih =>
    intro i1 S h
    rw [zf_X2_markPoints_L112] at h
    refine zw_iload_n hX dX2_markPoints_112 rfl ?_
    refine zw_aload_n hX dX2_markPoints_113 rfl ?_
    obtain ⟨b18, g, h⟩ := zb_some h
    refine zw_getr hX zl_X2_54 dX2_markPoints_114 g ?_
    obtain ⟨v19, g, h⟩ := zb_some h
    refine zw_getNi hX zl_X2_94 dX2_markPoints_117 g ?_
    refine zw_icmp_ge (tgt := 171) hX dX2_markPoints_120 (by decide) (fun c120 => ?_) (fun c120 => ?_)
    · rw [if_pos c120] at h
      refine zw_sub (lv' := []) zs_nil ?_
      exact hk  _ (Option.some.inj h).symm
    · rw [if_neg c120] at h
      refine zw_aload_n hX dX2_markPoints_123 rfl ?_
      obtain ⟨b20, g, h⟩ := zb_some h
      refine zw_getr hX zl_X2_54 dX2_markPoints_124 g ?_
      obtain ⟨b21, g, h⟩ := zb_some h
      refine zw_getNr hX zl_X2_103 dX2_markPoints_127 g ?_
      refine zw_iload_n hX dX2_markPoints_130 rfl ?_
      obtain ⟨b22, g, h⟩ := zb_some h
      refine zw_xr hX dX2_markPoints_131 g ?_
      refine zw_astore_n hX dX2_markPoints_132 (by decide) ?_
      refine zw_aload_n hX dX2_markPoints_133 rfl ?_
      obtain ⟨b23, g, h⟩ := zb_some h
      refine zw_getr hX zl_X2_16 dX2_markPoints_134 g ?_
      refine zw_aload_n hX dX2_markPoints_137 rfl ?_
      refine zw_iconst (v := (0 : Int32)) hX dX2_markPoints_138 (by decide) ?_
      obtain ⟨v24, g, h⟩ := zb_some h
      refine zw_xi hX dX2_markPoints_139 g ?_
      refine zw_bipush (v := (25 : Int32)) hX dX2_markPoints_140 (by decide) ?_
      refine zw_imul hX dX2_markPoints_142 ?_
      refine zw_aload_n hX dX2_markPoints_143 rfl ?_
      refine zw_iconst (v := (1 : Int32)) hX dX2_markPoints_144 (by decide) ?_
      obtain ⟨v25, g, h⟩ := zb_some h
      refine zw_xi hX dX2_markPoints_145 g ?_
      refine zw_iadd hX dX2_markPoints_146 ?_
      refine zw_iconst (v := (1 : Int32)) hX dX2_markPoints_147 (by decide) ?_
      obtain ⟨S26, g, h⟩ := zb_some h
      refine zw_sz hX dX2_markPoints_148 g ?_
      refine zw_aload_n hX dX2_markPoints_149 rfl ?_
      obtain ⟨b27, g, h⟩ := zb_some h
      refine zw_getr hX zl_X2_16 dX2_markPoints_150 g ?_
      refine zw_aload_n hX dX2_markPoints_153 rfl ?_
      refine zw_iconst (v := (2 : Int32)) hX dX2_markPoints_154 (by decide) ?_
      obtain ⟨v28, g, h⟩ := zb_some h
      refine zw_xi hX dX2_markPoints_155 g ?_
      refine zw_bipush (v := (25 : Int32)) hX dX2_markPoints_156 (by decide) ?_
      refine zw_imul hX dX2_markPoints_158 ?_
      refine zw_aload_n hX dX2_markPoints_159 rfl ?_
      refine zw_iconst (v := (3 : Int32)) hX dX2_markPoints_160 (by decide) ?_
      obtain ⟨v29, g, h⟩ := zb_some h
      refine zw_xi hX dX2_markPoints_161 g ?_
      refine zw_iadd hX dX2_markPoints_162 ?_
      refine zw_iconst (v := (1 : Int32)) hX dX2_markPoints_163 (by decide) ?_
      obtain ⟨S30, g, h⟩ := zb_some h
      refine zw_sz hX dX2_markPoints_164 g ?_
      refine zw_iinc (v := (i1 + (1 : Int32))) hX dX2_markPoints_165 rfl rfl (by decide) ?_
      refine zw_goto (tgt := 112) hX dX2_markPoints_168 (by decide) ?_
      refine zw_sub (lv' := [(0, .ref a0), (1, .int (i1 + (1 : Int32)))]) (List.forall_mem_cons.mpr ⟨rfl, (List.forall_mem_cons.mpr ⟨rfl, zs_nil⟩)⟩) ?_
      exact ih _ _ h
def zf_X2_markPoints (N : Nat) (a0 : Nat) (S : zm_S) : Option (Unit × zm_S) := (zf_X2_markPoints_L2 N N a0 (0 : Int32) S).bind (fun r => match r with | .inl o => some o | .inr (_, S17) => (zf_X2_markPoints_L112 N N a0 (0 : Int32) S17).bind (fun r => match r with | .inl o => some o | .inr (_, S31) => some ((), S31)))
set_option maxHeartbeats 4000000 in
set_option maxRecDepth 100000 in
theorem zt_X2_markPoints {l : Launch} {V : zm_V} {N : Nat} {S : zm_S} {out : (Unit × zm_S)} {d : Nat} {a0 : Nat} (hd : 2 ≤ d) (h : zf_X2_markPoints N a0 S = some out) : zm_Met l zk_E V yX2_markPoints (.code yX2_markPoints cX2_markPoints 5 none) d [.ref a0] S 0 0 (zo_v out) zo_x := by
  refine zm_of (by decide +kernel) (Nat.le_of_ble_eq_true rfl) ?_
  intro p e R s m args below meth c hRR hX hr hxt
  have hR : R.frames = d ∧ R.locals = 64 * d := by rw [hRR]; exact ⟨rfl, rfl⟩
  have hX : zm_X p R s m args meth c RX2 "markPoints" cX2_markPoints 5 zk_E V 0 0 := hX
  unfold zf_X2_markPoints at h
  refine zw_sub (lv' := [(0, .ref a0)]) (List.forall_mem_cons.mpr ⟨rfl, zs_nil⟩) ?_
  refine zw_iconst (v := (0 : Int32)) hX dX2_markPoints_0 (by decide) ?_
  refine zw_istore_n hX dX2_markPoints_1 (by decide) ?_
  obtain ⟨r, g, h⟩ := zb_some h
  refine zw_sub (lv' := [(0, .ref a0), (1, .int (0 : Int32))]) (List.forall_mem_cons.mpr ⟨rfl, (List.forall_mem_cons.mpr ⟨rfl, zs_nil⟩)⟩) ?_
  refine zt_X2_markPoints_L2 hX hr hR hd (res := r) (out := out) a0 ?_ ?_ N _ _ g
  · intro o ho
    subst ho
    exact Option.some.inj h
  · intro  S17 hx
    subst hx
    try dsimp only at h
    refine zw_iconst (v := (0 : Int32)) hX dX2_markPoints_110 (by decide) ?_
    refine zw_istore_n hX dX2_markPoints_111 (by decide) ?_
    obtain ⟨r, g, h⟩ := zb_some h
    refine zw_sub (lv' := [(0, .ref a0), (1, .int (0 : Int32))]) (List.forall_mem_cons.mpr ⟨rfl, (List.forall_mem_cons.mpr ⟨rfl, zs_nil⟩)⟩) ?_
    refine zt_X2_markPoints_L112 hX hr hR hd (res := r) (out := out) a0 ?_ ?_ N _ _ g
    · intro o ho
      subst ho
      exact Option.some.inj h
    · intro  S31 hx
      subst hx
      try dsimp only at h
      obtain rfl := Option.some.inj h
      exact zw_vret hX hr dX2_markPoints_171 ⟨rfl, rfl⟩
def zf_X2_placeBeside (N : Nat) (a0 : Nat) (i1 : Int32) (i2 : Int32) (S : zm_S) : Option (Int32 × zm_S) := if i2 = 0 then some (((((i1 / (24 : Int32)) * (25 : Int32)) + (i1 - i1 / (24 : Int32) * (24 : Int32))) + (25 : Int32)), S) else if i2 = (2 : Int32) then some (((((i1 / (24 : Int32)) * (25 : Int32)) + (i1 - i1 / (24 : Int32) * (24 : Int32))) + (1 : Int32)), S) else some ((((i1 / (24 : Int32)) * (25 : Int32)) + (i1 - i1 / (24 : Int32) * (24 : Int32))), S)
set_option maxHeartbeats 4000000 in
set_option maxRecDepth 100000 in
theorem zt_X2_placeBeside {l : Launch} {V : zm_V} {N : Nat} {S : zm_S} {out : (Int32 × zm_S)} {d : Nat} {a0 : Nat} {i1 : Int32} {i2 : Int32} (hd : 1 ≤ d) (h : zf_X2_placeBeside N a0 i1 i2 S = some out) : zm_Met l zk_E V yX2_placeBeside (.code yX2_placeBeside cX2_placeBeside 4 (some .int)) d [.ref a0, .int i1, .int i2] S 0 0 (zo_i out) zo_x := by
  refine zm_of (by decide +kernel) (Nat.le_of_ble_eq_true rfl) ?_
  intro p e R s m args below meth c hRR hX hr hxt
  have hR : R.frames = d ∧ R.locals = 64 * d := by rw [hRR]; exact ⟨rfl, rfl⟩
  have hX : zm_X p R s m args meth c RX2 "placeBeside" cX2_placeBeside 4 zk_E V 0 0 := hX
  unfold zf_X2_placeBeside at h
  refine zw_sub (lv' := [(0, .ref a0), (1, .int i1), (2, .int i2)]) (List.forall_mem_cons.mpr ⟨rfl, (List.forall_mem_cons.mpr ⟨rfl, (List.forall_mem_cons.mpr ⟨rfl, zs_nil⟩)⟩)⟩) ?_
  refine zw_iload_n hX dX2_placeBeside_0 rfl ?_
  refine zw_bipush (v := (24 : Int32)) hX dX2_placeBeside_1 (by decide) ?_
  refine zw_idiv hX dX2_placeBeside_3 (by decide) ?_
  refine zw_bipush (v := (25 : Int32)) hX dX2_placeBeside_4 (by decide) ?_
  refine zw_imul hX dX2_placeBeside_6 ?_
  refine zw_iload_n hX dX2_placeBeside_7 rfl ?_
  refine zw_bipush (v := (24 : Int32)) hX dX2_placeBeside_8 (by decide) ?_
  refine zw_irem hX dX2_placeBeside_10 (by decide) ?_
  refine zw_iadd hX dX2_placeBeside_11 ?_
  refine zw_istore_n hX dX2_placeBeside_12 (by decide) ?_
  refine zw_iload_n hX dX2_placeBeside_13 rfl ?_
  refine zw_if_ne (tgt := 22) hX dX2_placeBeside_14 (by decide) (fun c14 => ?_) (fun c14 => ?_)
  · rw [if_neg c14] at h
    refine zw_iload_n hX dX2_placeBeside_22 rfl ?_
    refine zw_iconst (v := (2 : Int32)) hX dX2_placeBeside_23 (by decide) ?_
    refine zw_icmp_ne (tgt := 33) hX dX2_placeBeside_24 (by decide) (fun c24 => ?_) (fun c24 => ?_)
    · rw [if_neg c24] at h
      refine zw_iload_n hX dX2_placeBeside_33 rfl ?_
      obtain rfl := Option.some.inj h
      exact zw_iret hX hr dX2_placeBeside_34 rfl ⟨rfl, rfl⟩
    · rw [if_pos c24] at h
      refine zw_iload_n hX dX2_placeBeside_27 rfl ?_
      refine zw_iconst (v := (1 : Int32)) hX dX2_placeBeside_28 (by decide) ?_
      refine zw_iadd hX dX2_placeBeside_29 ?_
      refine zw_goto (tgt := 34) hX dX2_placeBeside_30 (by decide) ?_
      obtain rfl := Option.some.inj h
      exact zw_iret hX hr dX2_placeBeside_34 rfl ⟨rfl, rfl⟩
  · rw [if_pos c14] at h
    refine zw_iload_n hX dX2_placeBeside_17 rfl ?_
    refine zw_bipush (v := (25 : Int32)) hX dX2_placeBeside_18 (by decide) ?_
    refine zw_iadd hX dX2_placeBeside_20 ?_
    obtain rfl := Option.some.inj h
    exact zw_iret hX hr dX2_placeBeside_21 rfl ⟨rfl, rfl⟩
def zf_X2_wallBeside (N : Nat) (a0 : Nat) (i1 : Int32) (i2 : Int32) (S : zm_S) : Option (Int32 × zm_S) := (zi S a0 2).bind (fun _ => (zf_X2_placeBeside N a0 i1 i2 S).bind (fun r3 => if (2 : Int32) ≤ i2 then (zg_r r3.2 a0 2 4).bind (fun b4 => (za_r r3.2 b4 (0 : Int32)).bind (fun b5 => (za_x r3.2 0 b5 r3.1).bind (fun v6 => some (v6, r3.2)))) else (zg_r r3.2 a0 2 4).bind (fun b7 => (za_r r3.2 b7 (1 : Int32)).bind (fun b8 => (za_x r3.2 0 b8 r3.1).bind (fun v9 => some (v9, r3.2))))))
set_option maxHeartbeats 4000000 in
set_option maxRecDepth 100000 in
theorem zt_X2_wallBeside {l : Launch} {V : zm_V} {N : Nat} {S : zm_S} {out : (Int32 × zm_S)} {d : Nat} {a0 : Nat} {i1 : Int32} {i2 : Int32} (hd : 2 ≤ d) (h : zf_X2_wallBeside N a0 i1 i2 S = some out) : zm_Met l zk_E V yX2_wallBeside (.code yX2_wallBeside cX2_wallBeside 4 (some .int)) d [.ref a0, .int i1, .int i2] S 0 0 (zo_i out) zo_x := by
  refine zm_of (by decide +kernel) (Nat.le_of_ble_eq_true rfl) ?_
  intro p e R s m args below meth c hRR hX hr hxt
  have hR : R.frames = d ∧ R.locals = 64 * d := by rw [hRR]; exact ⟨rfl, rfl⟩
  have hX : zm_X p R s m args meth c RX2 "wallBeside" cX2_wallBeside 4 zk_E V 0 0 := hX
  unfold zf_X2_wallBeside at h
  refine zw_sub (lv' := [(0, .ref a0), (1, .int i1), (2, .int i2)]) (List.forall_mem_cons.mpr ⟨rfl, (List.forall_mem_cons.mpr ⟨rfl, (List.forall_mem_cons.mpr ⟨rfl, zs_nil⟩)⟩)⟩) ?_
  refine zw_aload_n hX dX2_wallBeside_0 rfl ?_
  refine zw_iload_n hX dX2_wallBeside_1 rfl ?_
  refine zw_iload_n hX dX2_wallBeside_2 rfl ?_
  obtain ⟨_, gi, h⟩ := zb_some h
  obtain ⟨r3, g, h⟩ := zb_some h
  refine zc_Vi (as := [.int i1, .int i2]) hX gi (zt_X2_placeBeside (d := d - 1) (by omega) g) zl_X2_130 rfl dX2_wallBeside_3 ⟨rfl, rfl, Nat.le_of_ble_eq_true rfl⟩ ⟨by omega, by omega⟩ ?_
  refine zw_istore_n hX dX2_wallBeside_6 (by decide) ?_
  refine zw_iload_n hX dX2_wallBeside_7 rfl ?_
  refine zw_iconst (v := (2 : Int32)) hX dX2_wallBeside_8 (by decide) ?_
  refine zw_icmp_ge (tgt := 23) hX dX2_wallBeside_9 (by decide) (fun c9 => ?_) (fun c9 => ?_)
  · rw [if_pos c9] at h
    refine zw_aload_n hX dX2_wallBeside_23 rfl ?_
    obtain ⟨b4, g, h⟩ := zb_some h
    refine zw_getr hX zl_X2_13 dX2_wallBeside_24 g ?_
    refine zw_iconst (v := (0 : Int32)) hX dX2_wallBeside_27 (by decide) ?_
    obtain ⟨b5, g, h⟩ := zb_some h
    refine zw_xr hX dX2_wallBeside_28 g ?_
    refine zw_iload_n hX dX2_wallBeside_29 rfl ?_
    obtain ⟨v6, g, h⟩ := zb_some h
    refine zw_xi hX dX2_wallBeside_30 g ?_
    obtain rfl := Option.some.inj h
    exact zw_iret hX hr dX2_wallBeside_31 rfl ⟨rfl, rfl⟩
  · rw [if_neg c9] at h
    refine zw_aload_n hX dX2_wallBeside_12 rfl ?_
    obtain ⟨b7, g, h⟩ := zb_some h
    refine zw_getr hX zl_X2_13 dX2_wallBeside_13 g ?_
    refine zw_iconst (v := (1 : Int32)) hX dX2_wallBeside_16 (by decide) ?_
    obtain ⟨b8, g, h⟩ := zb_some h
    refine zw_xr hX dX2_wallBeside_17 g ?_
    refine zw_iload_n hX dX2_wallBeside_18 rfl ?_
    obtain ⟨v9, g, h⟩ := zb_some h
    refine zw_xi hX dX2_wallBeside_19 g ?_
    refine zw_goto (tgt := 31) hX dX2_wallBeside_20 (by decide) ?_
    obtain rfl := Option.some.inj h
    exact zw_iret hX hr dX2_wallBeside_31 rfl ⟨rfl, rfl⟩
def zf_X2_cellBeside (N : Nat) (a0 : Nat) (i1 : Int32) (i2 : Int32) (S : zm_S) : Option (Int32 × zm_S) := if (i2).toInt = 0 then if (23 : Int32) ≤ (i1 / (24 : Int32)) then some ((-1 : Int32), S) else some ((i1 + (24 : Int32)), S) else if (i2).toInt = 1 then if (i1 / (24 : Int32)) ≤ 0 then some ((-1 : Int32), S) else some ((i1 - (24 : Int32)), S) else if (i2).toInt = 2 then if (23 : Int32) ≤ (i1 - i1 / (24 : Int32) * (24 : Int32)) then some ((-1 : Int32), S) else some ((i1 + (1 : Int32)), S) else if (i1 - i1 / (24 : Int32) * (24 : Int32)) ≤ 0 then some ((-1 : Int32), S) else some ((i1 - (1 : Int32)), S)
set_option maxHeartbeats 4000000 in
set_option maxRecDepth 100000 in
theorem zt_X2_cellBeside {l : Launch} {V : zm_V} {N : Nat} {S : zm_S} {out : (Int32 × zm_S)} {d : Nat} {a0 : Nat} {i1 : Int32} {i2 : Int32} (hd : 1 ≤ d) (h : zf_X2_cellBeside N a0 i1 i2 S = some out) : zm_Met l zk_E V yX2_cellBeside (.code yX2_cellBeside cX2_cellBeside 5 (some .int)) d [.ref a0, .int i1, .int i2] S 0 0 (zo_i out) zo_x := by
  refine zm_of (by decide +kernel) (Nat.le_of_ble_eq_true rfl) ?_
  intro p e R s m args below meth c hRR hX hr hxt
  have hR : R.frames = d ∧ R.locals = 64 * d := by rw [hRR]; exact ⟨rfl, rfl⟩
  have hX : zm_X p R s m args meth c RX2 "cellBeside" cX2_cellBeside 5 zk_E V 0 0 := hX
  unfold zf_X2_cellBeside at h
  refine zw_sub (lv' := [(0, .ref a0), (1, .int i1), (2, .int i2)]) (List.forall_mem_cons.mpr ⟨rfl, (List.forall_mem_cons.mpr ⟨rfl, (List.forall_mem_cons.mpr ⟨rfl, zs_nil⟩)⟩)⟩) ?_
  refine zw_iload_n hX dX2_cellBeside_0 rfl ?_
  refine zw_bipush (v := (24 : Int32)) hX dX2_cellBeside_1 (by decide) ?_
  refine zw_idiv hX dX2_cellBeside_3 (by decide) ?_
  refine zw_istore_n hX dX2_cellBeside_4 (by decide) ?_
  refine zw_iload_n hX dX2_cellBeside_5 rfl ?_
  refine zw_bipush (v := (24 : Int32)) hX dX2_cellBeside_6 (by decide) ?_
  refine zw_irem hX dX2_cellBeside_8 (by decide) ?_
  refine zw_istore hX dX2_cellBeside_9 (by decide) ?_
  refine zw_iload_n hX dX2_cellBeside_11 rfl ?_
  by_cases c12_0 : (i2).toInt = 0
  · rw [if_pos c12_0] at h
    refine zw_tableIn (off := 28) (tgt := 40) hX dX2_cellBeside_12 (by rw [c12_0]; decide) (by rw [c12_0]; decide) (by rw [c12_0]; decide) (by decide) ?_
    refine zw_iload_n hX dX2_cellBeside_40 rfl ?_
    refine zw_bipush (v := (23 : Int32)) hX dX2_cellBeside_41 (by decide) ?_
    refine zw_icmp_ge (tgt := 53) hX dX2_cellBeside_43 (by decide) (fun c43 => ?_) (fun c43 => ?_)
    · rw [if_pos c43] at h
      refine zw_iconst (v := (-1 : Int32)) hX dX2_cellBeside_53 (by decide) ?_
      obtain rfl := Option.some.inj h
      exact zw_iret hX hr dX2_cellBeside_54 rfl ⟨rfl, rfl⟩
    · rw [if_neg c43] at h
      refine zw_iload_n hX dX2_cellBeside_46 rfl ?_
      refine zw_bipush (v := (24 : Int32)) hX dX2_cellBeside_47 (by decide) ?_
      refine zw_iadd hX dX2_cellBeside_49 ?_
      refine zw_goto (tgt := 54) hX dX2_cellBeside_50 (by decide) ?_
      obtain rfl := Option.some.inj h
      exact zw_iret hX hr dX2_cellBeside_54 rfl ⟨rfl, rfl⟩
  rw [if_neg c12_0] at h
  by_cases c12_1 : (i2).toInt = 1
  · rw [if_pos c12_1] at h
    refine zw_tableIn (off := 43) (tgt := 55) hX dX2_cellBeside_12 (by rw [c12_1]; decide) (by rw [c12_1]; decide) (by rw [c12_1]; decide) (by decide) ?_
    refine zw_iload_n hX dX2_cellBeside_55 rfl ?_
    refine zw_if_le (tgt := 66) hX dX2_cellBeside_56 (by decide) (fun c56 => ?_) (fun c56 => ?_)
    · rw [if_pos c56] at h
      refine zw_iconst (v := (-1 : Int32)) hX dX2_cellBeside_66 (by decide) ?_
      obtain rfl := Option.some.inj h
      exact zw_iret hX hr dX2_cellBeside_67 rfl ⟨rfl, rfl⟩
    · rw [if_neg c56] at h
      refine zw_iload_n hX dX2_cellBeside_59 rfl ?_
      refine zw_bipush (v := (24 : Int32)) hX dX2_cellBeside_60 (by decide) ?_
      refine zw_isub hX dX2_cellBeside_62 ?_
      refine zw_goto (tgt := 67) hX dX2_cellBeside_63 (by decide) ?_
      obtain rfl := Option.some.inj h
      exact zw_iret hX hr dX2_cellBeside_67 rfl ⟨rfl, rfl⟩
  rw [if_neg c12_1] at h
  by_cases c12_2 : (i2).toInt = 2
  · rw [if_pos c12_2] at h
    refine zw_tableIn (off := 56) (tgt := 68) hX dX2_cellBeside_12 (by rw [c12_2]; decide) (by rw [c12_2]; decide) (by rw [c12_2]; decide) (by decide) ?_
    refine zw_iload hX dX2_cellBeside_68 rfl ?_
    refine zw_bipush (v := (23 : Int32)) hX dX2_cellBeside_70 (by decide) ?_
    refine zw_icmp_ge (tgt := 81) hX dX2_cellBeside_72 (by decide) (fun c72 => ?_) (fun c72 => ?_)
    · rw [if_pos c72] at h
      refine zw_iconst (v := (-1 : Int32)) hX dX2_cellBeside_81 (by decide) ?_
      obtain rfl := Option.some.inj h
      exact zw_iret hX hr dX2_cellBeside_82 rfl ⟨rfl, rfl⟩
    · rw [if_neg c72] at h
      refine zw_iload_n hX dX2_cellBeside_75 rfl ?_
      refine zw_iconst (v := (1 : Int32)) hX dX2_cellBeside_76 (by decide) ?_
      refine zw_iadd hX dX2_cellBeside_77 ?_
      refine zw_goto (tgt := 82) hX dX2_cellBeside_78 (by decide) ?_
      obtain rfl := Option.some.inj h
      exact zw_iret hX hr dX2_cellBeside_82 rfl ⟨rfl, rfl⟩
  rw [if_neg c12_2] at h
  refine zw_tableOut (tgt := 83) hX dX2_cellBeside_12 (by omega) (by decide) ?_
  refine zw_iload hX dX2_cellBeside_83 rfl ?_
  refine zw_if_le (tgt := 94) hX dX2_cellBeside_85 (by decide) (fun c85 => ?_) (fun c85 => ?_)
  · rw [if_pos c85] at h
    refine zw_iconst (v := (-1 : Int32)) hX dX2_cellBeside_94 (by decide) ?_
    obtain rfl := Option.some.inj h
    exact zw_iret hX hr dX2_cellBeside_95 rfl ⟨rfl, rfl⟩
  · rw [if_neg c85] at h
    refine zw_iload_n hX dX2_cellBeside_88 rfl ?_
    refine zw_iconst (v := (1 : Int32)) hX dX2_cellBeside_89 (by decide) ?_
    refine zw_isub hX dX2_cellBeside_90 ?_
    refine zw_goto (tgt := 95) hX dX2_cellBeside_91 (by decide) ?_
    obtain rfl := Option.some.inj h
    exact zw_iret hX hr dX2_cellBeside_95 rfl ⟨rfl, rfl⟩
def zf_X2_fill_J77 (N : Nat) (k : Nat → Int32 → Int32 → Int32 → Int32 → zm_S → Option ((Int32 × zm_S) ⊕ ((Int32) × zm_S))) (a0 : Nat) (i2 : Int32) (i3 : Int32) (i4 : Int32) (i5 : Int32) (i6 : Int32) (t0 : Int32) (S : zm_S) : Option ((Int32 × zm_S) ⊕ ((Int32) × zm_S)) := if t0 = 0 then k a0 i2 i3 i4 (i5 + (1 : Int32)) S else (zg_r S a0 2 6).bind (fun b10 => (za_x S 0 b10 i6).bind (fun v11 => if v11 = (-3 : Int32) then if (576 : Int32) ≤ i3 then k a0 i2 i3 i4 (i5 + (1 : Int32)) S else (zg_r S a0 2 6).bind (fun b12 => (zs_i S b12 i6 i2).bind (fun S13 => (zg_r S13 a0 2 17).bind (fun b14 => (zs_i S13 b14 i3 i6).bind (fun S15 => k a0 i2 (i3 + (1 : Int32)) i4 (i5 + (1 : Int32)) S15)))) else k a0 i2 i3 i4 (i5 + (1 : Int32)) S))
set_option maxHeartbeats 4000000 in
set_option maxRecDepth 100000 in
theorem zt_X2_fill_J77 {p : Program} {l : Launch} {e : Env} {R : Room} {s : State} {m : MethodId} {args : Array Value} {below : List Frame} {meth : Method} {c : Code} {V : zm_V} {mc ms d rc rs : Nat} (hX : zm_X p R s m args meth c RX2 "fill" cX2_fill 8 zk_E V mc ms) (hr : meth.sig.returnType = (some .int)) (hR : R.frames = d ∧ R.locals = 64 * d) (hd : 3 ≤ d) {N : Nat} {k : Nat → Int32 → Int32 → Int32 → Int32 → zm_S → Option ((Int32 × zm_S) ⊕ ((Int32) × zm_S))} {a0 : Nat} {i2 : Int32} {i3 : Int32} {i4 : Int32} {i5 : Int32} {i6 : Int32} {t0 : Int32} {res : (Int32 × zm_S) ⊕ ((Int32) × zm_S)} {out : (Int32 × zm_S)}   (hf : ∀ o, res = .inl o → o = out) (hk : ∀ (x3 : Int32) (S' : zm_S), res = .inr (x3, S') → zw p l e R s m args below meth c (vx_MQ below (zm_Qc zk_E V (zo_i out)) (zm_XC zk_E V zo_x) args s mc ms (fun q => V.2.2.2.1 ≤ q)) 8 zk_E V mc ms 128 [(0, .ref a0), (2, .int i2), (3, .int x3), (4, .int i4)] [] S' rc rs) (hrec : ∀ (i3' : Int32) (i5' : Int32) (S : zm_S), k a0 i2 i3' i4 i5' S = some res → zw p l e R s m args below meth c (vx_MQ below (zm_Qc zk_E V (zo_i out)) (zm_XC zk_E V zo_x) args s mc ms (fun q => V.2.2.2.1 ≤ q)) 8 zk_E V mc ms 28 [(0, .ref a0), (2, .int i2), (3, .int i3'), (4, .int i4), (5, .int i5')] [] S rc rs) {S : zm_S} (h : zf_X2_fill_J77 N k a0 i2 i3 i4 i5 i6 t0 S = some res) : zw p l e R s m args below meth c (vx_MQ below (zm_Qc zk_E V (zo_i out)) (zm_XC zk_E V zo_x) args s mc ms (fun q => V.2.2.2.1 ≤ q)) 8 zk_E V mc ms 77 [(0, .ref a0), (2, .int i2), (3, .int i3), (4, .int i4), (5, .int i5), (6, .int i6)] [.int t0] S rc rs := by
  unfold zf_X2_fill_J77 at h
  refine zw_istore hX dX2_fill_77 (by decide) ?_
  refine zw_iload hX dX2_fill_79 rfl ?_
  refine zw_if_eq (tgt := 122) hX dX2_fill_81 (by decide) (fun c81 => ?_) (fun c81 => ?_)
  · rw [if_pos c81] at h
    refine zw_iinc (v := (i5 + (1 : Int32))) hX dX2_fill_122 rfl rfl (by decide) ?_
    refine zw_goto (tgt := 28) hX dX2_fill_125 (by decide) ?_
    refine zw_sub (lv' := [(0, .ref a0), (2, .int i2), (3, .int i3), (4, .int i4), (5, .int (i5 + (1 : Int32)))]) (List.forall_mem_cons.mpr ⟨rfl, (List.forall_mem_cons.mpr ⟨rfl, (List.forall_mem_cons.mpr ⟨rfl, (List.forall_mem_cons.mpr ⟨rfl, (List.forall_mem_cons.mpr ⟨rfl, zs_nil⟩)⟩)⟩)⟩)⟩) ?_
    exact hrec _ _ _ h
  · rw [if_neg c81] at h
    refine zw_aload_n hX dX2_fill_84 rfl ?_
    obtain ⟨b10, g, h⟩ := zb_some h
    refine zw_getr hX zl_X2_20 dX2_fill_85 g ?_
    refine zw_iload hX dX2_fill_88 rfl ?_
    obtain ⟨v11, g, h⟩ := zb_some h
    refine zw_xi hX dX2_fill_90 g ?_
    refine zw_bipush (v := (-3 : Int32)) hX dX2_fill_91 (by decide) ?_
    refine zw_icmp_ne (tgt := 122) hX dX2_fill_93 (by decide) (fun c93 => ?_) (fun c93 => ?_)
    · rw [if_neg c93] at h
      refine zw_iinc (v := (i5 + (1 : Int32))) hX dX2_fill_122 rfl rfl (by decide) ?_
      refine zw_goto (tgt := 28) hX dX2_fill_125 (by decide) ?_
      refine zw_sub (lv' := [(0, .ref a0), (2, .int i2), (3, .int i3), (4, .int i4), (5, .int (i5 + (1 : Int32)))]) (List.forall_mem_cons.mpr ⟨rfl, (List.forall_mem_cons.mpr ⟨rfl, (List.forall_mem_cons.mpr ⟨rfl, (List.forall_mem_cons.mpr ⟨rfl, (List.forall_mem_cons.mpr ⟨rfl, zs_nil⟩)⟩)⟩)⟩)⟩) ?_
      exact hrec _ _ _ h
    · rw [if_pos c93] at h
      refine zw_iload_n hX dX2_fill_96 rfl ?_
      refine zw_sipush (v := (576 : Int32)) hX dX2_fill_97 (by decide) ?_
      refine zw_icmp_ge (tgt := 122) hX dX2_fill_100 (by decide) (fun c100 => ?_) (fun c100 => ?_)
      · rw [if_pos c100] at h
        refine zw_iinc (v := (i5 + (1 : Int32))) hX dX2_fill_122 rfl rfl (by decide) ?_
        refine zw_goto (tgt := 28) hX dX2_fill_125 (by decide) ?_
        refine zw_sub (lv' := [(0, .ref a0), (2, .int i2), (3, .int i3), (4, .int i4), (5, .int (i5 + (1 : Int32)))]) (List.forall_mem_cons.mpr ⟨rfl, (List.forall_mem_cons.mpr ⟨rfl, (List.forall_mem_cons.mpr ⟨rfl, (List.forall_mem_cons.mpr ⟨rfl, (List.forall_mem_cons.mpr ⟨rfl, zs_nil⟩)⟩)⟩)⟩)⟩) ?_
        exact hrec _ _ _ h
      · rw [if_neg c100] at h
        refine zw_aload_n hX dX2_fill_103 rfl ?_
        obtain ⟨b12, g, h⟩ := zb_some h
        refine zw_getr hX zl_X2_20 dX2_fill_104 g ?_
        refine zw_iload hX dX2_fill_107 rfl ?_
        refine zw_iload_n hX dX2_fill_109 rfl ?_
        obtain ⟨S13, g, h⟩ := zb_some h
        refine zw_si hX dX2_fill_110 g ?_
        refine zw_aload_n hX dX2_fill_111 rfl ?_
        obtain ⟨b14, g, h⟩ := zb_some h
        refine zw_getr hX zl_X2_48 dX2_fill_112 g ?_
        refine zw_iload_n hX dX2_fill_115 rfl ?_
        refine zw_iload hX dX2_fill_116 rfl ?_
        obtain ⟨S15, g, h⟩ := zb_some h
        refine zw_si hX dX2_fill_118 g ?_
        refine zw_iinc (v := (i3 + (1 : Int32))) hX dX2_fill_119 rfl rfl (by decide) ?_
        refine zw_iinc (v := (i5 + (1 : Int32))) hX dX2_fill_122 rfl rfl (by decide) ?_
        refine zw_goto (tgt := 28) hX dX2_fill_125 (by decide) ?_
        refine zw_sub (lv' := [(0, .ref a0), (2, .int i2), (3, .int (i3 + (1 : Int32))), (4, .int i4), (5, .int (i5 + (1 : Int32)))]) (List.forall_mem_cons.mpr ⟨rfl, (List.forall_mem_cons.mpr ⟨rfl, (List.forall_mem_cons.mpr ⟨rfl, (List.forall_mem_cons.mpr ⟨rfl, (List.forall_mem_cons.mpr ⟨rfl, zs_nil⟩)⟩)⟩)⟩)⟩) ?_
        exact hrec _ _ _ h
def zf_X2_fill_J76 (N : Nat) (k : Nat → Int32 → Int32 → Int32 → Int32 → zm_S → Option ((Int32 × zm_S) ⊕ ((Int32) × zm_S))) (a0 : Nat) (i2 : Int32) (i3 : Int32) (i4 : Int32) (i5 : Int32) (i6 : Int32) (S : zm_S) : Option ((Int32 × zm_S) ⊕ ((Int32) × zm_S)) := zf_X2_fill_J77 N (k) a0 i2 i3 i4 i5 i6 (0 : Int32) S
set_option maxHeartbeats 4000000 in
set_option maxRecDepth 100000 in
theorem zt_X2_fill_J76 {p : Program} {l : Launch} {e : Env} {R : Room} {s : State} {m : MethodId} {args : Array Value} {below : List Frame} {meth : Method} {c : Code} {V : zm_V} {mc ms d rc rs : Nat} (hX : zm_X p R s m args meth c RX2 "fill" cX2_fill 8 zk_E V mc ms) (hr : meth.sig.returnType = (some .int)) (hR : R.frames = d ∧ R.locals = 64 * d) (hd : 3 ≤ d) {N : Nat} {k : Nat → Int32 → Int32 → Int32 → Int32 → zm_S → Option ((Int32 × zm_S) ⊕ ((Int32) × zm_S))} {a0 : Nat} {i2 : Int32} {i3 : Int32} {i4 : Int32} {i5 : Int32} {i6 : Int32} {res : (Int32 × zm_S) ⊕ ((Int32) × zm_S)} {out : (Int32 × zm_S)}   (hf : ∀ o, res = .inl o → o = out) (hk : ∀ (x3 : Int32) (S' : zm_S), res = .inr (x3, S') → zw p l e R s m args below meth c (vx_MQ below (zm_Qc zk_E V (zo_i out)) (zm_XC zk_E V zo_x) args s mc ms (fun q => V.2.2.2.1 ≤ q)) 8 zk_E V mc ms 128 [(0, .ref a0), (2, .int i2), (3, .int x3), (4, .int i4)] [] S' rc rs) (hrec : ∀ (i3' : Int32) (i5' : Int32) (S : zm_S), k a0 i2 i3' i4 i5' S = some res → zw p l e R s m args below meth c (vx_MQ below (zm_Qc zk_E V (zo_i out)) (zm_XC zk_E V zo_x) args s mc ms (fun q => V.2.2.2.1 ≤ q)) 8 zk_E V mc ms 28 [(0, .ref a0), (2, .int i2), (3, .int i3'), (4, .int i4), (5, .int i5')] [] S rc rs) {S : zm_S} (h : zf_X2_fill_J76 N k a0 i2 i3 i4 i5 i6 S = some res) : zw p l e R s m args below meth c (vx_MQ below (zm_Qc zk_E V (zo_i out)) (zm_XC zk_E V zo_x) args s mc ms (fun q => V.2.2.2.1 ≤ q)) 8 zk_E V mc ms 76 [(0, .ref a0), (2, .int i2), (3, .int i3), (4, .int i4), (5, .int i5), (6, .int i6)] [] S rc rs := by
  unfold zf_X2_fill_J76 at h
  refine zw_iconst (v := (0 : Int32)) hX dX2_fill_76 (by decide) ?_
  refine zw_sub (lv' := [(0, .ref a0), (2, .int i2), (3, .int i3), (4, .int i4), (5, .int i5), (6, .int i6)]) (List.forall_mem_cons.mpr ⟨rfl, (List.forall_mem_cons.mpr ⟨rfl, (List.forall_mem_cons.mpr ⟨rfl, (List.forall_mem_cons.mpr ⟨rfl, (List.forall_mem_cons.mpr ⟨rfl, (List.forall_mem_cons.mpr ⟨rfl, zs_nil⟩)⟩)⟩)⟩)⟩)⟩) ?_
  exact zt_X2_fill_J77 hX hr hR hd hf hk hrec h
def zf_X2_fill_L28 (N : Nat) : Nat → Nat → Int32 → Int32 → Int32 → Int32 → zm_S → Option ((Int32 × zm_S) ⊕ ((Int32) × zm_S))
  | 0, _, _, _, _, _, _ => none
  | n + 1, a0, i2, i3, i4, i5, S => if (4 : Int32) ≤ i5 then some (.inr (i3, S)) else (zg_r S a0 2 17).bind (fun b5 => (za_x S 0 b5 i4).bind (fun v6 => (zi S a0 2).bind (fun _ => (zf_X2_cellBeside N a0 v6 i5 S).bind (fun r9 => if r9.1 = (-1 : Int32) then zf_X2_fill_J76 N (zf_X2_fill_L28 N n) a0 i2 i3 i4 i5 r9.1 r9.2 else (zg_r r9.2 a0 2 17).bind (fun b16 => (za_x r9.2 0 b16 i4).bind (fun v17 => (zi r9.2 a0 2).bind (fun _ => (zf_X2_wallBeside N a0 v17 i5 r9.2).bind (fun r20 => if r20.1 = (-1 : Int32) then zf_X2_fill_J77 N (zf_X2_fill_L28 N n) a0 i2 i3 i4 i5 r9.1 (1 : Int32) r20.2 else zf_X2_fill_J76 N (zf_X2_fill_L28 N n) a0 i2 i3 i4 i5 r9.1 r20.2))))))))
set_option maxHeartbeats 4000000 in
set_option maxRecDepth 100000 in
theorem zt_X2_fill_L28 {p : Program} {l : Launch} {e : Env} {R : Room} {s : State} {m : MethodId} {args : Array Value} {below : List Frame} {meth : Method} {c : Code} {V : zm_V} {mc ms d rc rs : Nat} (hX : zm_X p R s m args meth c RX2 "fill" cX2_fill 8 zk_E V mc ms) (hr : meth.sig.returnType = (some .int)) (hR : R.frames = d ∧ R.locals = 64 * d) (hd : 3 ≤ d) {N : Nat} {res : (Int32 × zm_S) ⊕ ((Int32) × zm_S)} {out : (Int32 × zm_S)} (a0 : Nat) (i2 : Int32) (i4 : Int32) (hf : ∀ o, res = .inl o → o = out) (hk : ∀ (x3 : Int32) (S' : zm_S), res = .inr (x3, S') → zw p l e R s m args below meth c (vx_MQ below (zm_Qc zk_E V (zo_i out)) (zm_XC zk_E V zo_x) args s mc ms (fun q => V.2.2.2.1 ≤ q)) 8 zk_E V mc ms 128 [(0, .ref a0), (2, .int i2), (3, .int x3), (4, .int i4)] [] S' rc rs) : ∀ (n : Nat) (i3 : Int32) (i5 : Int32) (S : zm_S), zf_X2_fill_L28 N n a0 i2 i3 i4 i5 S = some res → zw p l e R s m args below meth c (vx_MQ below (zm_Qc zk_E V (zo_i out)) (zm_XC zk_E V zo_x) args s mc ms (fun q => V.2.2.2.1 ≤ q)) 8 zk_E V mc ms 28 [(0, .ref a0), (2, .int i2), (3, .int i3), (4, .int i4), (5, .int i5)] [] S rc rs := by
  intro n
  induction n with
  | zero => intro i3 i5 S h; cases h
  | succ n ih =>
    intro i3 i5 S h
    rw [zf_X2_fill_L28] at h
    refine zw_iload hX dX2_fill_28 rfl ?_
    refine zw_iconst (v := (4 : Int32)) hX dX2_fill_30 (by decide) ?_
    refine zw_icmp_ge (tgt := 128) hX dX2_fill_31 (by decide) (fun c31 => ?_) (fun c31 => ?_)
    · rw [if_pos c31] at h
      refine zw_sub (lv' := [(0, .ref a0), (2, .int i2), (3, .int i3), (4, .int i4)]) (List.forall_mem_cons.mpr ⟨rfl, (List.forall_mem_cons.mpr ⟨rfl, (List.forall_mem_cons.mpr ⟨rfl, (List.forall_mem_cons.mpr ⟨rfl, zs_nil⟩)⟩)⟩)⟩) ?_
      exact hk _ _ (Option.some.inj h).symm
    · rw [if_neg c31] at h
      refine zw_aload_n hX dX2_fill_34 rfl ?_
      refine zw_aload_n hX dX2_fill_35 rfl ?_
      obtain ⟨b5, g, h⟩ := zb_some h
      refine zw_getr hX zl_X2_48 dX2_fill_36 g ?_
      refine zw_iload hX dX2_fill_39 rfl ?_
      obtain ⟨v6, g, h⟩ := zb_some h
      refine zw_xi hX dX2_fill_41 g ?_
      refine zw_iload hX dX2_fill_42 rfl ?_
      obtain ⟨_, gi, h⟩ := zb_some h
      obtain ⟨r9, g, h⟩ := zb_some h
      refine zc_Vi (as := [.int v6, .int i5]) hX gi (zt_X2_cellBeside (d := d - 1) (by omega) g) zl_X2_127 rfl dX2_fill_44 ⟨rfl, rfl, Nat.le_of_ble_eq_true rfl⟩ ⟨by omega, by omega⟩ ?_
      refine zw_istore hX dX2_fill_47 (by decide) ?_
      refine zw_iload hX dX2_fill_49 rfl ?_
      refine zw_iconst (v := (-1 : Int32)) hX dX2_fill_51 (by decide) ?_
      refine zw_icmp_eq (tgt := 76) hX dX2_fill_52 (by decide) (fun c52 => ?_) (fun c52 => ?_)
      · rw [if_pos c52] at h
        refine zw_sub (lv' := [(0, .ref a0), (2, .int i2), (3, .int i3), (4, .int i4), (5, .int i5), (6, .int r9.1)]) (List.forall_mem_cons.mpr ⟨rfl, (List.forall_mem_cons.mpr ⟨rfl, (List.forall_mem_cons.mpr ⟨rfl, (List.forall_mem_cons.mpr ⟨rfl, (List.forall_mem_cons.mpr ⟨rfl, (List.forall_mem_cons.mpr ⟨rfl, zs_nil⟩)⟩)⟩)⟩)⟩)⟩) ?_
        exact zt_X2_fill_J76 hX hr hR hd hf hk ih h
      · rw [if_neg c52] at h
        refine zw_aload_n hX dX2_fill_55 rfl ?_
        refine zw_aload_n hX dX2_fill_56 rfl ?_
        obtain ⟨b16, g, h⟩ := zb_some h
        refine zw_getr hX zl_X2_48 dX2_fill_57 g ?_
        refine zw_iload hX dX2_fill_60 rfl ?_
        obtain ⟨v17, g, h⟩ := zb_some h
        refine zw_xi hX dX2_fill_62 g ?_
        refine zw_iload hX dX2_fill_63 rfl ?_
        obtain ⟨_, gi, h⟩ := zb_some h
        obtain ⟨r20, g, h⟩ := zb_some h
        refine zc_Vi (as := [.int v17, .int i5]) hX gi (zt_X2_wallBeside (d := d - 1) (by omega) g) zl_X2_124 rfl dX2_fill_65 ⟨rfl, rfl, Nat.le_of_ble_eq_true rfl⟩ ⟨by omega, by omega⟩ ?_
        refine zw_iconst (v := (-1 : Int32)) hX dX2_fill_68 (by decide) ?_
        refine zw_icmp_ne (tgt := 76) hX dX2_fill_69 (by decide) (fun c69 => ?_) (fun c69 => ?_)
        · rw [if_neg c69] at h
          refine zw_sub (lv' := [(0, .ref a0), (2, .int i2), (3, .int i3), (4, .int i4), (5, .int i5), (6, .int r9.1)]) (List.forall_mem_cons.mpr ⟨rfl, (List.forall_mem_cons.mpr ⟨rfl, (List.forall_mem_cons.mpr ⟨rfl, (List.forall_mem_cons.mpr ⟨rfl, (List.forall_mem_cons.mpr ⟨rfl, (List.forall_mem_cons.mpr ⟨rfl, zs_nil⟩)⟩)⟩)⟩)⟩)⟩) ?_
          exact zt_X2_fill_J76 hX hr hR hd hf hk ih h
        · rw [if_pos c69] at h
          refine zw_iconst (v := (1 : Int32)) hX dX2_fill_72 (by decide) ?_
          refine zw_goto (tgt := 77) hX dX2_fill_73 (by decide) ?_
          refine zw_sub (lv' := [(0, .ref a0), (2, .int i2), (3, .int i3), (4, .int i4), (5, .int i5), (6, .int r9.1)]) (List.forall_mem_cons.mpr ⟨rfl, (List.forall_mem_cons.mpr ⟨rfl, (List.forall_mem_cons.mpr ⟨rfl, (List.forall_mem_cons.mpr ⟨rfl, (List.forall_mem_cons.mpr ⟨rfl, (List.forall_mem_cons.mpr ⟨rfl, zs_nil⟩)⟩)⟩)⟩)⟩)⟩) ?_
          exact zt_X2_fill_J77 hX hr hR hd hf hk ih h
def zf_X2_fill_L19 (N : Nat) : Nat → Nat → Int32 → Int32 → Int32 → zm_S → Option ((Int32 × zm_S) ⊕ ((Int32) × zm_S))
  | 0, _, _, _, _, _ => none
  | n + 1, a0, i2, i3, i4, S => if i3 ≤ i4 then some (.inr (i3, S)) else (zf_X2_fill_L28 N N a0 i2 i3 i4 (0 : Int32) S).bind (fun r => match r with | .inl o => some (.inl o) | .inr (v22, S21) => zf_X2_fill_L19 N n a0 i2 v22 (i4 + (1 : Int32)) S21)
set_option maxHeartbeats 4000000 in
set_option maxRecDepth 100000 in
theorem zt_X2_fill_L19 {p : Program} {l : Launch} {e : Env} {R : Room} {s : State} {m : MethodId} {args : Array Value} {below : List Frame} {meth : Method} {c : Code} {V : zm_V} {mc ms d rc rs : Nat} (hX : zm_X p R s m args meth c RX2 "fill" cX2_fill 8 zk_E V mc ms) (hr : meth.sig.returnType = (some .int)) (hR : R.frames = d ∧ R.locals = 64 * d) (hd : 3 ≤ d) {N : Nat} {res : (Int32 × zm_S) ⊕ ((Int32) × zm_S)} {out : (Int32 × zm_S)} (a0 : Nat) (i2 : Int32) (hf : ∀ o, res = .inl o → o = out) (hk : ∀ (x3 : Int32) (S' : zm_S), res = .inr (x3, S') → zw p l e R s m args below meth c (vx_MQ below (zm_Qc zk_E V (zo_i out)) (zm_XC zk_E V zo_x) args s mc ms (fun q => V.2.2.2.1 ≤ q)) 8 zk_E V mc ms 134 [(3, .int x3)] [] S' rc rs) : ∀ (n : Nat) (i3 : Int32) (i4 : Int32) (S : zm_S), zf_X2_fill_L19 N n a0 i2 i3 i4 S = some res → zw p l e R s m args below meth c (vx_MQ below (zm_Qc zk_E V (zo_i out)) (zm_XC zk_E V zo_x) args s mc ms (fun q => V.2.2.2.1 ≤ q)) 8 zk_E V mc ms 19 [(0, .ref a0), (2, .int i2), (3, .int i3), (4, .int i4)] [] S rc rs := by
  intro n
  induction n with
  | zero => intro i3 i4 S h; cases h
  | succ n ih =>
    intro i3 i4 S h
    rw [zf_X2_fill_L19] at h
    refine zw_iload hX dX2_fill_19 rfl ?_
    refine zw_iload_n hX dX2_fill_21 rfl ?_
    refine zw_icmp_ge (tgt := 134) hX dX2_fill_22 (by decide) (fun c22 => ?_) (fun c22 => ?_)
    · rw [if_pos c22] at h
      refine zw_sub (lv' := [(3, .int i3)]) (List.forall_mem_cons.mpr ⟨rfl, zs_nil⟩) ?_
      exact hk _ _ (Option.some.inj h).symm
    · rw [if_neg c22] at h
      refine zw_iconst (v := (0 : Int32)) hX dX2_fill_25 (by decide) ?_
      refine zw_istore hX dX2_fill_26 (by decide) ?_
      obtain ⟨r, g, h⟩ := zb_some h
      refine zw_sub (lv' := [(0, .ref a0), (2, .int i2), (3, .int i3), (4, .int i4), (5, .int (0 : Int32))]) (List.forall_mem_cons.mpr ⟨rfl, (List.forall_mem_cons.mpr ⟨rfl, (List.forall_mem_cons.mpr ⟨rfl, (List.forall_mem_cons.mpr ⟨rfl, (List.forall_mem_cons.mpr ⟨rfl, zs_nil⟩)⟩)⟩)⟩)⟩) ?_
      refine zt_X2_fill_L28 hX hr hR hd (res := r) (out := out) a0 i2 i4 ?_ ?_ N _ _ _ g
      · intro o ho
        subst ho
        exact hf _ (Option.some.inj h).symm
      · intro v22 S21 hx
        subst hx
        try dsimp only at h
        refine zw_iinc (v := (i4 + (1 : Int32))) hX dX2_fill_128 rfl rfl (by decide) ?_
        refine zw_goto (tgt := 19) hX dX2_fill_131 (by decide) ?_
        refine zw_sub (lv' := [(0, .ref a0), (2, .int i2), (3, .int v22), (4, .int (i4 + (1 : Int32)))]) (List.forall_mem_cons.mpr ⟨rfl, (List.forall_mem_cons.mpr ⟨rfl, (List.forall_mem_cons.mpr ⟨rfl, (List.forall_mem_cons.mpr ⟨rfl, zs_nil⟩)⟩)⟩)⟩) ?_
        exact ih _ _ _ h
def zf_X2_fill (N : Nat) (a0 : Nat) (i1 : Int32) (i2 : Int32) (S : zm_S) : Option (Int32 × zm_S) := (zg_r S a0 2 6).bind (fun b1 => (zs_i S b1 i1 i2).bind (fun S2 => (zg_r S2 a0 2 17).bind (fun b3 => (zs_i S2 b3 (0 : Int32) i1).bind (fun S4 => (zf_X2_fill_L19 N N a0 i2 (1 : Int32) (0 : Int32) S4).bind (fun r => match r with | .inl o => some o | .inr (v24, S23) => some (v24, S23))))))
set_option maxHeartbeats 4000000 in
set_option maxRecDepth 100000 in
theorem zt_X2_fill {l : Launch} {V : zm_V} {N : Nat} {S : zm_S} {out : (Int32 × zm_S)} {d : Nat} {a0 : Nat} {i1 : Int32} {i2 : Int32} (hd : 3 ≤ d) (h : zf_X2_fill N a0 i1 i2 S = some out) : zm_Met l zk_E V yX2_fill (.code yX2_fill cX2_fill 8 (some .int)) d [.ref a0, .int i1, .int i2] S 0 0 (zo_i out) zo_x := by
  refine zm_of (by decide +kernel) (Nat.le_of_ble_eq_true rfl) ?_
  intro p e R s m args below meth c hRR hX hr hxt
  have hR : R.frames = d ∧ R.locals = 64 * d := by rw [hRR]; exact ⟨rfl, rfl⟩
  have hX : zm_X p R s m args meth c RX2 "fill" cX2_fill 8 zk_E V 0 0 := hX
  unfold zf_X2_fill at h
  refine zw_sub (lv' := [(0, .ref a0), (1, .int i1), (2, .int i2)]) (List.forall_mem_cons.mpr ⟨rfl, (List.forall_mem_cons.mpr ⟨rfl, (List.forall_mem_cons.mpr ⟨rfl, zs_nil⟩)⟩)⟩) ?_
  refine zw_iconst (v := (1 : Int32)) hX dX2_fill_0 (by decide) ?_
  refine zw_istore_n hX dX2_fill_1 (by decide) ?_
  refine zw_aload_n hX dX2_fill_2 rfl ?_
  obtain ⟨b1, g, h⟩ := zb_some h
  refine zw_getr hX zl_X2_20 dX2_fill_3 g ?_
  refine zw_iload_n hX dX2_fill_6 rfl ?_
  refine zw_iload_n hX dX2_fill_7 rfl ?_
  obtain ⟨S2, g, h⟩ := zb_some h
  refine zw_si hX dX2_fill_8 g ?_
  refine zw_aload_n hX dX2_fill_9 rfl ?_
  obtain ⟨b3, g, h⟩ := zb_some h
  refine zw_getr hX zl_X2_48 dX2_fill_10 g ?_
  refine zw_iconst (v := (0 : Int32)) hX dX2_fill_13 (by decide) ?_
  refine zw_iload_n hX dX2_fill_14 rfl ?_
  obtain ⟨S4, g, h⟩ := zb_some h
  refine zw_si hX dX2_fill_15 g ?_
  refine zw_iconst (v := (0 : Int32)) hX dX2_fill_16 (by decide) ?_
  refine zw_istore hX dX2_fill_17 (by decide) ?_
  obtain ⟨r, g, h⟩ := zb_some h
  refine zw_sub (lv' := [(0, .ref a0), (2, .int i2), (3, .int (1 : Int32)), (4, .int (0 : Int32))]) (List.forall_mem_cons.mpr ⟨rfl, (List.forall_mem_cons.mpr ⟨rfl, (List.forall_mem_cons.mpr ⟨rfl, (List.forall_mem_cons.mpr ⟨rfl, zs_nil⟩)⟩)⟩)⟩) ?_
  refine zt_X2_fill_L19 hX hr hR hd (res := r) (out := out) a0 i2 ?_ ?_ N _ _ _ g
  · intro o ho
    subst ho
    exact Option.some.inj h
  · intro v24 S23 hx
    subst hx
    try dsimp only at h
    refine zw_iload_n hX dX2_fill_134 rfl ?_
    obtain rfl := Option.some.inj h
    exact zw_iret hX hr dX2_fill_135 rfl ⟨rfl, rfl⟩
def zf_X2_fillFromEdge (N : Nat) (a0 : Nat) (i1 : Int32) (i2 : Int32) (S : zm_S) : Option (Unit × zm_S) := (zg_r S a0 2 6).bind (fun b1 => (za_x S 0 b1 i1).bind (fun v2 => if v2 = (-3 : Int32) then (zi S a0 2).bind (fun _ => (zf_X2_wallBeside N a0 i1 i2 S).bind (fun r5 => if r5.1 = (-1 : Int32) then (zi r5.2 a0 2).bind (fun _ => (zf_X2_fill N a0 i1 (-1 : Int32) r5.2).bind (fun r8 => some ((), r8.2))) else some ((), r5.2))) else some ((), S)))
set_option maxHeartbeats 4000000 in
set_option maxRecDepth 100000 in
theorem zt_X2_fillFromEdge {l : Launch} {V : zm_V} {N : Nat} {S : zm_S} {out : (Unit × zm_S)} {d : Nat} {a0 : Nat} {i1 : Int32} {i2 : Int32} (hd : 4 ≤ d) (h : zf_X2_fillFromEdge N a0 i1 i2 S = some out) : zm_Met l zk_E V yX2_fillFromEdge (.code yX2_fillFromEdge cX2_fillFromEdge 3 none) d [.ref a0, .int i1, .int i2] S 0 0 (zo_v out) zo_x := by
  refine zm_of (by decide +kernel) (Nat.le_of_ble_eq_true rfl) ?_
  intro p e R s m args below meth c hRR hX hr hxt
  have hR : R.frames = d ∧ R.locals = 64 * d := by rw [hRR]; exact ⟨rfl, rfl⟩
  have hX : zm_X p R s m args meth c RX2 "fillFromEdge" cX2_fillFromEdge 3 zk_E V 0 0 := hX
  unfold zf_X2_fillFromEdge at h
  refine zw_sub (lv' := [(0, .ref a0), (1, .int i1), (2, .int i2)]) (List.forall_mem_cons.mpr ⟨rfl, (List.forall_mem_cons.mpr ⟨rfl, (List.forall_mem_cons.mpr ⟨rfl, zs_nil⟩)⟩)⟩) ?_
  refine zw_aload_n hX dX2_fillFromEdge_0 rfl ?_
  obtain ⟨b1, g, h⟩ := zb_some h
  refine zw_getr hX zl_X2_20 dX2_fillFromEdge_1 g ?_
  refine zw_iload_n hX dX2_fillFromEdge_4 rfl ?_
  obtain ⟨v2, g, h⟩ := zb_some h
  refine zw_xi hX dX2_fillFromEdge_5 g ?_
  refine zw_bipush (v := (-3 : Int32)) hX dX2_fillFromEdge_6 (by decide) ?_
  refine zw_icmp_ne (tgt := 28) hX dX2_fillFromEdge_8 (by decide) (fun c8 => ?_) (fun c8 => ?_)
  · rw [if_neg c8] at h
    obtain rfl := Option.some.inj h
    exact zw_vret hX hr dX2_fillFromEdge_28 ⟨rfl, rfl⟩
  · rw [if_pos c8] at h
    refine zw_aload_n hX dX2_fillFromEdge_11 rfl ?_
    refine zw_iload_n hX dX2_fillFromEdge_12 rfl ?_
    refine zw_iload_n hX dX2_fillFromEdge_13 rfl ?_
    obtain ⟨_, gi, h⟩ := zb_some h
    obtain ⟨r5, g, h⟩ := zb_some h
    refine zc_Vi (as := [.int i1, .int i2]) hX gi (zt_X2_wallBeside (d := d - 1) (by omega) g) zl_X2_124 rfl dX2_fillFromEdge_14 ⟨rfl, rfl, Nat.le_of_ble_eq_true rfl⟩ ⟨by omega, by omega⟩ ?_
    refine zw_iconst (v := (-1 : Int32)) hX dX2_fillFromEdge_17 (by decide) ?_
    refine zw_icmp_ne (tgt := 28) hX dX2_fillFromEdge_18 (by decide) (fun c18 => ?_) (fun c18 => ?_)
    · rw [if_neg c18] at h
      obtain rfl := Option.some.inj h
      exact zw_vret hX hr dX2_fillFromEdge_28 ⟨rfl, rfl⟩
    · rw [if_pos c18] at h
      refine zw_aload_n hX dX2_fillFromEdge_21 rfl ?_
      refine zw_iload_n hX dX2_fillFromEdge_22 rfl ?_
      refine zw_iconst (v := (-1 : Int32)) hX dX2_fillFromEdge_23 (by decide) ?_
      obtain ⟨_, gi, h⟩ := zb_some h
      obtain ⟨r8, g, h⟩ := zb_some h
      refine zc_Vi (as := [.int i1, .int (-1 : Int32)]) hX gi (zt_X2_fill (d := d - 1) (by omega) g) zl_X2_122 rfl dX2_fillFromEdge_24 ⟨rfl, rfl, Nat.le_of_ble_eq_true rfl⟩ ⟨by omega, by omega⟩ ?_
      refine zw_pop hX dX2_fillFromEdge_27 rfl ?_
      obtain rfl := Option.some.inj h
      exact zw_vret hX hr dX2_fillFromEdge_28 ⟨rfl, rfl⟩
def zf_X2_fillSpaces_L11 (N : Nat) : Nat → Nat → Int32 → zm_S → Option ((Unit × zm_S) ⊕ ((Unit) × zm_S))
  | 0, _, _, _ => none
  | n + 1, a0, i1, S => if (24 : Int32) ≤ i1 then some (.inr ((), S)) else (zf_X2_cellNumber N (23 : Int32) i1 S).bind (fun r7 => (zi r7.2 a0 2).bind (fun _ => (zf_X2_fillFromEdge N a0 r7.1 (0 : Int32) r7.2).bind (fun r10 => (zf_X2_cellNumber N (0 : Int32) i1 r10.2).bind (fun r13 => (zi r13.2 a0 2).bind (fun _ => (zf_X2_fillFromEdge N a0 r13.1 (1 : Int32) r13.2).bind (fun r16 => (zf_X2_cellNumber N i1 (23 : Int32) r16.2).bind (fun r19 => (zi r19.2 a0 2).bind (fun _ => (zf_X2_fillFromEdge N a0 r19.1 (2 : Int32) r19.2).bind (fun r22 => (zf_X2_cellNumber N i1 (0 : Int32) r22.2).bind (fun r25 => (zi r25.2 a0 2).bind (fun _ => (zf_X2_fillFromEdge N a0 r25.1 (3 : Int32) r25.2).bind (fun r28 => zf_X2_fillSpaces_L11 N n a0 (i1 + (1 : Int32)) r28.2))))))))))))
set_option maxHeartbeats 4000000 in
set_option maxRecDepth 100000 in
theorem zt_X2_fillSpaces_L11 {p : Program} {l : Launch} {e : Env} {R : Room} {s : State} {m : MethodId} {args : Array Value} {below : List Frame} {meth : Method} {c : Code} {V : zm_V} {mc ms d rc rs : Nat} (hX : zm_X p R s m args meth c RX2 "fillSpaces" cX2_fillSpaces 2 zk_E V mc ms) (hr : meth.sig.returnType = none) (hR : R.frames = d ∧ R.locals = 64 * d) (hd : 5 ≤ d) {N : Nat} {res : (Unit × zm_S) ⊕ ((Unit) × zm_S)} {out : (Unit × zm_S)} (a0 : Nat) (hf : ∀ o, res = .inl o → o = out) (hk : ∀ (S' : zm_S), res = .inr ((), S') → zw p l e R s m args below meth c (vx_MQ below (zm_Qc zk_E V (zo_v out)) (zm_XC zk_E V zo_x) args s mc ms (fun q => V.2.2.2.1 ≤ q)) 2 zk_E V mc ms 65 [(0, .ref a0)] [] S' rc rs) : ∀ (n : Nat) (i1 : Int32) (S : zm_S), zf_X2_fillSpaces_L11 N n a0 i1 S = some res → zw p l e R s m args below meth c (vx_MQ below (zm_Qc zk_E V (zo_v out)) (zm_XC zk_E V zo_x) args s mc ms (fun q => V.2.2.2.1 ≤ q)) 2 zk_E V mc ms 11 [(0, .ref a0), (1, .int i1)] [] S rc rs := by
  intro n
  induction n with
  | zero => intro i1 S h; cases h
  | succ n ih =>
    intro i1 S h
    rw [zf_X2_fillSpaces_L11] at h
    refine zw_iload_n hX dX2_fillSpaces_11 rfl ?_
    refine zw_bipush (v := (24 : Int32)) hX dX2_fillSpaces_12 (by decide) ?_
    refine zw_icmp_ge (tgt := 65) hX dX2_fillSpaces_14 (by decide) (fun c14 => ?_) (fun c14 => ?_)
    · rw [if_pos c14] at h
      refine zw_sub (lv' := [(0, .ref a0)]) (List.forall_mem_cons.mpr ⟨rfl, zs_nil⟩) ?_
      exact hk  _ (Option.some.inj h).symm
    · rw [if_neg c14] at h
      refine zw_aload_n hX dX2_fillSpaces_17 rfl ?_
      refine zw_bipush (v := (23 : Int32)) hX dX2_fillSpaces_18 (by decide) ?_
      refine zw_iload_n hX dX2_fillSpaces_20 rfl ?_
      obtain ⟨r7, g, h⟩ := zb_some h
      refine zc_Si (as := [.int (23 : Int32), .int i1]) hX (zt_X2_cellNumber (d := d - 1) (by omega) g) zl_X2_114 dX2_fillSpaces_21 ⟨rfl, rfl, Nat.le_of_ble_eq_true rfl⟩ ⟨by omega, by omega⟩ ?_
      refine zw_iconst (v := (0 : Int32)) hX dX2_fillSpaces_24 (by decide) ?_
      obtain ⟨_, gi, h⟩ := zb_some h
      obtain ⟨r10, g, h⟩ := zb_some h
      refine zc_Vv (as := [.int r7.1, .int (0 : Int32)]) hX gi (zt_X2_fillFromEdge (d := d - 1) (by omega) g) zl_X2_118 rfl dX2_fillSpaces_25 ⟨rfl, rfl, Nat.le_of_ble_eq_true rfl⟩ ⟨by omega, by omega⟩ ?_
      refine zw_aload_n hX dX2_fillSpaces_28 rfl ?_
      refine zw_iconst (v := (0 : Int32)) hX dX2_fillSpaces_29 (by decide) ?_
      refine zw_iload_n hX dX2_fillSpaces_30 rfl ?_
      obtain ⟨r13, g, h⟩ := zb_some h
      refine zc_Si (as := [.int (0 : Int32), .int i1]) hX (zt_X2_cellNumber (d := d - 1) (by omega) g) zl_X2_114 dX2_fillSpaces_31 ⟨rfl, rfl, Nat.le_of_ble_eq_true rfl⟩ ⟨by omega, by omega⟩ ?_
      refine zw_iconst (v := (1 : Int32)) hX dX2_fillSpaces_34 (by decide) ?_
      obtain ⟨_, gi, h⟩ := zb_some h
      obtain ⟨r16, g, h⟩ := zb_some h
      refine zc_Vv (as := [.int r13.1, .int (1 : Int32)]) hX gi (zt_X2_fillFromEdge (d := d - 1) (by omega) g) zl_X2_118 rfl dX2_fillSpaces_35 ⟨rfl, rfl, Nat.le_of_ble_eq_true rfl⟩ ⟨by omega, by omega⟩ ?_
      refine zw_aload_n hX dX2_fillSpaces_38 rfl ?_
      refine zw_iload_n hX dX2_fillSpaces_39 rfl ?_
      refine zw_bipush (v := (23 : Int32)) hX dX2_fillSpaces_40 (by decide) ?_
      obtain ⟨r19, g, h⟩ := zb_some h
      refine zc_Si (as := [.int i1, .int (23 : Int32)]) hX (zt_X2_cellNumber (d := d - 1) (by omega) g) zl_X2_114 dX2_fillSpaces_42 ⟨rfl, rfl, Nat.le_of_ble_eq_true rfl⟩ ⟨by omega, by omega⟩ ?_
      refine zw_iconst (v := (2 : Int32)) hX dX2_fillSpaces_45 (by decide) ?_
      obtain ⟨_, gi, h⟩ := zb_some h
      obtain ⟨r22, g, h⟩ := zb_some h
      refine zc_Vv (as := [.int r19.1, .int (2 : Int32)]) hX gi (zt_X2_fillFromEdge (d := d - 1) (by omega) g) zl_X2_118 rfl dX2_fillSpaces_46 ⟨rfl, rfl, Nat.le_of_ble_eq_true rfl⟩ ⟨by omega, by omega⟩ ?_
      refine zw_aload_n hX dX2_fillSpaces_49 rfl ?_
      refine zw_iload_n hX dX2_fillSpaces_50 rfl ?_
      refine zw_iconst (v := (0 : Int32)) hX dX2_fillSpaces_51 (by decide) ?_
      obtain ⟨r25, g, h⟩ := zb_some h
      refine zc_Si (as := [.int i1, .int (0 : Int32)]) hX (zt_X2_cellNumber (d := d - 1) (by omega) g) zl_X2_114 dX2_fillSpaces_52 ⟨rfl, rfl, Nat.le_of_ble_eq_true rfl⟩ ⟨by omega, by omega⟩ ?_
      refine zw_iconst (v := (3 : Int32)) hX dX2_fillSpaces_55 (by decide) ?_
      obtain ⟨_, gi, h⟩ := zb_some h
      obtain ⟨r28, g, h⟩ := zb_some h
      refine zc_Vv (as := [.int r25.1, .int (3 : Int32)]) hX gi (zt_X2_fillFromEdge (d := d - 1) (by omega) g) zl_X2_118 rfl dX2_fillSpaces_56 ⟨rfl, rfl, Nat.le_of_ble_eq_true rfl⟩ ⟨by omega, by omega⟩ ?_
      refine zw_iinc (v := (i1 + (1 : Int32))) hX dX2_fillSpaces_59 rfl rfl (by decide) ?_
      refine zw_goto (tgt := 11) hX dX2_fillSpaces_62 (by decide) ?_
      refine zw_sub (lv' := [(0, .ref a0), (1, .int (i1 + (1 : Int32)))]) (List.forall_mem_cons.mpr ⟨rfl, (List.forall_mem_cons.mpr ⟨rfl, zs_nil⟩)⟩) ?_
      exact ih _ _ h
def zf_X2_fillSpaces_L72 (N : Nat) : Nat → Nat → Int32 → zm_S → Option ((Unit × zm_S) ⊕ ((Unit) × zm_S))
  | 0, _, _, _ => none
  | n + 1, a0, i1, S => if (576 : Int32) ≤ i1 then some (.inr ((), S)) else (zg_r S a0 2 6).bind (fun b31 => (za_x S 0 b31 i1).bind (fun v32 => if v32 = (-3 : Int32) then (zg_i S a0 2 3).bind (fun v33 => if (100 : Int32) ≤ v33 then zf_X2_fillSpaces_L72 N n a0 (i1 + (1 : Int32)) S else (zg_r S a0 2 10).bind (fun b34 => (zg_i S a0 2 3).bind (fun v35 => (zg_i S a0 2 3).bind (fun v36 => (zi S a0 2).bind (fun _ => (zf_X2_fill N a0 i1 v36 S).bind (fun r39 => (zs_i r39.2 b34 v35 r39.1).bind (fun S40 => (zg_i S40 a0 2 3).bind (fun v41 => (zp S40 a0 2 3 (.int (v41 + (1 : Int32)))).bind (fun S42 => zf_X2_fillSpaces_L72 N n a0 (i1 + (1 : Int32)) S42))))))))) else zf_X2_fillSpaces_L72 N n a0 (i1 + (1 : Int32)) S))
set_option maxHeartbeats 4000000 in
set_option maxRecDepth 100000 in
theorem zt_X2_fillSpaces_L72 {p : Program} {l : Launch} {e : Env} {R : Room} {s : State} {m : MethodId} {args : Array Value} {below : List Frame} {meth : Method} {c : Code} {V : zm_V} {mc ms d rc rs : Nat} (hX : zm_X p R s m args meth c RX2 "fillSpaces" cX2_fillSpaces 2 zk_E V mc ms) (hr : meth.sig.returnType = none) (hR : R.frames = d ∧ R.locals = 64 * d) (hd : 5 ≤ d) {N : Nat} {res : (Unit × zm_S) ⊕ ((Unit) × zm_S)} {out : (Unit × zm_S)} (a0 : Nat) (hf : ∀ o, res = .inl o → o = out) (hk : ∀ (S' : zm_S), res = .inr ((), S') → zw p l e R s m args below meth c (vx_MQ below (zm_Qc zk_E V (zo_v out)) (zm_XC zk_E V zo_x) args s mc ms (fun q => V.2.2.2.1 ≤ q)) 2 zk_E V mc ms 133 [] [] S' rc rs) : ∀ (n : Nat) (i1 : Int32) (S : zm_S), zf_X2_fillSpaces_L72 N n a0 i1 S = some res → zw p l e R s m args below meth c (vx_MQ below (zm_Qc zk_E V (zo_v out)) (zm_XC zk_E V zo_x) args s mc ms (fun q => V.2.2.2.1 ≤ q)) 2 zk_E V mc ms 72 [(0, .ref a0), (1, .int i1)] [] S rc rs := by
  intro n
  induction n with
  | zero => intro i1 S h; cases h
  | succ n ih =>
    intro i1 S h
    rw [zf_X2_fillSpaces_L72] at h
    refine zw_iload_n hX dX2_fillSpaces_72 rfl ?_
    refine zw_sipush (v := (576 : Int32)) hX dX2_fillSpaces_73 (by decide) ?_
    refine zw_icmp_ge (tgt := 133) hX dX2_fillSpaces_76 (by decide) (fun c76 => ?_) (fun c76 => ?_)
    · rw [if_pos c76] at h
      refine zw_sub (lv' := []) zs_nil ?_
      exact hk  _ (Option.some.inj h).symm
    · rw [if_neg c76] at h
      refine zw_aload_n hX dX2_fillSpaces_79 rfl ?_
      obtain ⟨b31, g, h⟩ := zb_some h
      refine zw_getr hX zl_X2_20 dX2_fillSpaces_80 g ?_
      refine zw_iload_n hX dX2_fillSpaces_83 rfl ?_
      obtain ⟨v32, g, h⟩ := zb_some h
      refine zw_xi hX dX2_fillSpaces_84 g ?_
      refine zw_bipush (v := (-3 : Int32)) hX dX2_fillSpaces_85 (by decide) ?_
      refine zw_icmp_ne (tgt := 127) hX dX2_fillSpaces_87 (by decide) (fun c87 => ?_) (fun c87 => ?_)
      · rw [if_neg c87] at h
        refine zw_iinc (v := (i1 + (1 : Int32))) hX dX2_fillSpaces_127 rfl rfl (by decide) ?_
        refine zw_goto (tgt := 72) hX dX2_fillSpaces_130 (by decide) ?_
        refine zw_sub (lv' := [(0, .ref a0), (1, .int (i1 + (1 : Int32)))]) (List.forall_mem_cons.mpr ⟨rfl, (List.forall_mem_cons.mpr ⟨rfl, zs_nil⟩)⟩) ?_
        exact ih _ _ h
      · rw [if_pos c87] at h
        refine zw_aload_n hX dX2_fillSpaces_90 rfl ?_
        obtain ⟨v33, g, h⟩ := zb_some h
        refine zw_geti hX zl_X2_58 dX2_fillSpaces_91 g ?_
        refine zw_bipush (v := (100 : Int32)) hX dX2_fillSpaces_94 (by decide) ?_
        refine zw_icmp_ge (tgt := 127) hX dX2_fillSpaces_96 (by decide) (fun c96 => ?_) (fun c96 => ?_)
        · rw [if_pos c96] at h
          refine zw_iinc (v := (i1 + (1 : Int32))) hX dX2_fillSpaces_127 rfl rfl (by decide) ?_
          refine zw_goto (tgt := 72) hX dX2_fillSpaces_130 (by decide) ?_
          refine zw_sub (lv' := [(0, .ref a0), (1, .int (i1 + (1 : Int32)))]) (List.forall_mem_cons.mpr ⟨rfl, (List.forall_mem_cons.mpr ⟨rfl, zs_nil⟩)⟩) ?_
          exact ih _ _ h
        · rw [if_neg c96] at h
          refine zw_aload_n hX dX2_fillSpaces_99 rfl ?_
          obtain ⟨b34, g, h⟩ := zb_some h
          refine zw_getr hX zl_X2_33 dX2_fillSpaces_100 g ?_
          refine zw_aload_n hX dX2_fillSpaces_103 rfl ?_
          obtain ⟨v35, g, h⟩ := zb_some h
          refine zw_geti hX zl_X2_58 dX2_fillSpaces_104 g ?_
          refine zw_aload_n hX dX2_fillSpaces_107 rfl ?_
          refine zw_iload_n hX dX2_fillSpaces_108 rfl ?_
          refine zw_aload_n hX dX2_fillSpaces_109 rfl ?_
          obtain ⟨v36, g, h⟩ := zb_some h
          refine zw_geti hX zl_X2_58 dX2_fillSpaces_110 g ?_
          obtain ⟨_, gi, h⟩ := zb_some h
          obtain ⟨r39, g, h⟩ := zb_some h
          refine zc_Vi (as := [.int i1, .int v36]) hX gi (zt_X2_fill (d := d - 1) (by omega) g) zl_X2_122 rfl dX2_fillSpaces_113 ⟨rfl, rfl, Nat.le_of_ble_eq_true rfl⟩ ⟨by omega, by omega⟩ ?_
          obtain ⟨S40, g, h⟩ := zb_some h
          refine zw_si hX dX2_fillSpaces_116 g ?_
          refine zw_aload_n hX dX2_fillSpaces_117 rfl ?_
          refine zw_dup hX dX2_fillSpaces_118 rfl ?_
          obtain ⟨v41, g, h⟩ := zb_some h
          refine zw_geti hX zl_X2_58 dX2_fillSpaces_119 g ?_
          refine zw_iconst (v := (1 : Int32)) hX dX2_fillSpaces_122 (by decide) ?_
          refine zw_iadd hX dX2_fillSpaces_123 ?_
          obtain ⟨S42, g, h⟩ := zb_some h
          refine zw_putv hX zl_X2_58 zt_2_3 dX2_fillSpaces_124 rfl rfl g ?_
          refine zw_iinc (v := (i1 + (1 : Int32))) hX dX2_fillSpaces_127 rfl rfl (by decide) ?_
          refine zw_goto (tgt := 72) hX dX2_fillSpaces_130 (by decide) ?_
          refine zw_sub (lv' := [(0, .ref a0), (1, .int (i1 + (1 : Int32)))]) (List.forall_mem_cons.mpr ⟨rfl, (List.forall_mem_cons.mpr ⟨rfl, zs_nil⟩)⟩) ?_
          exact ih _ _ h
def zf_X2_fillSpaces (N : Nat) (a0 : Nat) (S : zm_S) : Option (Unit × zm_S) := (zg_r S a0 2 6).bind (fun b1 => (zf_J7_fill_53178 N b1 (-3 : Int32) S).bind (fun r4 => (zf_X2_fillSpaces_L11 N N a0 (0 : Int32) r4.2).bind (fun r => match r with | .inl o => some o | .inr (_, S29) => (zp S29 a0 2 3 (.int (0 : Int32))).bind (fun S30 => (zf_X2_fillSpaces_L72 N N a0 (0 : Int32) S30).bind (fun r => match r with | .inl o => some o | .inr (_, S43) => some ((), S43))))))
set_option maxHeartbeats 4000000 in
set_option maxRecDepth 100000 in
theorem zt_X2_fillSpaces {l : Launch} {V : zm_V} {N : Nat} {S : zm_S} {out : (Unit × zm_S)} {d : Nat} {a0 : Nat} (hd : 5 ≤ d) (h : zf_X2_fillSpaces N a0 S = some out) : zm_Met l zk_E V yX2_fillSpaces (.code yX2_fillSpaces cX2_fillSpaces 2 none) d [.ref a0] S 0 0 (zo_v out) zo_x := by
  refine zm_of (by decide +kernel) (Nat.le_of_ble_eq_true rfl) ?_
  intro p e R s m args below meth c hRR hX hr hxt
  have hR : R.frames = d ∧ R.locals = 64 * d := by rw [hRR]; exact ⟨rfl, rfl⟩
  have hX : zm_X p R s m args meth c RX2 "fillSpaces" cX2_fillSpaces 2 zk_E V 0 0 := hX
  unfold zf_X2_fillSpaces at h
  refine zw_sub (lv' := [(0, .ref a0)]) (List.forall_mem_cons.mpr ⟨rfl, zs_nil⟩) ?_
  refine zw_aload_n hX dX2_fillSpaces_0 rfl ?_
  obtain ⟨b1, g, h⟩ := zb_some h
  refine zw_getr hX zl_X2_20 dX2_fillSpaces_1 g ?_
  refine zw_bipush (v := (-3 : Int32)) hX dX2_fillSpaces_4 (by decide) ?_
  obtain ⟨r4, g, h⟩ := zb_some h
  refine zc_Sv (as := [.ref b1, .int (-3 : Int32)]) hX (zt_J7_fill_53178 (d := d - 1) (by omega) g) zl_X2_88 dX2_fillSpaces_6 ⟨rfl, rfl, Nat.le_of_ble_eq_true rfl⟩ ⟨by omega, by omega⟩ ?_
  refine zw_iconst (v := (0 : Int32)) hX dX2_fillSpaces_9 (by decide) ?_
  refine zw_istore_n hX dX2_fillSpaces_10 (by decide) ?_
  obtain ⟨r, g, h⟩ := zb_some h
  refine zw_sub (lv' := [(0, .ref a0), (1, .int (0 : Int32))]) (List.forall_mem_cons.mpr ⟨rfl, (List.forall_mem_cons.mpr ⟨rfl, zs_nil⟩)⟩) ?_
  refine zt_X2_fillSpaces_L11 hX hr hR hd (res := r) (out := out) a0 ?_ ?_ N _ _ g
  · intro o ho
    subst ho
    exact Option.some.inj h
  · intro  S29 hx
    subst hx
    try dsimp only at h
    refine zw_aload_n hX dX2_fillSpaces_65 rfl ?_
    refine zw_iconst (v := (0 : Int32)) hX dX2_fillSpaces_66 (by decide) ?_
    obtain ⟨S30, g, h⟩ := zb_some h
    refine zw_putv hX zl_X2_58 zt_2_3 dX2_fillSpaces_67 rfl rfl g ?_
    refine zw_iconst (v := (0 : Int32)) hX dX2_fillSpaces_70 (by decide) ?_
    refine zw_istore_n hX dX2_fillSpaces_71 (by decide) ?_
    obtain ⟨r, g, h⟩ := zb_some h
    refine zw_sub (lv' := [(0, .ref a0), (1, .int (0 : Int32))]) (List.forall_mem_cons.mpr ⟨rfl, (List.forall_mem_cons.mpr ⟨rfl, zs_nil⟩)⟩) ?_
    refine zt_X2_fillSpaces_L72 hX hr hR hd (res := r) (out := out) a0 ?_ ?_ N _ _ g
    · intro o ho
      subst ho
      exact Option.some.inj h
    · intro  S43 hx
      subst hx
      try dsimp only at h
      obtain rfl := Option.some.inj h
      exact zw_vret hX hr dX2_fillSpaces_133 ⟨rfl, rfl⟩
def zf_X2_leftOf_J18 (N : Nat) (i2 : Int32) (i3 : Int32) (t0 : Nat) (t1 : Int32) (S : zm_S) : Option (Int32 × zm_S) := if i3 < (2 : Int32) then (zi S t0 2).bind (fun _ => (zf_X2_spaceAt N t0 t1 i2 S).bind (fun r3 => some (r3.1, r3.2))) else (zi S t0 2).bind (fun _ => (zf_X2_spaceAt N t0 t1 (i2 - (1 : Int32)) S).bind (fun r6 => some (r6.1, r6.2)))
set_option maxHeartbeats 4000000 in
set_option maxRecDepth 100000 in
theorem zt_X2_leftOf_J18 {p : Program} {l : Launch} {e : Env} {R : Room} {s : State} {m : MethodId} {args : Array Value} {below : List Frame} {meth : Method} {c : Code} {V : zm_V} {mc ms d rc rs : Nat} (hX : zm_X p R s m args meth c RX2 "leftOf" cX2_leftOf 4 zk_E V mc ms) (hr : meth.sig.returnType = (some .int)) (hR : R.frames = d ∧ R.locals = 64 * d) (hd : 2 ≤ d) {N : Nat} {i2 : Int32} {i3 : Int32} {t0 : Nat} {t1 : Int32} {out : (Int32 × zm_S)} {S : zm_S} (h : zf_X2_leftOf_J18 N i2 i3 t0 t1 S = some out) : zw p l e R s m args below meth c (vx_MQ below (zm_Qc zk_E V (zo_i out)) (zm_XC zk_E V zo_x) args s mc ms (fun q => V.2.2.2.1 ≤ q)) 4 zk_E V mc ms 18 [(2, .int i2), (3, .int i3)] [.int t1, .ref t0] S rc rs := by
  unfold zf_X2_leftOf_J18 at h
  refine zw_iload_n hX dX2_leftOf_18 rfl ?_
  refine zw_iconst (v := (2 : Int32)) hX dX2_leftOf_19 (by decide) ?_
  refine zw_icmp_lt (tgt := 29) hX dX2_leftOf_20 (by decide) (fun c20 => ?_) (fun c20 => ?_)
  · rw [if_pos c20] at h
    refine zw_iload_n hX dX2_leftOf_29 rfl ?_
    obtain ⟨_, gi, h⟩ := zb_some h
    obtain ⟨r3, g, h⟩ := zb_some h
    refine zc_Vi (as := [.int t1, .int i2]) hX gi (zt_X2_spaceAt (d := d - 1) (by omega) g) zl_X2_136 rfl dX2_leftOf_30 ⟨rfl, rfl, Nat.le_of_ble_eq_true rfl⟩ ⟨by omega, by omega⟩ ?_
    obtain rfl := Option.some.inj h
    exact zw_iret hX hr dX2_leftOf_33 rfl ⟨rfl, rfl⟩
  · rw [if_neg c20] at h
    refine zw_iload_n hX dX2_leftOf_23 rfl ?_
    refine zw_iconst (v := (1 : Int32)) hX dX2_leftOf_24 (by decide) ?_
    refine zw_isub hX dX2_leftOf_25 ?_
    refine zw_goto (tgt := 30) hX dX2_leftOf_26 (by decide) ?_
    obtain ⟨_, gi, h⟩ := zb_some h
    obtain ⟨r6, g, h⟩ := zb_some h
    refine zc_Vi (as := [.int t1, .int (i2 - (1 : Int32))]) hX gi (zt_X2_spaceAt (d := d - 1) (by omega) g) zl_X2_136 rfl dX2_leftOf_30 ⟨rfl, rfl, Nat.le_of_ble_eq_true rfl⟩ ⟨by omega, by omega⟩ ?_
    obtain rfl := Option.some.inj h
    exact zw_iret hX hr dX2_leftOf_33 rfl ⟨rfl, rfl⟩
def zf_X2_leftOf_J11 (N : Nat) (i1 : Int32) (i2 : Int32) (i3 : Int32) (t0 : Nat) (S : zm_S) : Option (Int32 × zm_S) := zf_X2_leftOf_J18 N i2 i3 t0 (i1 - (1 : Int32)) S
set_option maxHeartbeats 4000000 in
set_option maxRecDepth 100000 in
theorem zt_X2_leftOf_J11 {p : Program} {l : Launch} {e : Env} {R : Room} {s : State} {m : MethodId} {args : Array Value} {below : List Frame} {meth : Method} {c : Code} {V : zm_V} {mc ms d rc rs : Nat} (hX : zm_X p R s m args meth c RX2 "leftOf" cX2_leftOf 4 zk_E V mc ms) (hr : meth.sig.returnType = (some .int)) (hR : R.frames = d ∧ R.locals = 64 * d) (hd : 2 ≤ d) {N : Nat} {i1 : Int32} {i2 : Int32} {i3 : Int32} {t0 : Nat} {out : (Int32 × zm_S)} {S : zm_S} (h : zf_X2_leftOf_J11 N i1 i2 i3 t0 S = some out) : zw p l e R s m args below meth c (vx_MQ below (zm_Qc zk_E V (zo_i out)) (zm_XC zk_E V zo_x) args s mc ms (fun q => V.2.2.2.1 ≤ q)) 4 zk_E V mc ms 11 [(1, .int i1), (2, .int i2), (3, .int i3)] [.ref t0] S rc rs := by
  unfold zf_X2_leftOf_J11 at h
  refine zw_iload_n hX dX2_leftOf_11 rfl ?_
  refine zw_iconst (v := (1 : Int32)) hX dX2_leftOf_12 (by decide) ?_
  refine zw_isub hX dX2_leftOf_13 ?_
  refine zw_goto (tgt := 18) hX dX2_leftOf_14 (by decide) ?_
  refine zw_sub (lv' := [(2, .int i2), (3, .int i3)]) (List.forall_mem_cons.mpr ⟨rfl, (List.forall_mem_cons.mpr ⟨rfl, zs_nil⟩)⟩) ?_
  exact zt_X2_leftOf_J18 hX hr hR hd h
def zf_X2_leftOf (N : Nat) (a0 : Nat) (i1 : Int32) (i2 : Int32) (i3 : Int32) (S : zm_S) : Option (Int32 × zm_S) := if i3 = (1 : Int32) then zf_X2_leftOf_J11 N i1 i2 i3 a0 S else if i3 = (2 : Int32) then zf_X2_leftOf_J11 N i1 i2 i3 a0 S else zf_X2_leftOf_J18 N i2 i3 a0 i1 S
set_option maxHeartbeats 4000000 in
set_option maxRecDepth 100000 in
theorem zt_X2_leftOf {l : Launch} {V : zm_V} {N : Nat} {S : zm_S} {out : (Int32 × zm_S)} {d : Nat} {a0 : Nat} {i1 : Int32} {i2 : Int32} {i3 : Int32} (hd : 2 ≤ d) (h : zf_X2_leftOf N a0 i1 i2 i3 S = some out) : zm_Met l zk_E V yX2_leftOf (.code yX2_leftOf cX2_leftOf 4 (some .int)) d [.ref a0, .int i1, .int i2, .int i3] S 0 0 (zo_i out) zo_x := by
  refine zm_of (by decide +kernel) (Nat.le_of_ble_eq_true rfl) ?_
  intro p e R s m args below meth c hRR hX hr hxt
  have hR : R.frames = d ∧ R.locals = 64 * d := by rw [hRR]; exact ⟨rfl, rfl⟩
  have hX : zm_X p R s m args meth c RX2 "leftOf" cX2_leftOf 4 zk_E V 0 0 := hX
  unfold zf_X2_leftOf at h
  refine zw_sub (lv' := [(0, .ref a0), (1, .int i1), (2, .int i2), (3, .int i3)]) (List.forall_mem_cons.mpr ⟨rfl, (List.forall_mem_cons.mpr ⟨rfl, (List.forall_mem_cons.mpr ⟨rfl, (List.forall_mem_cons.mpr ⟨rfl, zs_nil⟩)⟩)⟩)⟩) ?_
  refine zw_aload_n hX dX2_leftOf_0 rfl ?_
  refine zw_iload_n hX dX2_leftOf_1 rfl ?_
  refine zw_iconst (v := (1 : Int32)) hX dX2_leftOf_2 (by decide) ?_
  refine zw_icmp_eq (tgt := 11) hX dX2_leftOf_3 (by decide) (fun c3 => ?_) (fun c3 => ?_)
  · rw [if_pos c3] at h
    refine zw_sub (lv' := [(1, .int i1), (2, .int i2), (3, .int i3)]) (List.forall_mem_cons.mpr ⟨rfl, (List.forall_mem_cons.mpr ⟨rfl, (List.forall_mem_cons.mpr ⟨rfl, zs_nil⟩)⟩)⟩) ?_
    exact zt_X2_leftOf_J11 hX hr hR hd h
  · rw [if_neg c3] at h
    refine zw_iload_n hX dX2_leftOf_6 rfl ?_
    refine zw_iconst (v := (2 : Int32)) hX dX2_leftOf_7 (by decide) ?_
    refine zw_icmp_ne (tgt := 17) hX dX2_leftOf_8 (by decide) (fun c8 => ?_) (fun c8 => ?_)
    · rw [if_neg c8] at h
      refine zw_iload_n hX dX2_leftOf_17 rfl ?_
      refine zw_sub (lv' := [(2, .int i2), (3, .int i3)]) (List.forall_mem_cons.mpr ⟨rfl, (List.forall_mem_cons.mpr ⟨rfl, zs_nil⟩)⟩) ?_
      exact zt_X2_leftOf_J18 hX hr hR hd h
    · rw [if_pos c8] at h
      refine zw_sub (lv' := [(1, .int i1), (2, .int i2), (3, .int i3)]) (List.forall_mem_cons.mpr ⟨rfl, (List.forall_mem_cons.mpr ⟨rfl, (List.forall_mem_cons.mpr ⟨rfl, zs_nil⟩)⟩)⟩) ?_
      exact zt_X2_leftOf_J11 hX hr hR hd h
def zf_X2_pieceLength_L6 (N : Nat) : Nat → Nat → Int32 → Int32 → Int32 → Int32 → Int32 → zm_S → Option ((Int32 × zm_S) ⊕ ((Int32) × zm_S))
  | 0, _, _, _, _, _, _, _ => none
  | n + 1, a0, i1, i2, i3, i4, i5, S => if (24 : Int32) ≤ i5 then some (.inr (i4, S)) else (zi S a0 2).bind (fun _ => (zf_X2_wallFrom N a0 i1 i2 i3 S).bind (fun r3 => if r3.1 = (-1 : Int32) then some (.inr (i4, r3.2)) else (za_x r3.2 0 2 i3).bind (fun v4 => (za_x r3.2 0 3 i3).bind (fun v5 => (zg_r r3.2 a0 2 5).bind (fun b6 => (za_x r3.2 2 b6 (((i1 + v4) * (25 : Int32)) + (i2 + v5))).bind (fun v7 => if v7 = 0 then zf_X2_pieceLength_L6 N n a0 (i1 + v4) (i2 + v5) i3 (i4 + (1 : Int32)) (i5 + (1 : Int32)) r3.2 else some (.inl (i4, r3.2))))))))
set_option maxHeartbeats 4000000 in
set_option maxRecDepth 100000 in
theorem zt_X2_pieceLength_L6 {p : Program} {l : Launch} {e : Env} {R : Room} {s : State} {m : MethodId} {args : Array Value} {below : List Frame} {meth : Method} {c : Code} {V : zm_V} {mc ms d rc rs : Nat} (hX : zm_X p R s m args meth c RX2 "pieceLength" cX2_pieceLength 6 zk_E V mc ms) (hr : meth.sig.returnType = (some .int)) (hR : R.frames = d ∧ R.locals = 64 * d) (hd : 2 ≤ d) {N : Nat} {res : (Int32 × zm_S) ⊕ ((Int32) × zm_S)} {out : (Int32 × zm_S)} (a0 : Nat) (i3 : Int32) (hf : ∀ o, res = .inl o → o = out) (hk : ∀ (x4 : Int32) (S' : zm_S), res = .inr (x4, S') → zw p l e R s m args below meth c (vx_MQ below (zm_Qc zk_E V (zo_i out)) (zm_XC zk_E V zo_x) args s mc ms (fun q => V.2.2.2.1 ≤ q)) 6 zk_E V mc ms 66 [(4, .int x4)] [] S' rc rs) : ∀ (n : Nat) (i1 : Int32) (i2 : Int32) (i4 : Int32) (i5 : Int32) (S : zm_S), zf_X2_pieceLength_L6 N n a0 i1 i2 i3 i4 i5 S = some res → zw p l e R s m args below meth c (vx_MQ below (zm_Qc zk_E V (zo_i out)) (zm_XC zk_E V zo_x) args s mc ms (fun q => V.2.2.2.1 ≤ q)) 6 zk_E V mc ms 6 [(0, .ref a0), (1, .int i1), (2, .int i2), (3, .int i3), (4, .int i4), (5, .int i5)] [] S rc rs := by
  intro n
  induction n with
  | zero => intro i1 i2 i4 i5 S h; cases h
  | succ n ih =>
    intro i1 i2 i4 i5 S h
    rw [zf_X2_pieceLength_L6] at h
    refine zw_iload hX dX2_pieceLength_6 rfl ?_
    refine zw_bipush (v := (24 : Int32)) hX dX2_pieceLength_8 (by decide) ?_
    refine zw_icmp_ge (tgt := 66) hX dX2_pieceLength_10 (by decide) (fun c10 => ?_) (fun c10 => ?_)
    · rw [if_pos c10] at h
      refine zw_sub (lv' := [(4, .int i4)]) (List.forall_mem_cons.mpr ⟨rfl, zs_nil⟩) ?_
      exact hk _ _ (Option.some.inj h).symm
    · rw [if_neg c10] at h
      refine zw_aload_n hX dX2_pieceLength_13 rfl ?_
      refine zw_iload_n hX dX2_pieceLength_14 rfl ?_
      refine zw_iload_n hX dX2_pieceLength_15 rfl ?_
      refine zw_iload_n hX dX2_pieceLength_16 rfl ?_
      obtain ⟨_, gi, h⟩ := zb_some h
      obtain ⟨r3, g, h⟩ := zb_some h
      refine zc_Vi (as := [.int i1, .int i2, .int i3]) hX gi (zt_X2_wallFrom (d := d - 1) (by omega) g) zl_X2_110 rfl dX2_pieceLength_17 ⟨rfl, rfl, Nat.le_of_ble_eq_true rfl⟩ ⟨by omega, by omega⟩ ?_
      refine zw_iconst (v := (-1 : Int32)) hX dX2_pieceLength_20 (by decide) ?_
      refine zw_icmp_eq (tgt := 66) hX dX2_pieceLength_21 (by decide) (fun c21 => ?_) (fun c21 => ?_)
      · rw [if_pos c21] at h
        refine zw_sub (lv' := [(4, .int i4)]) (List.forall_mem_cons.mpr ⟨rfl, zs_nil⟩) ?_
        exact hk _ _ (Option.some.inj h).symm
      · rw [if_neg c21] at h
        refine zw_iload_n hX dX2_pieceLength_24 rfl ?_
        refine zw_gets (C := "TowerHouse$Finding") (n := "SIDE_X") (d := "[I") (k := 2) hX (List.mem_of_getElem? (i := 1) rfl) (by decide) zl_X2_158 dX2_pieceLength_25 ?_
        refine zw_iload_n hX dX2_pieceLength_28 rfl ?_
        obtain ⟨v4, g, h⟩ := zb_some h
        refine zw_xi hX dX2_pieceLength_29 g ?_
        refine zw_iadd hX dX2_pieceLength_30 ?_
        refine zw_istore_n hX dX2_pieceLength_31 (by decide) ?_
        refine zw_iload_n hX dX2_pieceLength_32 rfl ?_
        refine zw_gets (C := "TowerHouse$Finding") (n := "SIDE_Y") (d := "[I") (k := 3) hX (List.mem_of_getElem? (i := 2) rfl) (by decide) zl_X2_161 dX2_pieceLength_33 ?_
        refine zw_iload_n hX dX2_pieceLength_36 rfl ?_
        obtain ⟨v5, g, h⟩ := zb_some h
        refine zw_xi hX dX2_pieceLength_37 g ?_
        refine zw_iadd hX dX2_pieceLength_38 ?_
        refine zw_istore_n hX dX2_pieceLength_39 (by decide) ?_
        refine zw_aload_n hX dX2_pieceLength_40 rfl ?_
        obtain ⟨b6, g, h⟩ := zb_some h
        refine zw_getr hX zl_X2_16 dX2_pieceLength_41 g ?_
        refine zw_iload_n hX dX2_pieceLength_44 rfl ?_
        refine zw_bipush (v := (25 : Int32)) hX dX2_pieceLength_45 (by decide) ?_
        refine zw_imul hX dX2_pieceLength_47 ?_
        refine zw_iload_n hX dX2_pieceLength_48 rfl ?_
        refine zw_iadd hX dX2_pieceLength_49 ?_
        obtain ⟨v7, g, h⟩ := zb_some h
        refine zw_xz hX dX2_pieceLength_50 g ?_
        refine zw_if_eq (tgt := 57) hX dX2_pieceLength_51 (by decide) (fun c51 => ?_) (fun c51 => ?_)
        · rw [if_pos c51] at h
          refine zw_iinc (v := (i4 + (1 : Int32))) hX dX2_pieceLength_57 rfl rfl (by decide) ?_
          refine zw_iinc (v := (i5 + (1 : Int32))) hX dX2_pieceLength_60 rfl rfl (by decide) ?_
          refine zw_goto (tgt := 6) hX dX2_pieceLength_63 (by decide) ?_
          refine zw_sub (lv' := [(0, .ref a0), (1, .int (i1 + v4)), (2, .int (i2 + v5)), (3, .int i3), (4, .int (i4 + (1 : Int32))), (5, .int (i5 + (1 : Int32)))]) (List.forall_mem_cons.mpr ⟨rfl, (List.forall_mem_cons.mpr ⟨rfl, (List.forall_mem_cons.mpr ⟨rfl, (List.forall_mem_cons.mpr ⟨rfl, (List.forall_mem_cons.mpr ⟨rfl, (List.forall_mem_cons.mpr ⟨rfl, zs_nil⟩)⟩)⟩)⟩)⟩)⟩) ?_
          exact ih _ _ _ _ _ h
        · rw [if_neg c51] at h
          refine zw_iload hX dX2_pieceLength_54 rfl ?_
          have hz := hf _ (Option.some.inj h).symm
          subst hz
          exact zw_iret hX hr dX2_pieceLength_56 rfl ⟨rfl, rfl⟩
def zf_X2_pieceLength (N : Nat) (a0 : Nat) (i1 : Int32) (i2 : Int32) (i3 : Int32) (S : zm_S) : Option (Int32 × zm_S) := (zf_X2_pieceLength_L6 N N a0 i1 i2 i3 (1 : Int32) (1 : Int32) S).bind (fun r => match r with | .inl o => some o | .inr (v9, S8) => some (v9, S8))
set_option maxHeartbeats 4000000 in
set_option maxRecDepth 100000 in
theorem zt_X2_pieceLength {l : Launch} {V : zm_V} {N : Nat} {S : zm_S} {out : (Int32 × zm_S)} {d : Nat} {a0 : Nat} {i1 : Int32} {i2 : Int32} {i3 : Int32} (hd : 2 ≤ d) (h : zf_X2_pieceLength N a0 i1 i2 i3 S = some out) : zm_Met l zk_E V yX2_pieceLength (.code yX2_pieceLength cX2_pieceLength 6 (some .int)) d [.ref a0, .int i1, .int i2, .int i3] S 0 0 (zo_i out) zo_x := by
  refine zm_of (by decide +kernel) (Nat.le_of_ble_eq_true rfl) ?_
  intro p e R s m args below meth c hRR hX hr hxt
  have hR : R.frames = d ∧ R.locals = 64 * d := by rw [hRR]; exact ⟨rfl, rfl⟩
  have hX : zm_X p R s m args meth c RX2 "pieceLength" cX2_pieceLength 6 zk_E V 0 0 := hX
  unfold zf_X2_pieceLength at h
  refine zw_sub (lv' := [(0, .ref a0), (1, .int i1), (2, .int i2), (3, .int i3)]) (List.forall_mem_cons.mpr ⟨rfl, (List.forall_mem_cons.mpr ⟨rfl, (List.forall_mem_cons.mpr ⟨rfl, (List.forall_mem_cons.mpr ⟨rfl, zs_nil⟩)⟩)⟩)⟩) ?_
  refine zw_iconst (v := (1 : Int32)) hX dX2_pieceLength_0 (by decide) ?_
  refine zw_istore hX dX2_pieceLength_1 (by decide) ?_
  refine zw_iconst (v := (1 : Int32)) hX dX2_pieceLength_3 (by decide) ?_
  refine zw_istore hX dX2_pieceLength_4 (by decide) ?_
  obtain ⟨r, g, h⟩ := zb_some h
  refine zw_sub (lv' := [(0, .ref a0), (1, .int i1), (2, .int i2), (3, .int i3), (4, .int (1 : Int32)), (5, .int (1 : Int32))]) (List.forall_mem_cons.mpr ⟨rfl, (List.forall_mem_cons.mpr ⟨rfl, (List.forall_mem_cons.mpr ⟨rfl, (List.forall_mem_cons.mpr ⟨rfl, (List.forall_mem_cons.mpr ⟨rfl, (List.forall_mem_cons.mpr ⟨rfl, zs_nil⟩)⟩)⟩)⟩)⟩)⟩) ?_
  refine zt_X2_pieceLength_L6 hX hr hR hd (res := r) (out := out) a0 i3 ?_ ?_ N _ _ _ _ _ g
  · intro o ho
    subst ho
    exact Option.some.inj h
  · intro v9 S8 hx
    subst hx
    try dsimp only at h
    refine zw_iload hX dX2_pieceLength_66 rfl ?_
    obtain rfl := Option.some.inj h
    exact zw_iret hX hr dX2_pieceLength_68 rfl ⟨rfl, rfl⟩
def zf_X2_rightOf_J22 (N : Nat) (i2 : Int32) (t0 : Nat) (t1 : Int32) (S : zm_S) : Option (Int32 × zm_S) := (zi S t0 2).bind (fun _ => (zf_X2_spaceAt N t0 t1 (i2 - (1 : Int32)) S).bind (fun r3 => some (r3.1, r3.2)))
set_option maxHeartbeats 4000000 in
set_option maxRecDepth 100000 in
theorem zt_X2_rightOf_J22 {p : Program} {l : Launch} {e : Env} {R : Room} {s : State} {m : MethodId} {args : Array Value} {below : List Frame} {meth : Method} {c : Code} {V : zm_V} {mc ms d rc rs : Nat} (hX : zm_X p R s m args meth c RX2 "rightOf" cX2_rightOf 4 zk_E V mc ms) (hr : meth.sig.returnType = (some .int)) (hR : R.frames = d ∧ R.locals = 64 * d) (hd : 2 ≤ d) {N : Nat} {i2 : Int32} {t0 : Nat} {t1 : Int32} {out : (Int32 × zm_S)} {S : zm_S} (h : zf_X2_rightOf_J22 N i2 t0 t1 S = some out) : zw p l e R s m args below meth c (vx_MQ below (zm_Qc zk_E V (zo_i out)) (zm_XC zk_E V zo_x) args s mc ms (fun q => V.2.2.2.1 ≤ q)) 4 zk_E V mc ms 22 [(2, .int i2)] [.int t1, .ref t0] S rc rs := by
  unfold zf_X2_rightOf_J22 at h
  refine zw_iload_n hX dX2_rightOf_22 rfl ?_
  refine zw_iconst (v := (1 : Int32)) hX dX2_rightOf_23 (by decide) ?_
  refine zw_isub hX dX2_rightOf_24 ?_
  refine zw_goto (tgt := 29) hX dX2_rightOf_25 (by decide) ?_
  obtain ⟨_, gi, h⟩ := zb_some h
  obtain ⟨r3, g, h⟩ := zb_some h
  refine zc_Vi (as := [.int t1, .int (i2 - (1 : Int32))]) hX gi (zt_X2_spaceAt (d := d - 1) (by omega) g) zl_X2_136 rfl dX2_rightOf_29 ⟨rfl, rfl, Nat.le_of_ble_eq_true rfl⟩ ⟨by omega, by omega⟩ ?_
  obtain rfl := Option.some.inj h
  exact zw_iret hX hr dX2_rightOf_32 rfl ⟨rfl, rfl⟩
def zf_X2_rightOf_J13 (N : Nat) (i2 : Int32) (i3 : Int32) (t0 : Nat) (t1 : Int32) (S : zm_S) : Option (Int32 × zm_S) := if i3 = 0 then zf_X2_rightOf_J22 N i2 t0 t1 S else if i3 = (3 : Int32) then zf_X2_rightOf_J22 N i2 t0 t1 S else (zi S t0 2).bind (fun _ => (zf_X2_spaceAt N t0 t1 i2 S).bind (fun r6 => some (r6.1, r6.2)))
set_option maxHeartbeats 4000000 in
set_option maxRecDepth 100000 in
theorem zt_X2_rightOf_J13 {p : Program} {l : Launch} {e : Env} {R : Room} {s : State} {m : MethodId} {args : Array Value} {below : List Frame} {meth : Method} {c : Code} {V : zm_V} {mc ms d rc rs : Nat} (hX : zm_X p R s m args meth c RX2 "rightOf" cX2_rightOf 4 zk_E V mc ms) (hr : meth.sig.returnType = (some .int)) (hR : R.frames = d ∧ R.locals = 64 * d) (hd : 2 ≤ d) {N : Nat} {i2 : Int32} {i3 : Int32} {t0 : Nat} {t1 : Int32} {out : (Int32 × zm_S)} {S : zm_S} (h : zf_X2_rightOf_J13 N i2 i3 t0 t1 S = some out) : zw p l e R s m args below meth c (vx_MQ below (zm_Qc zk_E V (zo_i out)) (zm_XC zk_E V zo_x) args s mc ms (fun q => V.2.2.2.1 ≤ q)) 4 zk_E V mc ms 13 [(2, .int i2), (3, .int i3)] [.int t1, .ref t0] S rc rs := by
  unfold zf_X2_rightOf_J13 at h
  refine zw_iload_n hX dX2_rightOf_13 rfl ?_
  refine zw_if_eq (tgt := 22) hX dX2_rightOf_14 (by decide) (fun c14 => ?_) (fun c14 => ?_)
  · rw [if_pos c14] at h
    refine zw_sub (lv' := [(2, .int i2)]) (List.forall_mem_cons.mpr ⟨rfl, zs_nil⟩) ?_
    exact zt_X2_rightOf_J22 hX hr hR hd h
  · rw [if_neg c14] at h
    refine zw_iload_n hX dX2_rightOf_17 rfl ?_
    refine zw_iconst (v := (3 : Int32)) hX dX2_rightOf_18 (by decide) ?_
    refine zw_icmp_ne (tgt := 28) hX dX2_rightOf_19 (by decide) (fun c19 => ?_) (fun c19 => ?_)
    · rw [if_neg c19] at h
      refine zw_iload_n hX dX2_rightOf_28 rfl ?_
      obtain ⟨_, gi, h⟩ := zb_some h
      obtain ⟨r6, g, h⟩ := zb_some h
      refine zc_Vi (as := [.int t1, .int i2]) hX gi (zt_X2_spaceAt (d := d - 1) (by omega) g) zl_X2_136 rfl dX2_rightOf_29 ⟨rfl, rfl, Nat.le_of_ble_eq_true rfl⟩ ⟨by omega, by omega⟩ ?_
      obtain rfl := Option.some.inj h
      exact zw_iret hX hr dX2_rightOf_32 rfl ⟨rfl, rfl⟩
    · rw [if_pos c19] at h
      refine zw_sub (lv' := [(2, .int i2)]) (List.forall_mem_cons.mpr ⟨rfl, zs_nil⟩) ?_
      exact zt_X2_rightOf_J22 hX hr hR hd h
def zf_X2_rightOf (N : Nat) (a0 : Nat) (i1 : Int32) (i2 : Int32) (i3 : Int32) (S : zm_S) : Option (Int32 × zm_S) := if i3 < (2 : Int32) then zf_X2_rightOf_J13 N i2 i3 a0 i1 S else zf_X2_rightOf_J13 N i2 i3 a0 (i1 - (1 : Int32)) S
set_option maxHeartbeats 4000000 in
set_option maxRecDepth 100000 in
theorem zt_X2_rightOf {l : Launch} {V : zm_V} {N : Nat} {S : zm_S} {out : (Int32 × zm_S)} {d : Nat} {a0 : Nat} {i1 : Int32} {i2 : Int32} {i3 : Int32} (hd : 2 ≤ d) (h : zf_X2_rightOf N a0 i1 i2 i3 S = some out) : zm_Met l zk_E V yX2_rightOf (.code yX2_rightOf cX2_rightOf 4 (some .int)) d [.ref a0, .int i1, .int i2, .int i3] S 0 0 (zo_i out) zo_x := by
  refine zm_of (by decide +kernel) (Nat.le_of_ble_eq_true rfl) ?_
  intro p e R s m args below meth c hRR hX hr hxt
  have hR : R.frames = d ∧ R.locals = 64 * d := by rw [hRR]; exact ⟨rfl, rfl⟩
  have hX : zm_X p R s m args meth c RX2 "rightOf" cX2_rightOf 4 zk_E V 0 0 := hX
  unfold zf_X2_rightOf at h
  refine zw_sub (lv' := [(0, .ref a0), (1, .int i1), (2, .int i2), (3, .int i3)]) (List.forall_mem_cons.mpr ⟨rfl, (List.forall_mem_cons.mpr ⟨rfl, (List.forall_mem_cons.mpr ⟨rfl, (List.forall_mem_cons.mpr ⟨rfl, zs_nil⟩)⟩)⟩)⟩) ?_
  refine zw_aload_n hX dX2_rightOf_0 rfl ?_
  refine zw_iload_n hX dX2_rightOf_1 rfl ?_
  refine zw_iconst (v := (2 : Int32)) hX dX2_rightOf_2 (by decide) ?_
  refine zw_icmp_lt (tgt := 12) hX dX2_rightOf_3 (by decide) (fun c3 => ?_) (fun c3 => ?_)
  · rw [if_pos c3] at h
    refine zw_iload_n hX dX2_rightOf_12 rfl ?_
    refine zw_sub (lv' := [(2, .int i2), (3, .int i3)]) (List.forall_mem_cons.mpr ⟨rfl, (List.forall_mem_cons.mpr ⟨rfl, zs_nil⟩)⟩) ?_
    exact zt_X2_rightOf_J13 hX hr hR hd h
  · rw [if_neg c3] at h
    refine zw_iload_n hX dX2_rightOf_6 rfl ?_
    refine zw_iconst (v := (1 : Int32)) hX dX2_rightOf_7 (by decide) ?_
    refine zw_isub hX dX2_rightOf_8 ?_
    refine zw_goto (tgt := 13) hX dX2_rightOf_9 (by decide) ?_
    refine zw_sub (lv' := [(2, .int i2), (3, .int i3)]) (List.forall_mem_cons.mpr ⟨rfl, (List.forall_mem_cons.mpr ⟨rfl, zs_nil⟩)⟩) ?_
    exact zt_X2_rightOf_J13 hX hr hR hd h
def zf_X2_noteSide (N : Nat) (a0 : Nat) (i1 : Int32) (i2 : Int32) (i3 : Int32) (i4 : Int32) (S : zm_S) : Option (Unit × zm_S) := (zg_i S a0 2 14).bind (fun v1 => if (440 : Int32) ≤ v1 then some ((), S) else (zg_r S a0 2 15).bind (fun b2 => (zg_i S a0 2 14).bind (fun v3 => (za_r S b2 v3).bind (fun b4 => (zi S a0 2).bind (fun _ => (zf_X2_wallFrom N a0 i1 i2 i3 S).bind (fun r7 => (zs_i r7.2 b4 (0 : Int32) r7.1).bind (fun S8 => (zs_i S8 b4 (1 : Int32) i1).bind (fun S9 => (zs_i S9 b4 (2 : Int32) i2).bind (fun S10 => (za_x S10 0 2 i3).bind (fun v11 => (zs_i S10 b4 (3 : Int32) (i1 + (i4 * v11))).bind (fun S12 => (za_x S12 0 3 i3).bind (fun v13 => (zs_i S12 b4 (4 : Int32) (i2 + (i4 * v13))).bind (fun S14 => (zi S14 a0 2).bind (fun _ => (zf_X2_rightOf N a0 i1 i2 i3 S14).bind (fun r17 => (zs_i r17.2 b4 (5 : Int32) r17.1).bind (fun S18 => (zg_i S18 a0 2 14).bind (fun v19 => (zp S18 a0 2 14 (.int (v19 + (1 : Int32)))).bind (fun S20 => some ((), S20)))))))))))))))))))
set_option maxHeartbeats 4000000 in
set_option maxRecDepth 100000 in
theorem zt_X2_noteSide {l : Launch} {V : zm_V} {N : Nat} {S : zm_S} {out : (Unit × zm_S)} {d : Nat} {a0 : Nat} {i1 : Int32} {i2 : Int32} {i3 : Int32} {i4 : Int32} (hd : 3 ≤ d) (h : zf_X2_noteSide N a0 i1 i2 i3 i4 S = some out) : zm_Met l zk_E V yX2_noteSide (.code yX2_noteSide cX2_noteSide 6 none) d [.ref a0, .int i1, .int i2, .int i3, .int i4] S 0 0 (zo_v out) zo_x := by
  refine zm_of (by decide +kernel) (Nat.le_of_ble_eq_true rfl) ?_
  intro p e R s m args below meth c hRR hX hr hxt
  have hR : R.frames = d ∧ R.locals = 64 * d := by rw [hRR]; exact ⟨rfl, rfl⟩
  have hX : zm_X p R s m args meth c RX2 "noteSide" cX2_noteSide 6 zk_E V 0 0 := hX
  unfold zf_X2_noteSide at h
  refine zw_sub (lv' := [(0, .ref a0), (1, .int i1), (2, .int i2), (3, .int i3), (4, .int i4)]) (List.forall_mem_cons.mpr ⟨rfl, (List.forall_mem_cons.mpr ⟨rfl, (List.forall_mem_cons.mpr ⟨rfl, (List.forall_mem_cons.mpr ⟨rfl, (List.forall_mem_cons.mpr ⟨rfl, zs_nil⟩)⟩)⟩)⟩)⟩) ?_
  refine zw_aload_n hX dX2_noteSide_0 rfl ?_
  obtain ⟨v1, g, h⟩ := zb_some h
  refine zw_geti hX zl_X2_142 dX2_noteSide_1 g ?_
  refine zw_sipush (v := (440 : Int32)) hX dX2_noteSide_4 (by decide) ?_
  refine zw_icmp_ge (tgt := 91) hX dX2_noteSide_7 (by decide) (fun c7 => ?_) (fun c7 => ?_)
  · rw [if_pos c7] at h
    obtain rfl := Option.some.inj h
    exact zw_vret hX hr dX2_noteSide_91 ⟨rfl, rfl⟩
  · rw [if_neg c7] at h
    refine zw_aload_n hX dX2_noteSide_10 rfl ?_
    obtain ⟨b2, g, h⟩ := zb_some h
    refine zw_getr hX zl_X2_42 dX2_noteSide_11 g ?_
    refine zw_aload_n hX dX2_noteSide_14 rfl ?_
    obtain ⟨v3, g, h⟩ := zb_some h
    refine zw_geti hX zl_X2_142 dX2_noteSide_15 g ?_
    obtain ⟨b4, g, h⟩ := zb_some h
    refine zw_xr hX dX2_noteSide_18 g ?_
    refine zw_astore hX dX2_noteSide_19 (by decide) ?_
    refine zw_aload hX dX2_noteSide_21 rfl ?_
    refine zw_iconst (v := (0 : Int32)) hX dX2_noteSide_23 (by decide) ?_
    refine zw_aload_n hX dX2_noteSide_24 rfl ?_
    refine zw_iload_n hX dX2_noteSide_25 rfl ?_
    refine zw_iload_n hX dX2_noteSide_26 rfl ?_
    refine zw_iload_n hX dX2_noteSide_27 rfl ?_
    obtain ⟨_, gi, h⟩ := zb_some h
    obtain ⟨r7, g, h⟩ := zb_some h
    refine zc_Vi (as := [.int i1, .int i2, .int i3]) hX gi (zt_X2_wallFrom (d := d - 1) (by omega) g) zl_X2_110 rfl dX2_noteSide_28 ⟨rfl, rfl, Nat.le_of_ble_eq_true rfl⟩ ⟨by omega, by omega⟩ ?_
    obtain ⟨S8, g, h⟩ := zb_some h
    refine zw_si hX dX2_noteSide_31 g ?_
    refine zw_aload hX dX2_noteSide_32 rfl ?_
    refine zw_iconst (v := (1 : Int32)) hX dX2_noteSide_34 (by decide) ?_
    refine zw_iload_n hX dX2_noteSide_35 rfl ?_
    obtain ⟨S9, g, h⟩ := zb_some h
    refine zw_si hX dX2_noteSide_36 g ?_
    refine zw_aload hX dX2_noteSide_37 rfl ?_
    refine zw_iconst (v := (2 : Int32)) hX dX2_noteSide_39 (by decide) ?_
    refine zw_iload_n hX dX2_noteSide_40 rfl ?_
    obtain ⟨S10, g, h⟩ := zb_some h
    refine zw_si hX dX2_noteSide_41 g ?_
    refine zw_aload hX dX2_noteSide_42 rfl ?_
    refine zw_iconst (v := (3 : Int32)) hX dX2_noteSide_44 (by decide) ?_
    refine zw_iload_n hX dX2_noteSide_45 rfl ?_
    refine zw_iload hX dX2_noteSide_46 rfl ?_
    refine zw_gets (C := "TowerHouse$Finding") (n := "SIDE_X") (d := "[I") (k := 2) hX (List.mem_of_getElem? (i := 1) rfl) (by decide) zl_X2_158 dX2_noteSide_48 ?_
    refine zw_iload_n hX dX2_noteSide_51 rfl ?_
    obtain ⟨v11, g, h⟩ := zb_some h
    refine zw_xi hX dX2_noteSide_52 g ?_
    refine zw_imul hX dX2_noteSide_53 ?_
    refine zw_iadd hX dX2_noteSide_54 ?_
    obtain ⟨S12, g, h⟩ := zb_some h
    refine zw_si hX dX2_noteSide_55 g ?_
    refine zw_aload hX dX2_noteSide_56 rfl ?_
    refine zw_iconst (v := (4 : Int32)) hX dX2_noteSide_58 (by decide) ?_
    refine zw_iload_n hX dX2_noteSide_59 rfl ?_
    refine zw_iload hX dX2_noteSide_60 rfl ?_
    refine zw_gets (C := "TowerHouse$Finding") (n := "SIDE_Y") (d := "[I") (k := 3) hX (List.mem_of_getElem? (i := 2) rfl) (by decide) zl_X2_161 dX2_noteSide_62 ?_
    refine zw_iload_n hX dX2_noteSide_65 rfl ?_
    obtain ⟨v13, g, h⟩ := zb_some h
    refine zw_xi hX dX2_noteSide_66 g ?_
    refine zw_imul hX dX2_noteSide_67 ?_
    refine zw_iadd hX dX2_noteSide_68 ?_
    obtain ⟨S14, g, h⟩ := zb_some h
    refine zw_si hX dX2_noteSide_69 g ?_
    refine zw_aload hX dX2_noteSide_70 rfl ?_
    refine zw_iconst (v := (5 : Int32)) hX dX2_noteSide_72 (by decide) ?_
    refine zw_aload_n hX dX2_noteSide_73 rfl ?_
    refine zw_iload_n hX dX2_noteSide_74 rfl ?_
    refine zw_iload_n hX dX2_noteSide_75 rfl ?_
    refine zw_iload_n hX dX2_noteSide_76 rfl ?_
    obtain ⟨_, gi, h⟩ := zb_some h
    obtain ⟨r17, g, h⟩ := zb_some h
    refine zc_Vi (as := [.int i1, .int i2, .int i3]) hX gi (zt_X2_rightOf (d := d - 1) (by omega) g) zl_X2_167 rfl dX2_noteSide_77 ⟨rfl, rfl, Nat.le_of_ble_eq_true rfl⟩ ⟨by omega, by omega⟩ ?_
    obtain ⟨S18, g, h⟩ := zb_some h
    refine zw_si hX dX2_noteSide_80 g ?_
    refine zw_aload_n hX dX2_noteSide_81 rfl ?_
    refine zw_dup hX dX2_noteSide_82 rfl ?_
    obtain ⟨v19, g, h⟩ := zb_some h
    refine zw_geti hX zl_X2_142 dX2_noteSide_83 g ?_
    refine zw_iconst (v := (1 : Int32)) hX dX2_noteSide_86 (by decide) ?_
    refine zw_iadd hX dX2_noteSide_87 ?_
    obtain ⟨S20, g, h⟩ := zb_some h
    refine zw_putv hX zl_X2_142 zt_2_14 dX2_noteSide_88 rfl rfl g ?_
    obtain rfl := Option.some.inj h
    exact zw_vret hX hr dX2_noteSide_91 ⟨rfl, rfl⟩
def zf_X2_turnAt_L3 (N : Nat) : Nat → Nat → Int32 → Int32 → Int32 → Int32 → zm_S → Option ((Int32 × zm_S) ⊕ ((Unit) × zm_S))
  | 0, _, _, _, _, _, _ => none
  | n + 1, a0, i1, i2, i3, i4, S => (za_n S 4).bind (fun v1 => if v1 ≤ i4 then some (.inr ((), S)) else (za_x S 0 4 i4).bind (fun v2 => (zi S a0 2).bind (fun _ => (zf_X2_wallFrom N a0 i1 i2 ((i3 + v2) - (i3 + v2) / (4 : Int32) * (4 : Int32)) S).bind (fun r5 => if r5.1 = (-1 : Int32) then zf_X2_turnAt_L3 N n a0 i1 i2 i3 (i4 + (1 : Int32)) r5.2 else some (.inl (((i3 + v2) - (i3 + v2) / (4 : Int32) * (4 : Int32)), r5.2))))))
set_option maxHeartbeats 4000000 in
set_option maxRecDepth 100000 in
theorem zt_X2_turnAt_L3 {p : Program} {l : Launch} {e : Env} {R : Room} {s : State} {m : MethodId} {args : Array Value} {below : List Frame} {meth : Method} {c : Code} {V : zm_V} {mc ms d rc rs : Nat} (hX : zm_X p R s m args meth c RX2 "turnAt" cX2_turnAt 6 zk_E V mc ms) (hr : meth.sig.returnType = (some .int)) (hR : R.frames = d ∧ R.locals = 64 * d) (hd : 2 ≤ d) {N : Nat} {res : (Int32 × zm_S) ⊕ ((Unit) × zm_S)} {out : (Int32 × zm_S)} (a0 : Nat) (i1 : Int32) (i2 : Int32) (i3 : Int32) (hf : ∀ o, res = .inl o → o = out) (hk : ∀ (S' : zm_S), res = .inr ((), S') → zw p l e R s m args below meth c (vx_MQ below (zm_Qc zk_E V (zo_i out)) (zm_XC zk_E V zo_x) args s mc ms (fun q => V.2.2.2.1 ≤ q)) 6 zk_E V mc ms 45 [(3, .int i3)] [] S' rc rs) : ∀ (n : Nat) (i4 : Int32) (S : zm_S), zf_X2_turnAt_L3 N n a0 i1 i2 i3 i4 S = some res → zw p l e R s m args below meth c (vx_MQ below (zm_Qc zk_E V (zo_i out)) (zm_XC zk_E V zo_x) args s mc ms (fun q => V.2.2.2.1 ≤ q)) 6 zk_E V mc ms 3 [(0, .ref a0), (1, .int i1), (2, .int i2), (3, .int i3), (4, .int i4)] [] S rc rs := by
  intro n
  induction n with
  | zero => intro i4 S h; cases h
  | succ n ih =>
    intro i4 S h
    rw [zf_X2_turnAt_L3] at h
    refine zw_iload hX dX2_turnAt_3 rfl ?_
    refine zw_gets (C := "TowerHouse$Finding") (n := "TURNS") (d := "[I") (k := 4) hX (List.mem_of_getElem? (i := 3) rfl) (by decide) zl_X2_170 dX2_turnAt_5 ?_
    obtain ⟨v1, g, h⟩ := zb_some h
    refine zw_len hX dX2_turnAt_8 g ?_
    refine zw_icmp_ge (tgt := 45) hX dX2_turnAt_9 (by decide) (fun c9 => ?_) (fun c9 => ?_)
    · rw [if_pos c9] at h
      refine zw_sub (lv' := [(3, .int i3)]) (List.forall_mem_cons.mpr ⟨rfl, zs_nil⟩) ?_
      exact hk  _ (Option.some.inj h).symm
    · rw [if_neg c9] at h
      refine zw_iload_n hX dX2_turnAt_12 rfl ?_
      refine zw_gets (C := "TowerHouse$Finding") (n := "TURNS") (d := "[I") (k := 4) hX (List.mem_of_getElem? (i := 3) rfl) (by decide) zl_X2_170 dX2_turnAt_13 ?_
      refine zw_iload hX dX2_turnAt_16 rfl ?_
      obtain ⟨v2, g, h⟩ := zb_some h
      refine zw_xi hX dX2_turnAt_18 g ?_
      refine zw_iadd hX dX2_turnAt_19 ?_
      refine zw_iconst (v := (4 : Int32)) hX dX2_turnAt_20 (by decide) ?_
      refine zw_irem hX dX2_turnAt_21 (by decide) ?_
      refine zw_istore hX dX2_turnAt_22 (by decide) ?_
      refine zw_aload_n hX dX2_turnAt_24 rfl ?_
      refine zw_iload_n hX dX2_turnAt_25 rfl ?_
      refine zw_iload_n hX dX2_turnAt_26 rfl ?_
      refine zw_iload hX dX2_turnAt_27 rfl ?_
      obtain ⟨_, gi, h⟩ := zb_some h
      obtain ⟨r5, g, h⟩ := zb_some h
      refine zc_Vi (as := [.int i1, .int i2, .int ((i3 + v2) - (i3 + v2) / (4 : Int32) * (4 : Int32))]) hX gi (zt_X2_wallFrom (d := d - 1) (by omega) g) zl_X2_110 rfl dX2_turnAt_29 ⟨rfl, rfl, Nat.le_of_ble_eq_true rfl⟩ ⟨by omega, by omega⟩ ?_
      refine zw_iconst (v := (-1 : Int32)) hX dX2_turnAt_32 (by decide) ?_
      refine zw_icmp_eq (tgt := 39) hX dX2_turnAt_33 (by decide) (fun c33 => ?_) (fun c33 => ?_)
      · rw [if_pos c33] at h
        refine zw_iinc (v := (i4 + (1 : Int32))) hX dX2_turnAt_39 rfl rfl (by decide) ?_
        refine zw_goto (tgt := 3) hX dX2_turnAt_42 (by decide) ?_
        refine zw_sub (lv' := [(0, .ref a0), (1, .int i1), (2, .int i2), (3, .int i3), (4, .int (i4 + (1 : Int32)))]) (List.forall_mem_cons.mpr ⟨rfl, (List.forall_mem_cons.mpr ⟨rfl, (List.forall_mem_cons.mpr ⟨rfl, (List.forall_mem_cons.mpr ⟨rfl, (List.forall_mem_cons.mpr ⟨rfl, zs_nil⟩)⟩)⟩)⟩)⟩) ?_
        exact ih _ _ h
      · rw [if_neg c33] at h
        refine zw_iload hX dX2_turnAt_36 rfl ?_
        have hz := hf _ (Option.some.inj h).symm
        subst hz
        exact zw_iret hX hr dX2_turnAt_38 rfl ⟨rfl, rfl⟩
def zf_X2_turnAt (N : Nat) (a0 : Nat) (i1 : Int32) (i2 : Int32) (i3 : Int32) (S : zm_S) : Option (Int32 × zm_S) := (zf_X2_turnAt_L3 N N a0 i1 i2 i3 (0 : Int32) S).bind (fun r => match r with | .inl o => some o | .inr (_, S6) => some (i3, S6))
set_option maxHeartbeats 4000000 in
set_option maxRecDepth 100000 in
theorem zt_X2_turnAt {l : Launch} {V : zm_V} {N : Nat} {S : zm_S} {out : (Int32 × zm_S)} {d : Nat} {a0 : Nat} {i1 : Int32} {i2 : Int32} {i3 : Int32} (hd : 2 ≤ d) (h : zf_X2_turnAt N a0 i1 i2 i3 S = some out) : zm_Met l zk_E V yX2_turnAt (.code yX2_turnAt cX2_turnAt 6 (some .int)) d [.ref a0, .int i1, .int i2, .int i3] S 0 0 (zo_i out) zo_x := by
  refine zm_of (by decide +kernel) (Nat.le_of_ble_eq_true rfl) ?_
  intro p e R s m args below meth c hRR hX hr hxt
  have hR : R.frames = d ∧ R.locals = 64 * d := by rw [hRR]; exact ⟨rfl, rfl⟩
  have hX : zm_X p R s m args meth c RX2 "turnAt" cX2_turnAt 6 zk_E V 0 0 := hX
  unfold zf_X2_turnAt at h
  refine zw_sub (lv' := [(0, .ref a0), (1, .int i1), (2, .int i2), (3, .int i3)]) (List.forall_mem_cons.mpr ⟨rfl, (List.forall_mem_cons.mpr ⟨rfl, (List.forall_mem_cons.mpr ⟨rfl, (List.forall_mem_cons.mpr ⟨rfl, zs_nil⟩)⟩)⟩)⟩) ?_
  refine zw_iconst (v := (0 : Int32)) hX dX2_turnAt_0 (by decide) ?_
  refine zw_istore hX dX2_turnAt_1 (by decide) ?_
  obtain ⟨r, g, h⟩ := zb_some h
  refine zw_sub (lv' := [(0, .ref a0), (1, .int i1), (2, .int i2), (3, .int i3), (4, .int (0 : Int32))]) (List.forall_mem_cons.mpr ⟨rfl, (List.forall_mem_cons.mpr ⟨rfl, (List.forall_mem_cons.mpr ⟨rfl, (List.forall_mem_cons.mpr ⟨rfl, (List.forall_mem_cons.mpr ⟨rfl, zs_nil⟩)⟩)⟩)⟩)⟩) ?_
  refine zt_X2_turnAt_L3 hX hr hR hd (res := r) (out := out) a0 i1 i2 i3 ?_ ?_ N _ _ g
  · intro o ho
    subst ho
    exact Option.some.inj h
  · intro  S6 hx
    subst hx
    try dsimp only at h
    refine zw_iload_n hX dX2_turnAt_45 rfl ?_
    obtain rfl := Option.some.inj h
    exact zw_iret hX hr dX2_turnAt_46 rfl ⟨rfl, rfl⟩
def zf_X2_traceRing_L37 (N : Nat) : Nat → Nat → Int32 → Int32 → Int32 → Int32 → Int32 → Int32 → Int32 → zm_S → Option ((Unit × zm_S) ⊕ ((Int32) × zm_S))
  | 0, _, _, _, _, _, _, _, _, _ => none
  | n + 1, a0, i3, i4, i5, i6, i7, i8, i9, S => if (440 : Int32) ≤ i9 then some (.inr (i8, S)) else (zg_r S a0 2 16).bind (fun b5 => (za_x S 2 b5 (((4 : Int32) * ((i3 * (25 : Int32)) + i4)) + i5)).bind (fun v6 => if v6 = 0 then (zg_r S a0 2 16).bind (fun b7 => (zs_z S b7 (((4 : Int32) * ((i3 * (25 : Int32)) + i4)) + i5) (1 : Int32)).bind (fun S8 => (zi S8 a0 2).bind (fun _ => (zf_X2_pieceLength N a0 i3 i4 i5 S8).bind (fun r11 => (zi r11.2 a0 2).bind (fun _ => (zf_X2_noteSide N a0 i3 i4 i5 r11.1 r11.2).bind (fun r14 => (za_x r14.2 0 2 i5).bind (fun v15 => (za_x r14.2 0 3 i5).bind (fun v16 => (zi r14.2 a0 2).bind (fun _ => (zf_X2_turnAt N a0 (i3 + (r11.1 * v15)) (i4 + (r11.1 * v16)) i5 r14.2).bind (fun r19 => zf_X2_traceRing_L37 N n a0 (i3 + (r11.1 * v15)) (i4 + (r11.1 * v16)) r19.1 i6 i7 (i8 + r11.1) (i9 + (1 : Int32)) r19.2)))))))))) else some (.inr (i8, S))))
set_option maxHeartbeats 4000000 in
set_option maxRecDepth 100000 in
theorem zt_X2_traceRing_L37 {p : Program} {l : Launch} {e : Env} {R : Room} {s : State} {m : MethodId} {args : Array Value} {below : List Frame} {meth : Method} {c : Code} {V : zm_V} {mc ms d rc rs : Nat} (hX : zm_X p R s m args meth c RX2 "traceRing" cX2_traceRing 11 zk_E V mc ms) (hr : meth.sig.returnType = none) (hR : R.frames = d ∧ R.locals = 64 * d) (hd : 4 ≤ d) {N : Nat} {res : (Unit × zm_S) ⊕ ((Int32) × zm_S)} {out : (Unit × zm_S)} (a0 : Nat) (i6 : Int32) (i7 : Int32) (hf : ∀ o, res = .inl o → o = out) (hk : ∀ (x8 : Int32) (S' : zm_S), res = .inr (x8, S') → zw p l e R s m args below meth c (vx_MQ below (zm_Qc zk_E V (zo_v out)) (zm_XC zk_E V zo_x) args s mc ms (fun q => V.2.2.2.1 ≤ q)) 11 zk_E V mc ms 155 [(0, .ref a0), (6, .int i6), (7, .int i7), (8, .int x8)] [] S' rc rs) : ∀ (n : Nat) (i3 : Int32) (i4 : Int32) (i5 : Int32) (i8 : Int32) (i9 : Int32) (S : zm_S), zf_X2_traceRing_L37 N n a0 i3 i4 i5 i6 i7 i8 i9 S = some res → zw p l e R s m args below meth c (vx_MQ below (zm_Qc zk_E V (zo_v out)) (zm_XC zk_E V zo_x) args s mc ms (fun q => V.2.2.2.1 ≤ q)) 11 zk_E V mc ms 37 [(0, .ref a0), (3, .int i3), (4, .int i4), (5, .int i5), (6, .int i6), (7, .int i7), (8, .int i8), (9, .int i9)] [] S rc rs := by
  intro n
  induction n with
  | zero => intro i3 i4 i5 i8 i9 S h; cases h
  | succ n ih =>
    intro i3 i4 i5 i8 i9 S h
    rw [zf_X2_traceRing_L37] at h
    refine zw_iload hX dX2_traceRing_37 rfl ?_
    refine zw_sipush (v := (440 : Int32)) hX dX2_traceRing_39 (by decide) ?_
    refine zw_icmp_ge (tgt := 155) hX dX2_traceRing_42 (by decide) (fun c42 => ?_) (fun c42 => ?_)
    · rw [if_pos c42] at h
      refine zw_sub (lv' := [(0, .ref a0), (6, .int i6), (7, .int i7), (8, .int i8)]) (List.forall_mem_cons.mpr ⟨rfl, (List.forall_mem_cons.mpr ⟨rfl, (List.forall_mem_cons.mpr ⟨rfl, (List.forall_mem_cons.mpr ⟨rfl, zs_nil⟩)⟩)⟩)⟩) ?_
      exact hk _ _ (Option.some.inj h).symm
    · rw [if_neg c42] at h
      refine zw_aload_n hX dX2_traceRing_45 rfl ?_
      obtain ⟨b5, g, h⟩ := zb_some h
      refine zw_getr hX zl_X2_45 dX2_traceRing_46 g ?_
      refine zw_iconst (v := (4 : Int32)) hX dX2_traceRing_49 (by decide) ?_
      refine zw_iload_n hX dX2_traceRing_50 rfl ?_
      refine zw_bipush (v := (25 : Int32)) hX dX2_traceRing_51 (by decide) ?_
      refine zw_imul hX dX2_traceRing_53 ?_
      refine zw_iload hX dX2_traceRing_54 rfl ?_
      refine zw_iadd hX dX2_traceRing_56 ?_
      refine zw_imul hX dX2_traceRing_57 ?_
      refine zw_iload hX dX2_traceRing_58 rfl ?_
      refine zw_iadd hX dX2_traceRing_60 ?_
      obtain ⟨v6, g, h⟩ := zb_some h
      refine zw_xz hX dX2_traceRing_61 g ?_
      refine zw_if_ne (tgt := 155) hX dX2_traceRing_62 (by decide) (fun c62 => ?_) (fun c62 => ?_)
      · rw [if_neg c62] at h
        refine zw_sub (lv' := [(0, .ref a0), (6, .int i6), (7, .int i7), (8, .int i8)]) (List.forall_mem_cons.mpr ⟨rfl, (List.forall_mem_cons.mpr ⟨rfl, (List.forall_mem_cons.mpr ⟨rfl, (List.forall_mem_cons.mpr ⟨rfl, zs_nil⟩)⟩)⟩)⟩) ?_
        exact hk _ _ (Option.some.inj h).symm
      · rw [if_pos c62] at h
        refine zw_aload_n hX dX2_traceRing_65 rfl ?_
        obtain ⟨b7, g, h⟩ := zb_some h
        refine zw_getr hX zl_X2_45 dX2_traceRing_66 g ?_
        refine zw_iconst (v := (4 : Int32)) hX dX2_traceRing_69 (by decide) ?_
        refine zw_iload_n hX dX2_traceRing_70 rfl ?_
        refine zw_bipush (v := (25 : Int32)) hX dX2_traceRing_71 (by decide) ?_
        refine zw_imul hX dX2_traceRing_73 ?_
        refine zw_iload hX dX2_traceRing_74 rfl ?_
        refine zw_iadd hX dX2_traceRing_76 ?_
        refine zw_imul hX dX2_traceRing_77 ?_
        refine zw_iload hX dX2_traceRing_78 rfl ?_
        refine zw_iadd hX dX2_traceRing_80 ?_
        refine zw_iconst (v := (1 : Int32)) hX dX2_traceRing_81 (by decide) ?_
        obtain ⟨S8, g, h⟩ := zb_some h
        refine zw_sz hX dX2_traceRing_82 g ?_
        refine zw_aload_n hX dX2_traceRing_83 rfl ?_
        refine zw_iload_n hX dX2_traceRing_84 rfl ?_
        refine zw_iload hX dX2_traceRing_85 rfl ?_
        refine zw_iload hX dX2_traceRing_87 rfl ?_
        obtain ⟨_, gi, h⟩ := zb_some h
        obtain ⟨r11, g, h⟩ := zb_some h
        refine zc_Vi (as := [.int i3, .int i4, .int i5]) hX gi (zt_X2_pieceLength (d := d - 1) (by omega) g) zl_X2_151 rfl dX2_traceRing_89 ⟨rfl, rfl, Nat.le_of_ble_eq_true rfl⟩ ⟨by omega, by omega⟩ ?_
        refine zw_istore hX dX2_traceRing_92 (by decide) ?_
        refine zw_aload_n hX dX2_traceRing_94 rfl ?_
        refine zw_iload_n hX dX2_traceRing_95 rfl ?_
        refine zw_iload hX dX2_traceRing_96 rfl ?_
        refine zw_iload hX dX2_traceRing_98 rfl ?_
        refine zw_iload hX dX2_traceRing_100 rfl ?_
        obtain ⟨_, gi, h⟩ := zb_some h
        obtain ⟨r14, g, h⟩ := zb_some h
        refine zc_Vv (as := [.int i3, .int i4, .int i5, .int r11.1]) hX gi (zt_X2_noteSide (d := d - 1) (by omega) g) zl_X2_154 rfl dX2_traceRing_102 ⟨rfl, rfl, Nat.le_of_ble_eq_true rfl⟩ ⟨by omega, by omega⟩ ?_
        refine zw_iload hX dX2_traceRing_105 rfl ?_
        refine zw_iload hX dX2_traceRing_107 rfl ?_
        refine zw_iadd hX dX2_traceRing_109 ?_
        refine zw_istore hX dX2_traceRing_110 (by decide) ?_
        refine zw_iload_n hX dX2_traceRing_112 rfl ?_
        refine zw_iload hX dX2_traceRing_113 rfl ?_
        refine zw_gets (C := "TowerHouse$Finding") (n := "SIDE_X") (d := "[I") (k := 2) hX (List.mem_of_getElem? (i := 1) rfl) (by decide) zl_X2_158 dX2_traceRing_115 ?_
        refine zw_iload hX dX2_traceRing_118 rfl ?_
        obtain ⟨v15, g, h⟩ := zb_some h
        refine zw_xi hX dX2_traceRing_120 g ?_
        refine zw_imul hX dX2_traceRing_121 ?_
        refine zw_iadd hX dX2_traceRing_122 ?_
        refine zw_istore_n hX dX2_traceRing_123 (by decide) ?_
        refine zw_iload hX dX2_traceRing_124 rfl ?_
        refine zw_iload hX dX2_traceRing_126 rfl ?_
        refine zw_gets (C := "TowerHouse$Finding") (n := "SIDE_Y") (d := "[I") (k := 3) hX (List.mem_of_getElem? (i := 2) rfl) (by decide) zl_X2_161 dX2_traceRing_128 ?_
        refine zw_iload hX dX2_traceRing_131 rfl ?_
        obtain ⟨v16, g, h⟩ := zb_some h
        refine zw_xi hX dX2_traceRing_133 g ?_
        refine zw_imul hX dX2_traceRing_134 ?_
        refine zw_iadd hX dX2_traceRing_135 ?_
        refine zw_istore hX dX2_traceRing_136 (by decide) ?_
        refine zw_aload_n hX dX2_traceRing_138 rfl ?_
        refine zw_iload_n hX dX2_traceRing_139 rfl ?_
        refine zw_iload hX dX2_traceRing_140 rfl ?_
        refine zw_iload hX dX2_traceRing_142 rfl ?_
        obtain ⟨_, gi, h⟩ := zb_some h
        obtain ⟨r19, g, h⟩ := zb_some h
        refine zc_Vi (as := [.int (i3 + (r11.1 * v15)), .int (i4 + (r11.1 * v16)), .int i5]) hX gi (zt_X2_turnAt (d := d - 1) (by omega) g) zl_X2_164 rfl dX2_traceRing_144 ⟨rfl, rfl, Nat.le_of_ble_eq_true rfl⟩ ⟨by omega, by omega⟩ ?_
        refine zw_istore hX dX2_traceRing_147 (by decide) ?_
        refine zw_iinc (v := (i9 + (1 : Int32))) hX dX2_traceRing_149 rfl rfl (by decide) ?_
        refine zw_goto (tgt := 37) hX dX2_traceRing_152 (by decide) ?_
        refine zw_sub (lv' := [(0, .ref a0), (3, .int (i3 + (r11.1 * v15))), (4, .int (i4 + (r11.1 * v16))), (5, .int r19.1), (6, .int i6), (7, .int i7), (8, .int (i8 + r11.1)), (9, .int (i9 + (1 : Int32)))]) (List.forall_mem_cons.mpr ⟨rfl, (List.forall_mem_cons.mpr ⟨rfl, (List.forall_mem_cons.mpr ⟨rfl, (List.forall_mem_cons.mpr ⟨rfl, (List.forall_mem_cons.mpr ⟨rfl, (List.forall_mem_cons.mpr ⟨rfl, (List.forall_mem_cons.mpr ⟨rfl, (List.forall_mem_cons.mpr ⟨rfl, zs_nil⟩)⟩)⟩)⟩)⟩)⟩)⟩)⟩) ?_
        exact ih _ _ _ _ _ _ h
def zf_X2_traceRing_J155 (N : Nat) (a0 : Nat) (i6 : Int32) (i7 : Int32) (i8 : Int32) (S : zm_S) : Option (Unit × zm_S) := (zg_r S a0 2 13).bind (fun b22 => (zg_i S a0 2 12).bind (fun v23 => (za_r S b22 v23).bind (fun b24 => (zs_i S b24 (0 : Int32) i6).bind (fun S25 => (zs_i S25 b24 (1 : Int32) i7).bind (fun S26 => (zg_i S26 a0 2 14).bind (fun v27 => (zs_i S26 b24 (2 : Int32) (v27 - i7)).bind (fun S28 => (zg_i S28 a0 2 12).bind (fun v29 => (zp S28 a0 2 12 (.int (v29 + (1 : Int32)))).bind (fun S30 => if i6 < 0 then some ((), S30) else (zg_r S30 a0 2 11).bind (fun b31 => (za_x S30 0 b31 i6).bind (fun v32 => (zs_i S30 b31 i6 (v32 + i8)).bind (fun S33 => some ((), S33)))))))))))))
set_option maxHeartbeats 4000000 in
set_option maxRecDepth 100000 in
theorem zt_X2_traceRing_J155 {p : Program} {l : Launch} {e : Env} {R : Room} {s : State} {m : MethodId} {args : Array Value} {below : List Frame} {meth : Method} {c : Code} {V : zm_V} {mc ms d rc rs : Nat} (hX : zm_X p R s m args meth c RX2 "traceRing" cX2_traceRing 11 zk_E V mc ms) (hr : meth.sig.returnType = none) (hR : R.frames = d ∧ R.locals = 64 * d) (hd : 4 ≤ d) {N : Nat} {a0 : Nat} {i6 : Int32} {i7 : Int32} {i8 : Int32} {out : (Unit × zm_S)} {S : zm_S} (h : zf_X2_traceRing_J155 N a0 i6 i7 i8 S = some out) : zw p l e R s m args below meth c (vx_MQ below (zm_Qc zk_E V (zo_v out)) (zm_XC zk_E V zo_x) args s mc ms (fun q => V.2.2.2.1 ≤ q)) 11 zk_E V mc ms 155 [(0, .ref a0), (6, .int i6), (7, .int i7), (8, .int i8)] [] S rc rs := by
  unfold zf_X2_traceRing_J155 at h
  refine zw_aload_n hX dX2_traceRing_155 rfl ?_
  obtain ⟨b22, g, h⟩ := zb_some h
  refine zw_getr hX zl_X2_39 dX2_traceRing_156 g ?_
  refine zw_aload_n hX dX2_traceRing_159 rfl ?_
  obtain ⟨v23, g, h⟩ := zb_some h
  refine zw_geti hX zl_X2_139 dX2_traceRing_160 g ?_
  obtain ⟨b24, g, h⟩ := zb_some h
  refine zw_xr hX dX2_traceRing_163 g ?_
  refine zw_astore hX dX2_traceRing_164 (by decide) ?_
  refine zw_aload hX dX2_traceRing_166 rfl ?_
  refine zw_iconst (v := (0 : Int32)) hX dX2_traceRing_168 (by decide) ?_
  refine zw_iload hX dX2_traceRing_169 rfl ?_
  obtain ⟨S25, g, h⟩ := zb_some h
  refine zw_si hX dX2_traceRing_171 g ?_
  refine zw_aload hX dX2_traceRing_172 rfl ?_
  refine zw_iconst (v := (1 : Int32)) hX dX2_traceRing_174 (by decide) ?_
  refine zw_iload hX dX2_traceRing_175 rfl ?_
  obtain ⟨S26, g, h⟩ := zb_some h
  refine zw_si hX dX2_traceRing_177 g ?_
  refine zw_aload hX dX2_traceRing_178 rfl ?_
  refine zw_iconst (v := (2 : Int32)) hX dX2_traceRing_180 (by decide) ?_
  refine zw_aload_n hX dX2_traceRing_181 rfl ?_
  obtain ⟨v27, g, h⟩ := zb_some h
  refine zw_geti hX zl_X2_142 dX2_traceRing_182 g ?_
  refine zw_iload hX dX2_traceRing_185 rfl ?_
  refine zw_isub hX dX2_traceRing_187 ?_
  obtain ⟨S28, g, h⟩ := zb_some h
  refine zw_si hX dX2_traceRing_188 g ?_
  refine zw_aload_n hX dX2_traceRing_189 rfl ?_
  refine zw_dup hX dX2_traceRing_190 rfl ?_
  obtain ⟨v29, g, h⟩ := zb_some h
  refine zw_geti hX zl_X2_139 dX2_traceRing_191 g ?_
  refine zw_iconst (v := (1 : Int32)) hX dX2_traceRing_194 (by decide) ?_
  refine zw_iadd hX dX2_traceRing_195 ?_
  obtain ⟨S30, g, h⟩ := zb_some h
  refine zw_putv hX zl_X2_139 zt_2_12 dX2_traceRing_196 rfl rfl g ?_
  refine zw_iload hX dX2_traceRing_199 rfl ?_
  refine zw_if_lt (tgt := 216) hX dX2_traceRing_201 (by decide) (fun c201 => ?_) (fun c201 => ?_)
  · rw [if_pos c201] at h
    obtain rfl := Option.some.inj h
    exact zw_vret hX hr dX2_traceRing_216 ⟨rfl, rfl⟩
  · rw [if_neg c201] at h
    refine zw_aload_n hX dX2_traceRing_204 rfl ?_
    obtain ⟨b31, g, h⟩ := zb_some h
    refine zw_getr hX zl_X2_36 dX2_traceRing_205 g ?_
    refine zw_iload hX dX2_traceRing_208 rfl ?_
    refine zw_dup2 hX dX2_traceRing_210 rfl rfl ?_
    obtain ⟨v32, g, h⟩ := zb_some h
    refine zw_xi hX dX2_traceRing_211 g ?_
    refine zw_iload hX dX2_traceRing_212 rfl ?_
    refine zw_iadd hX dX2_traceRing_214 ?_
    obtain ⟨S33, g, h⟩ := zb_some h
    refine zw_si hX dX2_traceRing_215 g ?_
    obtain rfl := Option.some.inj h
    exact zw_vret hX hr dX2_traceRing_216 ⟨rfl, rfl⟩
def zf_X2_traceRing (N : Nat) (a0 : Nat) (i1 : Int32) (i2 : Int32) (S : zm_S) : Option (Unit × zm_S) := (zi S a0 2).bind (fun _ => (zf_X2_leftOf N a0 (i1 / (25 : Int32)) (i1 - i1 / (25 : Int32) * (25 : Int32)) i2 S).bind (fun r3 => (zg_i r3.2 a0 2 14).bind (fun v4 => (zf_X2_traceRing_L37 N N a0 (i1 / (25 : Int32)) (i1 - i1 / (25 : Int32) * (25 : Int32)) i2 r3.1 v4 (0 : Int32) (0 : Int32) r3.2).bind (fun r => match r with | .inl o => some o | .inr (v21, S20) => zf_X2_traceRing_J155 N a0 r3.1 v4 v21 S20))))
set_option maxHeartbeats 4000000 in
set_option maxRecDepth 100000 in
theorem zt_X2_traceRing {l : Launch} {V : zm_V} {N : Nat} {S : zm_S} {out : (Unit × zm_S)} {d : Nat} {a0 : Nat} {i1 : Int32} {i2 : Int32} (hd : 4 ≤ d) (h : zf_X2_traceRing N a0 i1 i2 S = some out) : zm_Met l zk_E V yX2_traceRing (.code yX2_traceRing cX2_traceRing 11 none) d [.ref a0, .int i1, .int i2] S 0 0 (zo_v out) zo_x := by
  refine zm_of (by decide +kernel) (Nat.le_of_ble_eq_true rfl) ?_
  intro p e R s m args below meth c hRR hX hr hxt
  have hR : R.frames = d ∧ R.locals = 64 * d := by rw [hRR]; exact ⟨rfl, rfl⟩
  have hX : zm_X p R s m args meth c RX2 "traceRing" cX2_traceRing 11 zk_E V 0 0 := hX
  unfold zf_X2_traceRing at h
  refine zw_sub (lv' := [(0, .ref a0), (1, .int i1), (2, .int i2)]) (List.forall_mem_cons.mpr ⟨rfl, (List.forall_mem_cons.mpr ⟨rfl, (List.forall_mem_cons.mpr ⟨rfl, zs_nil⟩)⟩)⟩) ?_
  refine zw_iload_n hX dX2_traceRing_0 rfl ?_
  refine zw_bipush (v := (25 : Int32)) hX dX2_traceRing_1 (by decide) ?_
  refine zw_idiv hX dX2_traceRing_3 (by decide) ?_
  refine zw_istore_n hX dX2_traceRing_4 (by decide) ?_
  refine zw_iload_n hX dX2_traceRing_5 rfl ?_
  refine zw_bipush (v := (25 : Int32)) hX dX2_traceRing_6 (by decide) ?_
  refine zw_irem hX dX2_traceRing_8 (by decide) ?_
  refine zw_istore hX dX2_traceRing_9 (by decide) ?_
  refine zw_iload_n hX dX2_traceRing_11 rfl ?_
  refine zw_istore hX dX2_traceRing_12 (by decide) ?_
  refine zw_aload_n hX dX2_traceRing_14 rfl ?_
  refine zw_iload_n hX dX2_traceRing_15 rfl ?_
  refine zw_iload hX dX2_traceRing_16 rfl ?_
  refine zw_iload hX dX2_traceRing_18 rfl ?_
  obtain ⟨_, gi, h⟩ := zb_some h
  obtain ⟨r3, g, h⟩ := zb_some h
  refine zc_Vi (as := [.int (i1 / (25 : Int32)), .int (i1 - i1 / (25 : Int32) * (25 : Int32)), .int i2]) hX gi (zt_X2_leftOf (d := d - 1) (by omega) g) zl_X2_148 rfl dX2_traceRing_20 ⟨rfl, rfl, Nat.le_of_ble_eq_true rfl⟩ ⟨by omega, by omega⟩ ?_
  refine zw_istore hX dX2_traceRing_23 (by decide) ?_
  refine zw_aload_n hX dX2_traceRing_25 rfl ?_
  obtain ⟨v4, g, h⟩ := zb_some h
  refine zw_geti hX zl_X2_142 dX2_traceRing_26 g ?_
  refine zw_istore hX dX2_traceRing_29 (by decide) ?_
  refine zw_iconst (v := (0 : Int32)) hX dX2_traceRing_31 (by decide) ?_
  refine zw_istore hX dX2_traceRing_32 (by decide) ?_
  refine zw_iconst (v := (0 : Int32)) hX dX2_traceRing_34 (by decide) ?_
  refine zw_istore hX dX2_traceRing_35 (by decide) ?_
  obtain ⟨r, g, h⟩ := zb_some h
  refine zw_sub (lv' := [(0, .ref a0), (3, .int (i1 / (25 : Int32))), (4, .int (i1 - i1 / (25 : Int32) * (25 : Int32))), (5, .int i2), (6, .int r3.1), (7, .int v4), (8, .int (0 : Int32)), (9, .int (0 : Int32))]) (List.forall_mem_cons.mpr ⟨rfl, (List.forall_mem_cons.mpr ⟨rfl, (List.forall_mem_cons.mpr ⟨rfl, (List.forall_mem_cons.mpr ⟨rfl, (List.forall_mem_cons.mpr ⟨rfl, (List.forall_mem_cons.mpr ⟨rfl, (List.forall_mem_cons.mpr ⟨rfl, (List.forall_mem_cons.mpr ⟨rfl, zs_nil⟩)⟩)⟩)⟩)⟩)⟩)⟩)⟩) ?_
  refine zt_X2_traceRing_L37 hX hr hR hd (res := r) (out := out) a0 r3.1 v4 ?_ ?_ N _ _ _ _ _ _ g
  · intro o ho
    subst ho
    exact Option.some.inj h
  · intro v21 S20 hx
    subst hx
    try dsimp only at h
    refine zw_sub (lv' := [(0, .ref a0), (6, .int r3.1), (7, .int v4), (8, .int v21)]) (List.forall_mem_cons.mpr ⟨rfl, (List.forall_mem_cons.mpr ⟨rfl, (List.forall_mem_cons.mpr ⟨rfl, (List.forall_mem_cons.mpr ⟨rfl, zs_nil⟩)⟩)⟩)⟩) ?_
    exact zt_X2_traceRing_J155 hX hr hR hd h
def zf_X2_traceRings_L12 (N : Nat) : Nat → Nat → Int32 → zm_S → Option ((Unit × zm_S) ⊕ ((Unit) × zm_S))
  | 0, _, _, _ => none
  | n + 1, a0, i1, S => (zg_r S a0 2 16).bind (fun b3 => (za_n S b3).bind (fun v4 => if v4 ≤ i1 then some (.inr ((), S)) else (zg_r S a0 2 16).bind (fun b5 => (zs_z S b5 i1 (0 : Int32)).bind (fun S6 => zf_X2_traceRings_L12 N n a0 (i1 + (1 : Int32)) S6))))
set_option maxHeartbeats 4000000 in
set_option maxRecDepth 100000 in
theorem zt_X2_traceRings_L12 {p : Program} {l : Launch} {e : Env} {R : Room} {s : State} {m : MethodId} {args : Array Value} {below : List Frame} {meth : Method} {c : Code} {V : zm_V} {mc ms d rc rs : Nat} (hX : zm_X p R s m args meth c RX2 "traceRings" cX2_traceRings 4 zk_E V mc ms) (hr : meth.sig.returnType = none) (hR : R.frames = d ∧ R.locals = 64 * d) (hd : 5 ≤ d) {N : Nat} {res : (Unit × zm_S) ⊕ ((Unit) × zm_S)} {out : (Unit × zm_S)} (a0 : Nat) (hf : ∀ o, res = .inl o → o = out) (hk : ∀ (S' : zm_S), res = .inr ((), S') → zw p l e R s m args below meth c (vx_MQ below (zm_Qc zk_E V (zo_v out)) (zm_XC zk_E V zo_x) args s mc ms (fun q => V.2.2.2.1 ≤ q)) 4 zk_E V mc ms 34 [(0, .ref a0)] [] S' rc rs) : ∀ (n : Nat) (i1 : Int32) (S : zm_S), zf_X2_traceRings_L12 N n a0 i1 S = some res → zw p l e R s m args below meth c (vx_MQ below (zm_Qc zk_E V (zo_v out)) (zm_XC zk_E V zo_x) args s mc ms (fun q => V.2.2.2.1 ≤ q)) 4 zk_E V mc ms 12 [(0, .ref a0), (1, .int i1)] [] S rc rs := by
  intro n
  induction n with
  | zero => intro i1 S h; cases h
  | succ n ih =>
    intro i1 S h
    rw [zf_X2_traceRings_L12] at h
    refine zw_iload_n hX dX2_traceRings_12 rfl ?_
    refine zw_aload_n hX dX2_traceRings_13 rfl ?_
    obtain ⟨b3, g, h⟩ := zb_some h
    refine zw_getr hX zl_X2_45 dX2_traceRings_14 g ?_
    obtain ⟨v4, g, h⟩ := zb_some h
    refine zw_len hX dX2_traceRings_17 g ?_
    refine zw_icmp_ge (tgt := 34) hX dX2_traceRings_18 (by decide) (fun c18 => ?_) (fun c18 => ?_)
    · rw [if_pos c18] at h
      refine zw_sub (lv' := [(0, .ref a0)]) (List.forall_mem_cons.mpr ⟨rfl, zs_nil⟩) ?_
      exact hk  _ (Option.some.inj h).symm
    · rw [if_neg c18] at h
      refine zw_aload_n hX dX2_traceRings_21 rfl ?_
      obtain ⟨b5, g, h⟩ := zb_some h
      refine zw_getr hX zl_X2_45 dX2_traceRings_22 g ?_
      refine zw_iload_n hX dX2_traceRings_25 rfl ?_
      refine zw_iconst (v := (0 : Int32)) hX dX2_traceRings_26 (by decide) ?_
      obtain ⟨S6, g, h⟩ := zb_some h
      refine zw_sz hX dX2_traceRings_27 g ?_
      refine zw_iinc (v := (i1 + (1 : Int32))) hX dX2_traceRings_28 rfl rfl (by decide) ?_
      refine zw_goto (tgt := 12) hX dX2_traceRings_31 (by decide) ?_
      refine zw_sub (lv' := [(0, .ref a0), (1, .int (i1 + (1 : Int32)))]) (List.forall_mem_cons.mpr ⟨rfl, (List.forall_mem_cons.mpr ⟨rfl, zs_nil⟩)⟩) ?_
      exact ih _ _ h
def zf_X2_traceRings_J89 (N : Nat) (k : Nat → Int32 → Int32 → zm_S → Option ((Unit × zm_S) ⊕ ((Unit) × zm_S))) (a0 : Nat) (i1 : Int32) (i2 : Int32) (t0 : Int32) (S : zm_S) : Option ((Unit × zm_S) ⊕ ((Unit) × zm_S)) := if t0 = 0 then k a0 i1 (i2 + (1 : Int32)) S else (zg_r S a0 2 16).bind (fun b14 => (za_x S 2 b14 (((4 : Int32) * i1) + i2)).bind (fun v15 => if v15 = 0 then (zg_i S a0 2 12).bind (fun v16 => if (220 : Int32) ≤ v16 then k a0 i1 (i2 + (1 : Int32)) S else (zi S a0 2).bind (fun _ => (zf_X2_traceRing N a0 i1 i2 S).bind (fun r19 => k a0 i1 (i2 + (1 : Int32)) r19.2))) else k a0 i1 (i2 + (1 : Int32)) S))
set_option maxHeartbeats 4000000 in
set_option maxRecDepth 100000 in
theorem zt_X2_traceRings_J89 {p : Program} {l : Launch} {e : Env} {R : Room} {s : State} {m : MethodId} {args : Array Value} {below : List Frame} {meth : Method} {c : Code} {V : zm_V} {mc ms d rc rs : Nat} (hX : zm_X p R s m args meth c RX2 "traceRings" cX2_traceRings 4 zk_E V mc ms) (hr : meth.sig.returnType = none) (hR : R.frames = d ∧ R.locals = 64 * d) (hd : 5 ≤ d) {N : Nat} {k : Nat → Int32 → Int32 → zm_S → Option ((Unit × zm_S) ⊕ ((Unit) × zm_S))} {a0 : Nat} {i1 : Int32} {i2 : Int32} {t0 : Int32} {res : (Unit × zm_S) ⊕ ((Unit) × zm_S)} {out : (Unit × zm_S)}   (hf : ∀ o, res = .inl o → o = out) (hk : ∀ (S' : zm_S), res = .inr ((), S') → zw p l e R s m args below meth c (vx_MQ below (zm_Qc zk_E V (zo_v out)) (zm_XC zk_E V zo_x) args s mc ms (fun q => V.2.2.2.1 ≤ q)) 4 zk_E V mc ms 129 [(0, .ref a0), (1, .int i1)] [] S' rc rs) (hrec : ∀ (i2' : Int32) (S : zm_S), k a0 i1 i2' S = some res → zw p l e R s m args below meth c (vx_MQ below (zm_Qc zk_E V (zo_v out)) (zm_XC zk_E V zo_x) args s mc ms (fun q => V.2.2.2.1 ≤ q)) 4 zk_E V mc ms 53 [(0, .ref a0), (1, .int i1), (2, .int i2')] [] S rc rs) {S : zm_S} (h : zf_X2_traceRings_J89 N k a0 i1 i2 t0 S = some res) : zw p l e R s m args below meth c (vx_MQ below (zm_Qc zk_E V (zo_v out)) (zm_XC zk_E V zo_x) args s mc ms (fun q => V.2.2.2.1 ≤ q)) 4 zk_E V mc ms 89 [(0, .ref a0), (1, .int i1), (2, .int i2)] [.int t0] S rc rs := by
  unfold zf_X2_traceRings_J89 at h
  refine zw_istore_n hX dX2_traceRings_89 (by decide) ?_
  refine zw_iload_n hX dX2_traceRings_90 rfl ?_
  refine zw_if_eq (tgt := 123) hX dX2_traceRings_91 (by decide) (fun c91 => ?_) (fun c91 => ?_)
  · rw [if_pos c91] at h
    refine zw_iinc (v := (i2 + (1 : Int32))) hX dX2_traceRings_123 rfl rfl (by decide) ?_
    refine zw_goto (tgt := 53) hX dX2_traceRings_126 (by decide) ?_
    refine zw_sub (lv' := [(0, .ref a0), (1, .int i1), (2, .int (i2 + (1 : Int32)))]) (List.forall_mem_cons.mpr ⟨rfl, (List.forall_mem_cons.mpr ⟨rfl, (List.forall_mem_cons.mpr ⟨rfl, zs_nil⟩)⟩)⟩) ?_
    exact hrec _ _ h
  · rw [if_neg c91] at h
    refine zw_aload_n hX dX2_traceRings_94 rfl ?_
    obtain ⟨b14, g, h⟩ := zb_some h
    refine zw_getr hX zl_X2_45 dX2_traceRings_95 g ?_
    refine zw_iconst (v := (4 : Int32)) hX dX2_traceRings_98 (by decide) ?_
    refine zw_iload_n hX dX2_traceRings_99 rfl ?_
    refine zw_imul hX dX2_traceRings_100 ?_
    refine zw_iload_n hX dX2_traceRings_101 rfl ?_
    refine zw_iadd hX dX2_traceRings_102 ?_
    obtain ⟨v15, g, h⟩ := zb_some h
    refine zw_xz hX dX2_traceRings_103 g ?_
    refine zw_if_ne (tgt := 123) hX dX2_traceRings_104 (by decide) (fun c104 => ?_) (fun c104 => ?_)
    · rw [if_neg c104] at h
      refine zw_iinc (v := (i2 + (1 : Int32))) hX dX2_traceRings_123 rfl rfl (by decide) ?_
      refine zw_goto (tgt := 53) hX dX2_traceRings_126 (by decide) ?_
      refine zw_sub (lv' := [(0, .ref a0), (1, .int i1), (2, .int (i2 + (1 : Int32)))]) (List.forall_mem_cons.mpr ⟨rfl, (List.forall_mem_cons.mpr ⟨rfl, (List.forall_mem_cons.mpr ⟨rfl, zs_nil⟩)⟩)⟩) ?_
      exact hrec _ _ h
    · rw [if_pos c104] at h
      refine zw_aload_n hX dX2_traceRings_107 rfl ?_
      obtain ⟨v16, g, h⟩ := zb_some h
      refine zw_geti hX zl_X2_139 dX2_traceRings_108 g ?_
      refine zw_sipush (v := (220 : Int32)) hX dX2_traceRings_111 (by decide) ?_
      refine zw_icmp_ge (tgt := 123) hX dX2_traceRings_114 (by decide) (fun c114 => ?_) (fun c114 => ?_)
      · rw [if_pos c114] at h
        refine zw_iinc (v := (i2 + (1 : Int32))) hX dX2_traceRings_123 rfl rfl (by decide) ?_
        refine zw_goto (tgt := 53) hX dX2_traceRings_126 (by decide) ?_
        refine zw_sub (lv' := [(0, .ref a0), (1, .int i1), (2, .int (i2 + (1 : Int32)))]) (List.forall_mem_cons.mpr ⟨rfl, (List.forall_mem_cons.mpr ⟨rfl, (List.forall_mem_cons.mpr ⟨rfl, zs_nil⟩)⟩)⟩) ?_
        exact hrec _ _ h
      · rw [if_neg c114] at h
        refine zw_aload_n hX dX2_traceRings_117 rfl ?_
        refine zw_iload_n hX dX2_traceRings_118 rfl ?_
        refine zw_iload_n hX dX2_traceRings_119 rfl ?_
        obtain ⟨_, gi, h⟩ := zb_some h
        obtain ⟨r19, g, h⟩ := zb_some h
        refine zc_Vv (as := [.int i1, .int i2]) hX gi (zt_X2_traceRing (d := d - 1) (by omega) g) zl_X2_145 rfl dX2_traceRings_120 ⟨rfl, rfl, Nat.le_of_ble_eq_true rfl⟩ ⟨by omega, by omega⟩ ?_
        refine zw_iinc (v := (i2 + (1 : Int32))) hX dX2_traceRings_123 rfl rfl (by decide) ?_
        refine zw_goto (tgt := 53) hX dX2_traceRings_126 (by decide) ?_
        refine zw_sub (lv' := [(0, .ref a0), (1, .int i1), (2, .int (i2 + (1 : Int32)))]) (List.forall_mem_cons.mpr ⟨rfl, (List.forall_mem_cons.mpr ⟨rfl, (List.forall_mem_cons.mpr ⟨rfl, zs_nil⟩)⟩)⟩) ?_
        exact hrec _ _ h
def zf_X2_traceRings_J88 (N : Nat) (k : Nat → Int32 → Int32 → zm_S → Option ((Unit × zm_S) ⊕ ((Unit) × zm_S))) (a0 : Nat) (i1 : Int32) (i2 : Int32) (S : zm_S) : Option ((Unit × zm_S) ⊕ ((Unit) × zm_S)) := zf_X2_traceRings_J89 N (k) a0 i1 i2 (0 : Int32) S
set_option maxHeartbeats 4000000 in
set_option maxRecDepth 100000 in
theorem zt_X2_traceRings_J88 {p : Program} {l : Launch} {e : Env} {R : Room} {s : State} {m : MethodId} {args : Array Value} {below : List Frame} {meth : Method} {c : Code} {V : zm_V} {mc ms d rc rs : Nat} (hX : zm_X p R s m args meth c RX2 "traceRings" cX2_traceRings 4 zk_E V mc ms) (hr : meth.sig.returnType = none) (hR : R.frames = d ∧ R.locals = 64 * d) (hd : 5 ≤ d) {N : Nat} {k : Nat → Int32 → Int32 → zm_S → Option ((Unit × zm_S) ⊕ ((Unit) × zm_S))} {a0 : Nat} {i1 : Int32} {i2 : Int32} {res : (Unit × zm_S) ⊕ ((Unit) × zm_S)} {out : (Unit × zm_S)}   (hf : ∀ o, res = .inl o → o = out) (hk : ∀ (S' : zm_S), res = .inr ((), S') → zw p l e R s m args below meth c (vx_MQ below (zm_Qc zk_E V (zo_v out)) (zm_XC zk_E V zo_x) args s mc ms (fun q => V.2.2.2.1 ≤ q)) 4 zk_E V mc ms 129 [(0, .ref a0), (1, .int i1)] [] S' rc rs) (hrec : ∀ (i2' : Int32) (S : zm_S), k a0 i1 i2' S = some res → zw p l e R s m args below meth c (vx_MQ below (zm_Qc zk_E V (zo_v out)) (zm_XC zk_E V zo_x) args s mc ms (fun q => V.2.2.2.1 ≤ q)) 4 zk_E V mc ms 53 [(0, .ref a0), (1, .int i1), (2, .int i2')] [] S rc rs) {S : zm_S} (h : zf_X2_traceRings_J88 N k a0 i1 i2 S = some res) : zw p l e R s m args below meth c (vx_MQ below (zm_Qc zk_E V (zo_v out)) (zm_XC zk_E V zo_x) args s mc ms (fun q => V.2.2.2.1 ≤ q)) 4 zk_E V mc ms 88 [(0, .ref a0), (1, .int i1), (2, .int i2)] [] S rc rs := by
  unfold zf_X2_traceRings_J88 at h
  refine zw_iconst (v := (0 : Int32)) hX dX2_traceRings_88 (by decide) ?_
  refine zw_sub (lv' := [(0, .ref a0), (1, .int i1), (2, .int i2)]) (List.forall_mem_cons.mpr ⟨rfl, (List.forall_mem_cons.mpr ⟨rfl, (List.forall_mem_cons.mpr ⟨rfl, zs_nil⟩)⟩)⟩) ?_
  exact zt_X2_traceRings_J89 hX hr hR hd hf hk hrec h
def zf_X2_traceRings_L53 (N : Nat) : Nat → Nat → Int32 → Int32 → zm_S → Option ((Unit × zm_S) ⊕ ((Unit) × zm_S))
  | 0, _, _, _, _ => none
  | n + 1, a0, i1, i2, S => if (4 : Int32) ≤ i2 then some (.inr ((), S)) else (zg_r S a0 2 5).bind (fun b12 => (za_x S 2 b12 i1).bind (fun v13 => if v13 = 0 then zf_X2_traceRings_J88 N (zf_X2_traceRings_L53 N n) a0 i1 i2 S else (zi S a0 2).bind (fun _ => (zf_X2_wallFrom N a0 (i1 / (25 : Int32)) (i1 - i1 / (25 : Int32) * (25 : Int32)) i2 S).bind (fun r22 => if r22.1 = (-1 : Int32) then zf_X2_traceRings_J88 N (zf_X2_traceRings_L53 N n) a0 i1 i2 r22.2 else zf_X2_traceRings_J89 N (zf_X2_traceRings_L53 N n) a0 i1 i2 (1 : Int32) r22.2))))
set_option maxHeartbeats 4000000 in
set_option maxRecDepth 100000 in
theorem zt_X2_traceRings_L53 {p : Program} {l : Launch} {e : Env} {R : Room} {s : State} {m : MethodId} {args : Array Value} {below : List Frame} {meth : Method} {c : Code} {V : zm_V} {mc ms d rc rs : Nat} (hX : zm_X p R s m args meth c RX2 "traceRings" cX2_traceRings 4 zk_E V mc ms) (hr : meth.sig.returnType = none) (hR : R.frames = d ∧ R.locals = 64 * d) (hd : 5 ≤ d) {N : Nat} {res : (Unit × zm_S) ⊕ ((Unit) × zm_S)} {out : (Unit × zm_S)} (a0 : Nat) (i1 : Int32) (hf : ∀ o, res = .inl o → o = out) (hk : ∀ (S' : zm_S), res = .inr ((), S') → zw p l e R s m args below meth c (vx_MQ below (zm_Qc zk_E V (zo_v out)) (zm_XC zk_E V zo_x) args s mc ms (fun q => V.2.2.2.1 ≤ q)) 4 zk_E V mc ms 129 [(0, .ref a0), (1, .int i1)] [] S' rc rs) : ∀ (n : Nat) (i2 : Int32) (S : zm_S), zf_X2_traceRings_L53 N n a0 i1 i2 S = some res → zw p l e R s m args below meth c (vx_MQ below (zm_Qc zk_E V (zo_v out)) (zm_XC zk_E V zo_x) args s mc ms (fun q => V.2.2.2.1 ≤ q)) 4 zk_E V mc ms 53 [(0, .ref a0), (1, .int i1), (2, .int i2)] [] S rc rs := by
  intro n
  induction n with
  | zero => intro i2 S h; cases h
  | succ n ih =>
    intro i2 S h
    rw [zf_X2_traceRings_L53] at h
    refine zw_iload_n hX dX2_traceRings_53 rfl ?_
    refine zw_iconst (v := (4 : Int32)) hX dX2_traceRings_54 (by decide) ?_
    refine zw_icmp_ge (tgt := 129) hX dX2_traceRings_55 (by decide) (fun c55 => ?_) (fun c55 => ?_)
    · rw [if_pos c55] at h
      refine zw_sub (lv' := [(0, .ref a0), (1, .int i1)]) (List.forall_mem_cons.mpr ⟨rfl, (List.forall_mem_cons.mpr ⟨rfl, zs_nil⟩)⟩) ?_
      exact hk  _ (Option.some.inj h).symm
    · rw [if_neg c55] at h
      refine zw_aload_n hX dX2_traceRings_58 rfl ?_
      obtain ⟨b12, g, h⟩ := zb_some h
      refine zw_getr hX zl_X2_16 dX2_traceRings_59 g ?_
      refine zw_iload_n hX dX2_traceRings_62 rfl ?_
      obtain ⟨v13, g, h⟩ := zb_some h
      refine zw_xz hX dX2_traceRings_63 g ?_
      refine zw_if_eq (tgt := 88) hX dX2_traceRings_64 (by decide) (fun c64 => ?_) (fun c64 => ?_)
      · rw [if_pos c64] at h
        refine zw_sub (lv' := [(0, .ref a0), (1, .int i1), (2, .int i2)]) (List.forall_mem_cons.mpr ⟨rfl, (List.forall_mem_cons.mpr ⟨rfl, (List.forall_mem_cons.mpr ⟨rfl, zs_nil⟩)⟩)⟩) ?_
        exact zt_X2_traceRings_J88 hX hr hR hd hf hk ih h
      · rw [if_neg c64] at h
        refine zw_aload_n hX dX2_traceRings_67 rfl ?_
        refine zw_iload_n hX dX2_traceRings_68 rfl ?_
        refine zw_bipush (v := (25 : Int32)) hX dX2_traceRings_69 (by decide) ?_
        refine zw_idiv hX dX2_traceRings_71 (by decide) ?_
        refine zw_iload_n hX dX2_traceRings_72 rfl ?_
        refine zw_bipush (v := (25 : Int32)) hX dX2_traceRings_73 (by decide) ?_
        refine zw_irem hX dX2_traceRings_75 (by decide) ?_
        refine zw_iload_n hX dX2_traceRings_76 rfl ?_
        obtain ⟨_, gi, h⟩ := zb_some h
        obtain ⟨r22, g, h⟩ := zb_some h
        refine zc_Vi (as := [.int (i1 / (25 : Int32)), .int (i1 - i1 / (25 : Int32) * (25 : Int32)), .int i2]) hX gi (zt_X2_wallFrom (d := d - 1) (by omega) g) zl_X2_110 rfl dX2_traceRings_77 ⟨rfl, rfl, Nat.le_of_ble_eq_true rfl⟩ ⟨by omega, by omega⟩ ?_
        refine zw_iconst (v := (-1 : Int32)) hX dX2_traceRings_80 (by decide) ?_
        refine zw_icmp_eq (tgt := 88) hX dX2_traceRings_81 (by decide) (fun c81 => ?_) (fun c81 => ?_)
        · rw [if_pos c81] at h
          refine zw_sub (lv' := [(0, .ref a0), (1, .int i1), (2, .int i2)]) (List.forall_mem_cons.mpr ⟨rfl, (List.forall_mem_cons.mpr ⟨rfl, (List.forall_mem_cons.mpr ⟨rfl, zs_nil⟩)⟩)⟩) ?_
          exact zt_X2_traceRings_J88 hX hr hR hd hf hk ih h
        · rw [if_neg c81] at h
          refine zw_iconst (v := (1 : Int32)) hX dX2_traceRings_84 (by decide) ?_
          refine zw_goto (tgt := 89) hX dX2_traceRings_85 (by decide) ?_
          refine zw_sub (lv' := [(0, .ref a0), (1, .int i1), (2, .int i2)]) (List.forall_mem_cons.mpr ⟨rfl, (List.forall_mem_cons.mpr ⟨rfl, (List.forall_mem_cons.mpr ⟨rfl, zs_nil⟩)⟩)⟩) ?_
          exact zt_X2_traceRings_J89 hX hr hR hd hf hk ih h
def zf_X2_traceRings_L44 (N : Nat) : Nat → Nat → Int32 → zm_S → Option ((Unit × zm_S) ⊕ ((Unit) × zm_S))
  | 0, _, _, _ => none
  | n + 1, a0, i1, S => if (625 : Int32) ≤ i1 then some (.inr ((), S)) else (zf_X2_traceRings_L53 N N a0 i1 (0 : Int32) S).bind (fun r => match r with | .inl o => some (.inl o) | .inr (_, S23) => zf_X2_traceRings_L44 N n a0 (i1 + (1 : Int32)) S23)
set_option maxHeartbeats 4000000 in
set_option maxRecDepth 100000 in
theorem zt_X2_traceRings_L44 {p : Program} {l : Launch} {e : Env} {R : Room} {s : State} {m : MethodId} {args : Array Value} {below : List Frame} {meth : Method} {c : Code} {V : zm_V} {mc ms d rc rs : Nat} (hX : zm_X p R s m args meth c RX2 "traceRings" cX2_traceRings 4 zk_E V mc ms) (hr : meth.sig.returnType = none) (hR : R.frames = d ∧ R.locals = 64 * d) (hd : 5 ≤ d) {N : Nat} {res : (Unit × zm_S) ⊕ ((Unit) × zm_S)} {out : (Unit × zm_S)} (a0 : Nat) (hf : ∀ o, res = .inl o → o = out) (hk : ∀ (S' : zm_S), res = .inr ((), S') → zw p l e R s m args below meth c (vx_MQ below (zm_Qc zk_E V (zo_v out)) (zm_XC zk_E V zo_x) args s mc ms (fun q => V.2.2.2.1 ≤ q)) 4 zk_E V mc ms 135 [] [] S' rc rs) : ∀ (n : Nat) (i1 : Int32) (S : zm_S), zf_X2_traceRings_L44 N n a0 i1 S = some res → zw p l e R s m args below meth c (vx_MQ below (zm_Qc zk_E V (zo_v out)) (zm_XC zk_E V zo_x) args s mc ms (fun q => V.2.2.2.1 ≤ q)) 4 zk_E V mc ms 44 [(0, .ref a0), (1, .int i1)] [] S rc rs := by
  intro n
  induction n with
  | zero => intro i1 S h; cases h
  | succ n ih =>
    intro i1 S h
    rw [zf_X2_traceRings_L44] at h
    refine zw_iload_n hX dX2_traceRings_44 rfl ?_
    refine zw_sipush (v := (625 : Int32)) hX dX2_traceRings_45 (by decide) ?_
    refine zw_icmp_ge (tgt := 135) hX dX2_traceRings_48 (by decide) (fun c48 => ?_) (fun c48 => ?_)
    · rw [if_pos c48] at h
      refine zw_sub (lv' := []) zs_nil ?_
      exact hk  _ (Option.some.inj h).symm
    · rw [if_neg c48] at h
      refine zw_iconst (v := (0 : Int32)) hX dX2_traceRings_51 (by decide) ?_
      refine zw_istore_n hX dX2_traceRings_52 (by decide) ?_
      obtain ⟨r, g, h⟩ := zb_some h
      refine zw_sub (lv' := [(0, .ref a0), (1, .int i1), (2, .int (0 : Int32))]) (List.forall_mem_cons.mpr ⟨rfl, (List.forall_mem_cons.mpr ⟨rfl, (List.forall_mem_cons.mpr ⟨rfl, zs_nil⟩)⟩)⟩) ?_
      refine zt_X2_traceRings_L53 hX hr hR hd (res := r) (out := out) a0 i1 ?_ ?_ N _ _ g
      · intro o ho
        subst ho
        exact hf _ (Option.some.inj h).symm
      · intro  S23 hx
        subst hx
        try dsimp only at h
        refine zw_iinc (v := (i1 + (1 : Int32))) hX dX2_traceRings_129 rfl rfl (by decide) ?_
        refine zw_goto (tgt := 44) hX dX2_traceRings_132 (by decide) ?_
        refine zw_sub (lv' := [(0, .ref a0), (1, .int (i1 + (1 : Int32)))]) (List.forall_mem_cons.mpr ⟨rfl, (List.forall_mem_cons.mpr ⟨rfl, zs_nil⟩)⟩) ?_
        exact ih _ _ h
def zf_X2_traceRings (N : Nat) (a0 : Nat) (S : zm_S) : Option (Unit × zm_S) := (zp S a0 2 12 (.int (0 : Int32))).bind (fun S1 => (zp S1 a0 2 14 (.int (0 : Int32))).bind (fun S2 => (zf_X2_traceRings_L12 N N a0 (0 : Int32) S2).bind (fun r => match r with | .inl o => some o | .inr (_, S7) => (zg_r S7 a0 2 11).bind (fun b8 => (zf_J7_fill_53178 N b8 (0 : Int32) S7).bind (fun r11 => (zf_X2_traceRings_L44 N N a0 (0 : Int32) r11.2).bind (fun r => match r with | .inl o => some o | .inr (_, S24) => some ((), S24)))))))
set_option maxHeartbeats 4000000 in
set_option maxRecDepth 100000 in
theorem zt_X2_traceRings {l : Launch} {V : zm_V} {N : Nat} {S : zm_S} {out : (Unit × zm_S)} {d : Nat} {a0 : Nat} (hd : 5 ≤ d) (h : zf_X2_traceRings N a0 S = some out) : zm_Met l zk_E V yX2_traceRings (.code yX2_traceRings cX2_traceRings 4 none) d [.ref a0] S 0 0 (zo_v out) zo_x := by
  refine zm_of (by decide +kernel) (Nat.le_of_ble_eq_true rfl) ?_
  intro p e R s m args below meth c hRR hX hr hxt
  have hR : R.frames = d ∧ R.locals = 64 * d := by rw [hRR]; exact ⟨rfl, rfl⟩
  have hX : zm_X p R s m args meth c RX2 "traceRings" cX2_traceRings 4 zk_E V 0 0 := hX
  unfold zf_X2_traceRings at h
  refine zw_sub (lv' := [(0, .ref a0)]) (List.forall_mem_cons.mpr ⟨rfl, zs_nil⟩) ?_
  refine zw_aload_n hX dX2_traceRings_0 rfl ?_
  refine zw_iconst (v := (0 : Int32)) hX dX2_traceRings_1 (by decide) ?_
  obtain ⟨S1, g, h⟩ := zb_some h
  refine zw_putv hX zl_X2_139 zt_2_12 dX2_traceRings_2 rfl rfl g ?_
  refine zw_aload_n hX dX2_traceRings_5 rfl ?_
  refine zw_iconst (v := (0 : Int32)) hX dX2_traceRings_6 (by decide) ?_
  obtain ⟨S2, g, h⟩ := zb_some h
  refine zw_putv hX zl_X2_142 zt_2_14 dX2_traceRings_7 rfl rfl g ?_
  refine zw_iconst (v := (0 : Int32)) hX dX2_traceRings_10 (by decide) ?_
  refine zw_istore_n hX dX2_traceRings_11 (by decide) ?_
  obtain ⟨r, g, h⟩ := zb_some h
  refine zw_sub (lv' := [(0, .ref a0), (1, .int (0 : Int32))]) (List.forall_mem_cons.mpr ⟨rfl, (List.forall_mem_cons.mpr ⟨rfl, zs_nil⟩)⟩) ?_
  refine zt_X2_traceRings_L12 hX hr hR hd (res := r) (out := out) a0 ?_ ?_ N _ _ g
  · intro o ho
    subst ho
    exact Option.some.inj h
  · intro  S7 hx
    subst hx
    try dsimp only at h
    refine zw_aload_n hX dX2_traceRings_34 rfl ?_
    obtain ⟨b8, g, h⟩ := zb_some h
    refine zw_getr hX zl_X2_36 dX2_traceRings_35 g ?_
    refine zw_iconst (v := (0 : Int32)) hX dX2_traceRings_38 (by decide) ?_
    obtain ⟨r11, g, h⟩ := zb_some h
    refine zc_Sv (as := [.ref b8, .int (0 : Int32)]) hX (zt_J7_fill_53178 (d := d - 1) (by omega) g) zl_X2_88 dX2_traceRings_39 ⟨rfl, rfl, Nat.le_of_ble_eq_true rfl⟩ ⟨by omega, by omega⟩ ?_
    refine zw_iconst (v := (0 : Int32)) hX dX2_traceRings_42 (by decide) ?_
    refine zw_istore_n hX dX2_traceRings_43 (by decide) ?_
    obtain ⟨r, g, h⟩ := zb_some h
    refine zw_sub (lv' := [(0, .ref a0), (1, .int (0 : Int32))]) (List.forall_mem_cons.mpr ⟨rfl, (List.forall_mem_cons.mpr ⟨rfl, zs_nil⟩)⟩) ?_
    refine zt_X2_traceRings_L44 hX hr hR hd (res := r) (out := out) a0 ?_ ?_ N _ _ g
    · intro o ho
      subst ho
      exact Option.some.inj h
    · intro  S24 hx
      subst hx
      try dsimp only at h
      obtain rfl := Option.some.inj h
      exact zw_vret hX hr dX2_traceRings_135 ⟨rfl, rfl⟩
def zf_J9_max_7cf53 (N : Nat) (i0 : Int32) (i1 : Int32) (S : zm_S) : Option (Int32 × zm_S) := if i0 < i1 then some (i1, S) else some (i0, S)
set_option maxHeartbeats 4000000 in
set_option maxRecDepth 100000 in
theorem zt_J9_max_7cf53 {l : Launch} {V : zm_V} {N : Nat} {S : zm_S} {out : (Int32 × zm_S)} {d : Nat} {i0 : Int32} {i1 : Int32} (hd : 1 ≤ d) (h : zf_J9_max_7cf53 N i0 i1 S = some out) : zm_Met l zk_E V yJ9_max_7cf53 (.code yJ9_max_7cf53 cJ9_max_7cf53 2 (some .int)) d [.int i0, .int i1] S 0 0 (zo_i out) zo_x := by
  refine zm_of (by decide +kernel) (Nat.le_of_ble_eq_true rfl) ?_
  intro p e R s m args below meth c hRR hX hr hxt
  have hR : R.frames = d ∧ R.locals = 64 * d := by rw [hRR]; exact ⟨rfl, rfl⟩
  have hX : zm_X p R s m args meth c RJ9 "max" cJ9_max_7cf53 2 zk_E V 0 0 := hX
  unfold zf_J9_max_7cf53 at h
  refine zw_sub (lv' := [(0, .int i0), (1, .int i1)]) (List.forall_mem_cons.mpr ⟨rfl, (List.forall_mem_cons.mpr ⟨rfl, zs_nil⟩)⟩) ?_
  refine zw_iload_n hX dJ9_max_7cf53_0 rfl ?_
  refine zw_iload_n hX dJ9_max_7cf53_1 rfl ?_
  refine zw_icmp_lt (tgt := 9) hX dJ9_max_7cf53_2 (by decide) (fun c2 => ?_) (fun c2 => ?_)
  · rw [if_pos c2] at h
    refine zw_iload_n hX dJ9_max_7cf53_9 rfl ?_
    obtain rfl := Option.some.inj h
    exact zw_iret hX hr dJ9_max_7cf53_10 rfl ⟨rfl, rfl⟩
  · rw [if_neg c2] at h
    refine zw_iload_n hX dJ9_max_7cf53_5 rfl ?_
    refine zw_goto (tgt := 10) hX dJ9_max_7cf53_6 (by decide) ?_
    obtain rfl := Option.some.inj h
    exact zw_iret hX hr dJ9_max_7cf53_10 rfl ⟨rfl, rfl⟩
def zf_J6_stringSize_0f7a4_L16 (N : Nat) : Nat → Int32 → Int32 → Int32 → Int32 → zm_S → Option ((Int32 × zm_S) ⊕ ((Unit) × zm_S))
  | 0, _, _, _, _, _ => none
  | n + 1, i0, i1, i2, i3, S => if (10 : Int32) ≤ i3 then some (.inr ((), S)) else if i0 ≤ i2 then zf_J6_stringSize_0f7a4_L16 N n i0 i1 ((10 : Int32) * i2) (i3 + (1 : Int32)) S else some (.inl ((i3 + i1), S))
set_option maxHeartbeats 4000000 in
set_option maxRecDepth 100000 in
theorem zt_J6_stringSize_0f7a4_L16 {p : Program} {l : Launch} {e : Env} {R : Room} {s : State} {m : MethodId} {args : Array Value} {below : List Frame} {meth : Method} {c : Code} {V : zm_V} {mc ms d rc rs : Nat} (hX : zm_X p R s m args meth c RJ6 "stringSize" cJ6_stringSize_0f7a4 4 zk_E V mc ms) (hr : meth.sig.returnType = (some .int)) (hR : R.frames = d ∧ R.locals = 64 * d) (hd : 1 ≤ d) {N : Nat} {res : (Int32 × zm_S) ⊕ ((Unit) × zm_S)} {out : (Int32 × zm_S)} (i0 : Int32) (i1 : Int32) (hf : ∀ o, res = .inl o → o = out) (hk : ∀ (S' : zm_S), res = .inr ((), S') → zw p l e R s m args below meth c (vx_MQ below (zm_Qc zk_E V (zo_i out)) (zm_XC zk_E V zo_x) args s mc ms (fun q => V.2.2.2.1 ≤ q)) 4 zk_E V mc ms 42 [(1, .int i1)] [] S' rc rs) : ∀ (n : Nat) (i2 : Int32) (i3 : Int32) (S : zm_S), zf_J6_stringSize_0f7a4_L16 N n i0 i1 i2 i3 S = some res → zw p l e R s m args below meth c (vx_MQ below (zm_Qc zk_E V (zo_i out)) (zm_XC zk_E V zo_x) args s mc ms (fun q => V.2.2.2.1 ≤ q)) 4 zk_E V mc ms 16 [(0, .int i0), (1, .int i1), (2, .int i2), (3, .int i3)] [] S rc rs := by
  intro n
  induction n with
  | zero => intro i2 i3 S h; cases h
  | succ n ih =>
    intro i2 i3 S h
    rw [zf_J6_stringSize_0f7a4_L16] at h
    refine zw_iload_n hX dJ6_stringSize_0f7a4_16 rfl ?_
    refine zw_bipush (v := (10 : Int32)) hX dJ6_stringSize_0f7a4_17 (by decide) ?_
    refine zw_icmp_ge (tgt := 42) hX dJ6_stringSize_0f7a4_19 (by decide) (fun c19 => ?_) (fun c19 => ?_)
    · rw [if_pos c19] at h
      refine zw_sub (lv' := [(1, .int i1)]) (List.forall_mem_cons.mpr ⟨rfl, zs_nil⟩) ?_
      exact hk  _ (Option.some.inj h).symm
    · rw [if_neg c19] at h
      refine zw_iload_n hX dJ6_stringSize_0f7a4_22 rfl ?_
      refine zw_iload_n hX dJ6_stringSize_0f7a4_23 rfl ?_
      refine zw_icmp_le (tgt := 31) hX dJ6_stringSize_0f7a4_24 (by decide) (fun c24 => ?_) (fun c24 => ?_)
      · rw [if_pos c24] at h
        refine zw_bipush (v := (10 : Int32)) hX dJ6_stringSize_0f7a4_31 (by decide) ?_
        refine zw_iload_n hX dJ6_stringSize_0f7a4_33 rfl ?_
        refine zw_imul hX dJ6_stringSize_0f7a4_34 ?_
        refine zw_istore_n hX dJ6_stringSize_0f7a4_35 (by decide) ?_
        refine zw_iinc (v := (i3 + (1 : Int32))) hX dJ6_stringSize_0f7a4_36 rfl rfl (by decide) ?_
        refine zw_goto (tgt := 16) hX dJ6_stringSize_0f7a4_39 (by decide) ?_
        refine zw_sub (lv' := [(0, .int i0), (1, .int i1), (2, .int ((10 : Int32) * i2)), (3, .int (i3 + (1 : Int32)))]) (List.forall_mem_cons.mpr ⟨rfl, (List.forall_mem_cons.mpr ⟨rfl, (List.forall_mem_cons.mpr ⟨rfl, (List.forall_mem_cons.mpr ⟨rfl, zs_nil⟩)⟩)⟩)⟩) ?_
        exact ih _ _ _ h
      · rw [if_neg c24] at h
        refine zw_iload_n hX dJ6_stringSize_0f7a4_27 rfl ?_
        refine zw_iload_n hX dJ6_stringSize_0f7a4_28 rfl ?_
        refine zw_iadd hX dJ6_stringSize_0f7a4_29 ?_
        have hz := hf _ (Option.some.inj h).symm
        subst hz
        exact zw_iret hX hr dJ6_stringSize_0f7a4_30 rfl ⟨rfl, rfl⟩
def zf_J6_stringSize_0f7a4_J11 (N : Nat) (i0 : Int32) (i1 : Int32) (S : zm_S) : Option (Int32 × zm_S) := (zf_J6_stringSize_0f7a4_L16 N N i0 i1 (-10 : Int32) (1 : Int32) S).bind (fun r => match r with | .inl o => some o | .inr (_, S1) => some (((10 : Int32) + i1), S1))
set_option maxHeartbeats 4000000 in
set_option maxRecDepth 100000 in
theorem zt_J6_stringSize_0f7a4_J11 {p : Program} {l : Launch} {e : Env} {R : Room} {s : State} {m : MethodId} {args : Array Value} {below : List Frame} {meth : Method} {c : Code} {V : zm_V} {mc ms d rc rs : Nat} (hX : zm_X p R s m args meth c RJ6 "stringSize" cJ6_stringSize_0f7a4 4 zk_E V mc ms) (hr : meth.sig.returnType = (some .int)) (hR : R.frames = d ∧ R.locals = 64 * d) (hd : 1 ≤ d) {N : Nat} {i0 : Int32} {i1 : Int32} {out : (Int32 × zm_S)} {S : zm_S} (h : zf_J6_stringSize_0f7a4_J11 N i0 i1 S = some out) : zw p l e R s m args below meth c (vx_MQ below (zm_Qc zk_E V (zo_i out)) (zm_XC zk_E V zo_x) args s mc ms (fun q => V.2.2.2.1 ≤ q)) 4 zk_E V mc ms 11 [(0, .int i0), (1, .int i1)] [] S rc rs := by
  unfold zf_J6_stringSize_0f7a4_J11 at h
  refine zw_bipush (v := (-10 : Int32)) hX dJ6_stringSize_0f7a4_11 (by decide) ?_
  refine zw_istore_n hX dJ6_stringSize_0f7a4_13 (by decide) ?_
  refine zw_iconst (v := (1 : Int32)) hX dJ6_stringSize_0f7a4_14 (by decide) ?_
  refine zw_istore_n hX dJ6_stringSize_0f7a4_15 (by decide) ?_
  obtain ⟨r, g, h⟩ := zb_some h
  refine zw_sub (lv' := [(0, .int i0), (1, .int i1), (2, .int (-10 : Int32)), (3, .int (1 : Int32))]) (List.forall_mem_cons.mpr ⟨rfl, (List.forall_mem_cons.mpr ⟨rfl, (List.forall_mem_cons.mpr ⟨rfl, (List.forall_mem_cons.mpr ⟨rfl, zs_nil⟩)⟩)⟩)⟩) ?_
  refine zt_J6_stringSize_0f7a4_L16 hX hr hR hd (res := r) (out := out) i0 i1 ?_ ?_ N _ _ _ g
  · intro o ho
    subst ho
    exact Option.some.inj h
  · intro  S1 hx
    subst hx
    try dsimp only at h
    refine zw_bipush (v := (10 : Int32)) hX dJ6_stringSize_0f7a4_42 (by decide) ?_
    refine zw_iload_n hX dJ6_stringSize_0f7a4_44 rfl ?_
    refine zw_iadd hX dJ6_stringSize_0f7a4_45 ?_
    obtain rfl := Option.some.inj h
    exact zw_iret hX hr dJ6_stringSize_0f7a4_46 rfl ⟨rfl, rfl⟩
def zf_J6_stringSize_0f7a4 (N : Nat) (i0 : Int32) (S : zm_S) : Option (Int32 × zm_S) := if i0 < 0 then zf_J6_stringSize_0f7a4_J11 N i0 (1 : Int32) S else zf_J6_stringSize_0f7a4_J11 N (-i0) (0 : Int32) S
set_option maxHeartbeats 4000000 in
set_option maxRecDepth 100000 in
theorem zt_J6_stringSize_0f7a4 {l : Launch} {V : zm_V} {N : Nat} {S : zm_S} {out : (Int32 × zm_S)} {d : Nat} {i0 : Int32} (hd : 1 ≤ d) (h : zf_J6_stringSize_0f7a4 N i0 S = some out) : zm_Met l zk_E V yJ6_stringSize_0f7a4 (.code yJ6_stringSize_0f7a4 cJ6_stringSize_0f7a4 4 (some .int)) d [.int i0] S 0 0 (zo_i out) zo_x := by
  refine zm_of (by decide +kernel) (Nat.le_of_ble_eq_true rfl) ?_
  intro p e R s m args below meth c hRR hX hr hxt
  have hR : R.frames = d ∧ R.locals = 64 * d := by rw [hRR]; exact ⟨rfl, rfl⟩
  have hX : zm_X p R s m args meth c RJ6 "stringSize" cJ6_stringSize_0f7a4 4 zk_E V 0 0 := hX
  unfold zf_J6_stringSize_0f7a4 at h
  refine zw_sub (lv' := [(0, .int i0)]) (List.forall_mem_cons.mpr ⟨rfl, zs_nil⟩) ?_
  refine zw_iconst (v := (1 : Int32)) hX dJ6_stringSize_0f7a4_0 (by decide) ?_
  refine zw_istore_n hX dJ6_stringSize_0f7a4_1 (by decide) ?_
  refine zw_iload_n hX dJ6_stringSize_0f7a4_2 rfl ?_
  refine zw_if_lt (tgt := 11) hX dJ6_stringSize_0f7a4_3 (by decide) (fun c3 => ?_) (fun c3 => ?_)
  · rw [if_pos c3] at h
    refine zw_sub (lv' := [(0, .int i0), (1, .int (1 : Int32))]) (List.forall_mem_cons.mpr ⟨rfl, (List.forall_mem_cons.mpr ⟨rfl, zs_nil⟩)⟩) ?_
    exact zt_J6_stringSize_0f7a4_J11 hX hr hR hd h
  · rw [if_neg c3] at h
    refine zw_iconst (v := (0 : Int32)) hX dJ6_stringSize_0f7a4_6 (by decide) ?_
    refine zw_istore_n hX dJ6_stringSize_0f7a4_7 (by decide) ?_
    refine zw_iload_n hX dJ6_stringSize_0f7a4_8 rfl ?_
    refine zw_ineg hX dJ6_stringSize_0f7a4_9 ?_
    refine zw_istore_n hX dJ6_stringSize_0f7a4_10 (by decide) ?_
    refine zw_sub (lv' := [(0, .int (-i0)), (1, .int (0 : Int32))]) (List.forall_mem_cons.mpr ⟨rfl, (List.forall_mem_cons.mpr ⟨rfl, zs_nil⟩)⟩) ?_
    exact zt_J6_stringSize_0f7a4_J11 hX hr hR hd h
def zf_X8_distanceTo (N : Nat) (a0 : Nat) (i1 : Int32) (i2 : Int32) (i3 : Int32) (S : zm_S) : Option (Int32 × zm_S) := (zg_r S a0 8 1).bind (fun b1 => (za_r S b1 i1).bind (fun b2 => (za_x S 0 b2 (0 : Int32)).bind (fun v3 => (zg_r S a0 8 1).bind (fun b4 => (za_r S b4 i1).bind (fun b5 => (za_x S 0 b5 (1 : Int32)).bind (fun v6 => some ((((i2 - v3) + i3) - v6), S)))))))
set_option maxHeartbeats 4000000 in
set_option maxRecDepth 100000 in
theorem zt_X8_distanceTo {l : Launch} {V : zm_V} {N : Nat} {S : zm_S} {out : (Int32 × zm_S)} {d : Nat} {a0 : Nat} {i1 : Int32} {i2 : Int32} {i3 : Int32} (hd : 1 ≤ d) (h : zf_X8_distanceTo N a0 i1 i2 i3 S = some out) : zm_Met l zk_E V yX8_distanceTo (.code yX8_distanceTo cX8_distanceTo 4 (some .int)) d [.ref a0, .int i1, .int i2, .int i3] S 0 0 (zo_i out) zo_x := by
  refine zm_of (by decide +kernel) (Nat.le_of_ble_eq_true rfl) ?_
  intro p e R s m args below meth c hRR hX hr hxt
  have hR : R.frames = d ∧ R.locals = 64 * d := by rw [hRR]; exact ⟨rfl, rfl⟩
  have hX : zm_X p R s m args meth c RX8 "distanceTo" cX8_distanceTo 4 zk_E V 0 0 := hX
  unfold zf_X8_distanceTo at h
  refine zw_sub (lv' := [(0, .ref a0), (1, .int i1), (2, .int i2), (3, .int i3)]) (List.forall_mem_cons.mpr ⟨rfl, (List.forall_mem_cons.mpr ⟨rfl, (List.forall_mem_cons.mpr ⟨rfl, (List.forall_mem_cons.mpr ⟨rfl, zs_nil⟩)⟩)⟩)⟩) ?_
  refine zw_iload_n hX dX8_distanceTo_0 rfl ?_
  refine zw_aload_n hX dX8_distanceTo_1 rfl ?_
  obtain ⟨b1, g, h⟩ := zb_some h
  refine zw_getr hX zl_X8_13 dX8_distanceTo_2 g ?_
  refine zw_iload_n hX dX8_distanceTo_5 rfl ?_
  obtain ⟨b2, g, h⟩ := zb_some h
  refine zw_xr hX dX8_distanceTo_6 g ?_
  refine zw_iconst (v := (0 : Int32)) hX dX8_distanceTo_7 (by decide) ?_
  obtain ⟨v3, g, h⟩ := zb_some h
  refine zw_xi hX dX8_distanceTo_8 g ?_
  refine zw_isub hX dX8_distanceTo_9 ?_
  refine zw_iload_n hX dX8_distanceTo_10 rfl ?_
  refine zw_iadd hX dX8_distanceTo_11 ?_
  refine zw_aload_n hX dX8_distanceTo_12 rfl ?_
  obtain ⟨b4, g, h⟩ := zb_some h
  refine zw_getr hX zl_X8_13 dX8_distanceTo_13 g ?_
  refine zw_iload_n hX dX8_distanceTo_16 rfl ?_
  obtain ⟨b5, g, h⟩ := zb_some h
  refine zw_xr hX dX8_distanceTo_17 g ?_
  refine zw_iconst (v := (1 : Int32)) hX dX8_distanceTo_18 (by decide) ?_
  obtain ⟨v6, g, h⟩ := zb_some h
  refine zw_xi hX dX8_distanceTo_19 g ?_
  refine zw_isub hX dX8_distanceTo_20 ?_
  obtain rfl := Option.some.inj h
  exact zw_iret hX hr dX8_distanceTo_21 rfl ⟨rfl, rfl⟩
def zf_X2_distanceBeside (N : Nat) (a0 : Nat) (i1 : Int32) (i2 : Int32) (i3 : Int32) (S : zm_S) : Option (Int32 × zm_S) := (zi S a0 2).bind (fun _ => (zf_X2_placeBeside N a0 i1 i2 S).bind (fun r3 => (zg_r r3.2 a0 2 0).bind (fun b4 => (zi r3.2 b4 8).bind (fun _ => (zf_X8_distanceTo N b4 i3 (r3.1 / (25 : Int32)) (r3.1 - r3.1 / (25 : Int32) * (25 : Int32)) r3.2).bind (fun r7 => some (r7.1, r7.2))))))
set_option maxHeartbeats 4000000 in
set_option maxRecDepth 100000 in
theorem zt_X2_distanceBeside {l : Launch} {V : zm_V} {N : Nat} {S : zm_S} {out : (Int32 × zm_S)} {d : Nat} {a0 : Nat} {i1 : Int32} {i2 : Int32} {i3 : Int32} (hd : 2 ≤ d) (h : zf_X2_distanceBeside N a0 i1 i2 i3 S = some out) : zm_Met l zk_E V yX2_distanceBeside (.code yX2_distanceBeside cX2_distanceBeside 5 (some .int)) d [.ref a0, .int i1, .int i2, .int i3] S 0 0 (zo_i out) zo_x := by
  refine zm_of (by decide +kernel) (Nat.le_of_ble_eq_true rfl) ?_
  intro p e R s m args below meth c hRR hX hr hxt
  have hR : R.frames = d ∧ R.locals = 64 * d := by rw [hRR]; exact ⟨rfl, rfl⟩
  have hX : zm_X p R s m args meth c RX2 "distanceBeside" cX2_distanceBeside 5 zk_E V 0 0 := hX
  unfold zf_X2_distanceBeside at h
  refine zw_sub (lv' := [(0, .ref a0), (1, .int i1), (2, .int i2), (3, .int i3)]) (List.forall_mem_cons.mpr ⟨rfl, (List.forall_mem_cons.mpr ⟨rfl, (List.forall_mem_cons.mpr ⟨rfl, (List.forall_mem_cons.mpr ⟨rfl, zs_nil⟩)⟩)⟩)⟩) ?_
  refine zw_aload_n hX dX2_distanceBeside_0 rfl ?_
  refine zw_iload_n hX dX2_distanceBeside_1 rfl ?_
  refine zw_iload_n hX dX2_distanceBeside_2 rfl ?_
  obtain ⟨_, gi, h⟩ := zb_some h
  obtain ⟨r3, g, h⟩ := zb_some h
  refine zc_Vi (as := [.int i1, .int i2]) hX gi (zt_X2_placeBeside (d := d - 1) (by omega) g) zl_X2_130 rfl dX2_distanceBeside_3 ⟨rfl, rfl, Nat.le_of_ble_eq_true rfl⟩ ⟨by omega, by omega⟩ ?_
  refine zw_istore hX dX2_distanceBeside_6 (by decide) ?_
  refine zw_aload_n hX dX2_distanceBeside_8 rfl ?_
  obtain ⟨b4, g, h⟩ := zb_some h
  refine zw_getr hX zl_X2_54 dX2_distanceBeside_9 g ?_
  refine zw_iload_n hX dX2_distanceBeside_12 rfl ?_
  refine zw_iload hX dX2_distanceBeside_13 rfl ?_
  refine zw_bipush (v := (25 : Int32)) hX dX2_distanceBeside_15 (by decide) ?_
  refine zw_idiv hX dX2_distanceBeside_17 (by decide) ?_
  refine zw_iload hX dX2_distanceBeside_18 rfl ?_
  refine zw_bipush (v := (25 : Int32)) hX dX2_distanceBeside_20 (by decide) ?_
  refine zw_irem hX dX2_distanceBeside_22 (by decide) ?_
  obtain ⟨_, gi, h⟩ := zb_some h
  obtain ⟨r7, g, h⟩ := zb_some h
  refine zc_Vi (as := [.int i3, .int (r3.1 / (25 : Int32)), .int (r3.1 - r3.1 / (25 : Int32) * (25 : Int32))]) hX gi (zt_X8_distanceTo (d := d - 1) (by omega) g) zl_X2_133 rfl dX2_distanceBeside_23 ⟨rfl, rfl, Nat.le_of_ble_eq_true rfl⟩ ⟨by omega, by omega⟩ ?_
  obtain rfl := Option.some.inj h
  exact zw_iret hX hr dX2_distanceBeside_26 rfl ⟨rfl, rfl⟩
def zf_X2_countPoints_J26 (N : Nat) (k : Nat → Int32 → Int32 → zm_S → Option ((Int32 × zm_S) ⊕ ((Int32) × zm_S))) (a0 : Nat) (i2 : Int32) (t0 : Int32) (t1 : Int32) (S : zm_S) : Option ((Int32 × zm_S) ⊕ ((Int32) × zm_S)) := k a0 (t0 + t1) (i2 + (1 : Int32)) S
set_option maxHeartbeats 4000000 in
set_option maxRecDepth 100000 in
theorem zt_X2_countPoints_J26 {p : Program} {l : Launch} {e : Env} {R : Room} {s : State} {m : MethodId} {args : Array Value} {below : List Frame} {meth : Method} {c : Code} {V : zm_V} {mc ms d rc rs : Nat} (hX : zm_X p R s m args meth c RX2 "countPoints" cX2_countPoints 3 zk_E V mc ms) (hr : meth.sig.returnType = (some .int)) (hR : R.frames = d ∧ R.locals = 64 * d) (hd : 1 ≤ d) {N : Nat} {k : Nat → Int32 → Int32 → zm_S → Option ((Int32 × zm_S) ⊕ ((Int32) × zm_S))} {a0 : Nat} {i2 : Int32} {t0 : Int32} {t1 : Int32} {res : (Int32 × zm_S) ⊕ ((Int32) × zm_S)} {out : (Int32 × zm_S)}   (hf : ∀ o, res = .inl o → o = out) (hk : ∀ (x1 : Int32) (S' : zm_S), res = .inr (x1, S') → zw p l e R s m args below meth c (vx_MQ below (zm_Qc zk_E V (zo_i out)) (zm_XC zk_E V zo_x) args s mc ms (fun q => V.2.2.2.1 ≤ q)) 3 zk_E V mc ms 34 [(1, .int x1)] [] S' rc rs) (hrec : ∀ (i1' : Int32) (i2' : Int32) (S : zm_S), k a0 i1' i2' S = some res → zw p l e R s m args below meth c (vx_MQ below (zm_Qc zk_E V (zo_i out)) (zm_XC zk_E V zo_x) args s mc ms (fun q => V.2.2.2.1 ≤ q)) 3 zk_E V mc ms 4 [(0, .ref a0), (1, .int i1'), (2, .int i2')] [] S rc rs) {S : zm_S} (h : zf_X2_countPoints_J26 N k a0 i2 t0 t1 S = some res) : zw p l e R s m args below meth c (vx_MQ below (zm_Qc zk_E V (zo_i out)) (zm_XC zk_E V zo_x) args s mc ms (fun q => V.2.2.2.1 ≤ q)) 3 zk_E V mc ms 26 [(0, .ref a0), (2, .int i2)] [.int t1, .int t0] S rc rs := by
  unfold zf_X2_countPoints_J26 at h
  refine zw_iadd hX dX2_countPoints_26 ?_
  refine zw_istore_n hX dX2_countPoints_27 (by decide) ?_
  refine zw_iinc (v := (i2 + (1 : Int32))) hX dX2_countPoints_28 rfl rfl (by decide) ?_
  refine zw_goto (tgt := 4) hX dX2_countPoints_31 (by decide) ?_
  refine zw_sub (lv' := [(0, .ref a0), (1, .int (t0 + t1)), (2, .int (i2 + (1 : Int32)))]) (List.forall_mem_cons.mpr ⟨rfl, (List.forall_mem_cons.mpr ⟨rfl, (List.forall_mem_cons.mpr ⟨rfl, zs_nil⟩)⟩)⟩) ?_
  exact hrec _ _ _ h
def zf_X2_countPoints_L4 (N : Nat) : Nat → Nat → Int32 → Int32 → zm_S → Option ((Int32 × zm_S) ⊕ ((Int32) × zm_S))
  | 0, _, _, _, _ => none
  | n + 1, a0, i1, i2, S => if (625 : Int32) ≤ i2 then some (.inr (i1, S)) else (zg_r S a0 2 5).bind (fun b1 => (za_x S 2 b1 i2).bind (fun v2 => if v2 = 0 then zf_X2_countPoints_J26 N (zf_X2_countPoints_L4 N n) a0 i2 i1 (0 : Int32) S else zf_X2_countPoints_J26 N (zf_X2_countPoints_L4 N n) a0 i2 i1 (1 : Int32) S))
set_option maxHeartbeats 4000000 in
set_option maxRecDepth 100000 in
theorem zt_X2_countPoints_L4 {p : Program} {l : Launch} {e : Env} {R : Room} {s : State} {m : MethodId} {args : Array Value} {below : List Frame} {meth : Method} {c : Code} {V : zm_V} {mc ms d rc rs : Nat} (hX : zm_X p R s m args meth c RX2 "countPoints" cX2_countPoints 3 zk_E V mc ms) (hr : meth.sig.returnType = (some .int)) (hR : R.frames = d ∧ R.locals = 64 * d) (hd : 1 ≤ d) {N : Nat} {res : (Int32 × zm_S) ⊕ ((Int32) × zm_S)} {out : (Int32 × zm_S)} (a0 : Nat) (hf : ∀ o, res = .inl o → o = out) (hk : ∀ (x1 : Int32) (S' : zm_S), res = .inr (x1, S') → zw p l e R s m args below meth c (vx_MQ below (zm_Qc zk_E V (zo_i out)) (zm_XC zk_E V zo_x) args s mc ms (fun q => V.2.2.2.1 ≤ q)) 3 zk_E V mc ms 34 [(1, .int x1)] [] S' rc rs) : ∀ (n : Nat) (i1 : Int32) (i2 : Int32) (S : zm_S), zf_X2_countPoints_L4 N n a0 i1 i2 S = some res → zw p l e R s m args below meth c (vx_MQ below (zm_Qc zk_E V (zo_i out)) (zm_XC zk_E V zo_x) args s mc ms (fun q => V.2.2.2.1 ≤ q)) 3 zk_E V mc ms 4 [(0, .ref a0), (1, .int i1), (2, .int i2)] [] S rc rs := by
  intro n
  induction n with
  | zero => intro i1 i2 S h; cases h
  | succ n ih =>
    intro i1 i2 S h
    rw [zf_X2_countPoints_L4] at h
    refine zw_iload_n hX dX2_countPoints_4 rfl ?_
    refine zw_sipush (v := (625 : Int32)) hX dX2_countPoints_5 (by decide) ?_
    refine zw_icmp_ge (tgt := 34) hX dX2_countPoints_8 (by decide) (fun c8 => ?_) (fun c8 => ?_)
    · rw [if_pos c8] at h
      refine zw_sub (lv' := [(1, .int i1)]) (List.forall_mem_cons.mpr ⟨rfl, zs_nil⟩) ?_
      exact hk _ _ (Option.some.inj h).symm
    · rw [if_neg c8] at h
      refine zw_iload_n hX dX2_countPoints_11 rfl ?_
      refine zw_aload_n hX dX2_countPoints_12 rfl ?_
      obtain ⟨b1, g, h⟩ := zb_some h
      refine zw_getr hX zl_X2_16 dX2_countPoints_13 g ?_
      refine zw_iload_n hX dX2_countPoints_16 rfl ?_
      obtain ⟨v2, g, h⟩ := zb_some h
      refine zw_xz hX dX2_countPoints_17 g ?_
      refine zw_if_eq (tgt := 25) hX dX2_countPoints_18 (by decide) (fun c18 => ?_) (fun c18 => ?_)
      · rw [if_pos c18] at h
        refine zw_iconst (v := (0 : Int32)) hX dX2_countPoints_25 (by decide) ?_
        refine zw_sub (lv' := [(0, .ref a0), (2, .int i2)]) (List.forall_mem_cons.mpr ⟨rfl, (List.forall_mem_cons.mpr ⟨rfl, zs_nil⟩)⟩) ?_
        exact zt_X2_countPoints_J26 hX hr hR hd hf hk ih h
      · rw [if_neg c18] at h
        refine zw_iconst (v := (1 : Int32)) hX dX2_countPoints_21 (by decide) ?_
        refine zw_goto (tgt := 26) hX dX2_countPoints_22 (by decide) ?_
        refine zw_sub (lv' := [(0, .ref a0), (2, .int i2)]) (List.forall_mem_cons.mpr ⟨rfl, (List.forall_mem_cons.mpr ⟨rfl, zs_nil⟩)⟩) ?_
        exact zt_X2_countPoints_J26 hX hr hR hd hf hk ih h
def zf_X2_countPoints (N : Nat) (a0 : Nat) (S : zm_S) : Option (Int32 × zm_S) := (zf_X2_countPoints_L4 N N a0 (0 : Int32) (0 : Int32) S).bind (fun r => match r with | .inl o => some o | .inr (v4, S3) => some (v4, S3))
set_option maxHeartbeats 4000000 in
set_option maxRecDepth 100000 in
theorem zt_X2_countPoints {l : Launch} {V : zm_V} {N : Nat} {S : zm_S} {out : (Int32 × zm_S)} {d : Nat} {a0 : Nat} (hd : 1 ≤ d) (h : zf_X2_countPoints N a0 S = some out) : zm_Met l zk_E V yX2_countPoints (.code yX2_countPoints cX2_countPoints 3 (some .int)) d [.ref a0] S 0 0 (zo_i out) zo_x := by
  refine zm_of (by decide +kernel) (Nat.le_of_ble_eq_true rfl) ?_
  intro p e R s m args below meth c hRR hX hr hxt
  have hR : R.frames = d ∧ R.locals = 64 * d := by rw [hRR]; exact ⟨rfl, rfl⟩
  have hX : zm_X p R s m args meth c RX2 "countPoints" cX2_countPoints 3 zk_E V 0 0 := hX
  unfold zf_X2_countPoints at h
  refine zw_sub (lv' := [(0, .ref a0)]) (List.forall_mem_cons.mpr ⟨rfl, zs_nil⟩) ?_
  refine zw_iconst (v := (0 : Int32)) hX dX2_countPoints_0 (by decide) ?_
  refine zw_istore_n hX dX2_countPoints_1 (by decide) ?_
  refine zw_iconst (v := (0 : Int32)) hX dX2_countPoints_2 (by decide) ?_
  refine zw_istore_n hX dX2_countPoints_3 (by decide) ?_
  obtain ⟨r, g, h⟩ := zb_some h
  refine zw_sub (lv' := [(0, .ref a0), (1, .int (0 : Int32)), (2, .int (0 : Int32))]) (List.forall_mem_cons.mpr ⟨rfl, (List.forall_mem_cons.mpr ⟨rfl, (List.forall_mem_cons.mpr ⟨rfl, zs_nil⟩)⟩)⟩) ?_
  refine zt_X2_countPoints_L4 hX hr hR hd (res := r) (out := out) a0 ?_ ?_ N _ _ _ g
  · intro o ho
    subst ho
    exact Option.some.inj h
  · intro v4 S3 hx
    subst hx
    try dsimp only at h
    refine zw_iload_n hX dX2_countPoints_34 rfl ?_
    obtain rfl := Option.some.inj h
    exact zw_iret hX hr dX2_countPoints_35 rfl ⟨rfl, rfl⟩
def zf_X2_countPieces (N : Nat) (a0 : Nat) (S : zm_S) : Option (Int32 × zm_S) := (zg_i S a0 2 14).bind (fun v1 => some ((v1 / (2 : Int32)), S))
set_option maxHeartbeats 4000000 in
set_option maxRecDepth 100000 in
theorem zt_X2_countPieces {l : Launch} {V : zm_V} {N : Nat} {S : zm_S} {out : (Int32 × zm_S)} {d : Nat} {a0 : Nat} (hd : 1 ≤ d) (h : zf_X2_countPieces N a0 S = some out) : zm_Met l zk_E V yX2_countPieces (.code yX2_countPieces cX2_countPieces 1 (some .int)) d [.ref a0] S 0 0 (zo_i out) zo_x := by
  refine zm_of (by decide +kernel) (Nat.le_of_ble_eq_true rfl) ?_
  intro p e R s m args below meth c hRR hX hr hxt
  have hR : R.frames = d ∧ R.locals = 64 * d := by rw [hRR]; exact ⟨rfl, rfl⟩
  have hX : zm_X p R s m args meth c RX2 "countPieces" cX2_countPieces 1 zk_E V 0 0 := hX
  unfold zf_X2_countPieces at h
  refine zw_sub (lv' := [(0, .ref a0)]) (List.forall_mem_cons.mpr ⟨rfl, zs_nil⟩) ?_
  refine zw_aload_n hX dX2_countPieces_0 rfl ?_
  obtain ⟨v1, g, h⟩ := zb_some h
  refine zw_geti hX zl_X2_142 dX2_countPieces_1 g ?_
  refine zw_iconst (v := (2 : Int32)) hX dX2_countPieces_4 (by decide) ?_
  refine zw_idiv hX dX2_countPieces_5 (by decide) ?_
  obtain rfl := Option.some.inj h
  exact zw_iret hX hr dX2_countPieces_6 rfl ⟨rfl, rfl⟩
def zf_X2_countOutsideSides_J37 (N : Nat) (k : Nat → Int32 → Int32 → zm_S → Option ((Int32 × zm_S) ⊕ ((Int32) × zm_S))) (a0 : Nat) (i2 : Int32) (t0 : Int32) (t1 : Int32) (S : zm_S) : Option ((Int32 × zm_S) ⊕ ((Int32) × zm_S)) := k a0 (t0 + t1) (i2 + (1 : Int32)) S
set_option maxHeartbeats 4000000 in
set_option maxRecDepth 100000 in
theorem zt_X2_countOutsideSides_J37 {p : Program} {l : Launch} {e : Env} {R : Room} {s : State} {m : MethodId} {args : Array Value} {below : List Frame} {meth : Method} {c : Code} {V : zm_V} {mc ms d rc rs : Nat} (hX : zm_X p R s m args meth c RX2 "countOutsideSides" cX2_countOutsideSides 3 zk_E V mc ms) (hr : meth.sig.returnType = (some .int)) (hR : R.frames = d ∧ R.locals = 64 * d) (hd : 1 ≤ d) {N : Nat} {k : Nat → Int32 → Int32 → zm_S → Option ((Int32 × zm_S) ⊕ ((Int32) × zm_S))} {a0 : Nat} {i2 : Int32} {t0 : Int32} {t1 : Int32} {res : (Int32 × zm_S) ⊕ ((Int32) × zm_S)} {out : (Int32 × zm_S)}   (hf : ∀ o, res = .inl o → o = out) (hk : ∀ (x1 : Int32) (S' : zm_S), res = .inr (x1, S') → zw p l e R s m args below meth c (vx_MQ below (zm_Qc zk_E V (zo_i out)) (zm_XC zk_E V zo_x) args s mc ms (fun q => V.2.2.2.1 ≤ q)) 3 zk_E V mc ms 45 [(1, .int x1)] [] S' rc rs) (hrec : ∀ (i1' : Int32) (i2' : Int32) (S : zm_S), k a0 i1' i2' S = some res → zw p l e R s m args below meth c (vx_MQ below (zm_Qc zk_E V (zo_i out)) (zm_XC zk_E V zo_x) args s mc ms (fun q => V.2.2.2.1 ≤ q)) 3 zk_E V mc ms 4 [(0, .ref a0), (1, .int i1'), (2, .int i2')] [] S rc rs) {S : zm_S} (h : zf_X2_countOutsideSides_J37 N k a0 i2 t0 t1 S = some res) : zw p l e R s m args below meth c (vx_MQ below (zm_Qc zk_E V (zo_i out)) (zm_XC zk_E V zo_x) args s mc ms (fun q => V.2.2.2.1 ≤ q)) 3 zk_E V mc ms 37 [(0, .ref a0), (2, .int i2)] [.int t1, .int t0] S rc rs := by
  unfold zf_X2_countOutsideSides_J37 at h
  refine zw_iadd hX dX2_countOutsideSides_37 ?_
  refine zw_istore_n hX dX2_countOutsideSides_38 (by decide) ?_
  refine zw_iinc (v := (i2 + (1 : Int32))) hX dX2_countOutsideSides_39 rfl rfl (by decide) ?_
  refine zw_goto (tgt := 4) hX dX2_countOutsideSides_42 (by decide) ?_
  refine zw_sub (lv' := [(0, .ref a0), (1, .int (t0 + t1)), (2, .int (i2 + (1 : Int32)))]) (List.forall_mem_cons.mpr ⟨rfl, (List.forall_mem_cons.mpr ⟨rfl, (List.forall_mem_cons.mpr ⟨rfl, zs_nil⟩)⟩)⟩) ?_
  exact hrec _ _ _ h
def zf_X2_countOutsideSides_L4 (N : Nat) : Nat → Nat → Int32 → Int32 → zm_S → Option ((Int32 × zm_S) ⊕ ((Int32) × zm_S))
  | 0, _, _, _, _ => none
  | n + 1, a0, i1, i2, S => (zg_i S a0 2 12).bind (fun v1 => if v1 ≤ i2 then some (.inr (i1, S)) else (zg_r S a0 2 13).bind (fun b2 => (za_r S b2 i2).bind (fun b3 => (za_x S 0 b3 (0 : Int32)).bind (fun v4 => if v4 = (-1 : Int32) then (zg_r S a0 2 13).bind (fun b5 => (za_r S b5 i2).bind (fun b6 => (za_x S 0 b6 (2 : Int32)).bind (fun v7 => zf_X2_countOutsideSides_J37 N (zf_X2_countOutsideSides_L4 N n) a0 i2 i1 v7 S))) else zf_X2_countOutsideSides_J37 N (zf_X2_countOutsideSides_L4 N n) a0 i2 i1 (0 : Int32) S))))
set_option maxHeartbeats 4000000 in
set_option maxRecDepth 100000 in
theorem zt_X2_countOutsideSides_L4 {p : Program} {l : Launch} {e : Env} {R : Room} {s : State} {m : MethodId} {args : Array Value} {below : List Frame} {meth : Method} {c : Code} {V : zm_V} {mc ms d rc rs : Nat} (hX : zm_X p R s m args meth c RX2 "countOutsideSides" cX2_countOutsideSides 3 zk_E V mc ms) (hr : meth.sig.returnType = (some .int)) (hR : R.frames = d ∧ R.locals = 64 * d) (hd : 1 ≤ d) {N : Nat} {res : (Int32 × zm_S) ⊕ ((Int32) × zm_S)} {out : (Int32 × zm_S)} (a0 : Nat) (hf : ∀ o, res = .inl o → o = out) (hk : ∀ (x1 : Int32) (S' : zm_S), res = .inr (x1, S') → zw p l e R s m args below meth c (vx_MQ below (zm_Qc zk_E V (zo_i out)) (zm_XC zk_E V zo_x) args s mc ms (fun q => V.2.2.2.1 ≤ q)) 3 zk_E V mc ms 45 [(1, .int x1)] [] S' rc rs) : ∀ (n : Nat) (i1 : Int32) (i2 : Int32) (S : zm_S), zf_X2_countOutsideSides_L4 N n a0 i1 i2 S = some res → zw p l e R s m args below meth c (vx_MQ below (zm_Qc zk_E V (zo_i out)) (zm_XC zk_E V zo_x) args s mc ms (fun q => V.2.2.2.1 ≤ q)) 3 zk_E V mc ms 4 [(0, .ref a0), (1, .int i1), (2, .int i2)] [] S rc rs := by
  intro n
  induction n with
  | zero => intro i1 i2 S h; cases h
  | succ n ih =>
    intro i1 i2 S h
    rw [zf_X2_countOutsideSides_L4] at h
    refine zw_iload_n hX dX2_countOutsideSides_4 rfl ?_
    refine zw_aload_n hX dX2_countOutsideSides_5 rfl ?_
    obtain ⟨v1, g, h⟩ := zb_some h
    refine zw_geti hX zl_X2_139 dX2_countOutsideSides_6 g ?_
    refine zw_icmp_ge (tgt := 45) hX dX2_countOutsideSides_9 (by decide) (fun c9 => ?_) (fun c9 => ?_)
    · rw [if_pos c9] at h
      refine zw_sub (lv' := [(1, .int i1)]) (List.forall_mem_cons.mpr ⟨rfl, zs_nil⟩) ?_
      exact hk _ _ (Option.some.inj h).symm
    · rw [if_neg c9] at h
      refine zw_iload_n hX dX2_countOutsideSides_12 rfl ?_
      refine zw_aload_n hX dX2_countOutsideSides_13 rfl ?_
      obtain ⟨b2, g, h⟩ := zb_some h
      refine zw_getr hX zl_X2_39 dX2_countOutsideSides_14 g ?_
      refine zw_iload_n hX dX2_countOutsideSides_17 rfl ?_
      obtain ⟨b3, g, h⟩ := zb_some h
      refine zw_xr hX dX2_countOutsideSides_18 g ?_
      refine zw_iconst (v := (0 : Int32)) hX dX2_countOutsideSides_19 (by decide) ?_
      obtain ⟨v4, g, h⟩ := zb_some h
      refine zw_xi hX dX2_countOutsideSides_20 g ?_
      refine zw_iconst (v := (-1 : Int32)) hX dX2_countOutsideSides_21 (by decide) ?_
      refine zw_icmp_ne (tgt := 36) hX dX2_countOutsideSides_22 (by decide) (fun c22 => ?_) (fun c22 => ?_)
      · rw [if_neg c22] at h
        refine zw_iconst (v := (0 : Int32)) hX dX2_countOutsideSides_36 (by decide) ?_
        refine zw_sub (lv' := [(0, .ref a0), (2, .int i2)]) (List.forall_mem_cons.mpr ⟨rfl, (List.forall_mem_cons.mpr ⟨rfl, zs_nil⟩)⟩) ?_
        exact zt_X2_countOutsideSides_J37 hX hr hR hd hf hk ih h
      · rw [if_pos c22] at h
        refine zw_aload_n hX dX2_countOutsideSides_25 rfl ?_
        obtain ⟨b5, g, h⟩ := zb_some h
        refine zw_getr hX zl_X2_39 dX2_countOutsideSides_26 g ?_
        refine zw_iload_n hX dX2_countOutsideSides_29 rfl ?_
        obtain ⟨b6, g, h⟩ := zb_some h
        refine zw_xr hX dX2_countOutsideSides_30 g ?_
        refine zw_iconst (v := (2 : Int32)) hX dX2_countOutsideSides_31 (by decide) ?_
        obtain ⟨v7, g, h⟩ := zb_some h
        refine zw_xi hX dX2_countOutsideSides_32 g ?_
        refine zw_goto (tgt := 37) hX dX2_countOutsideSides_33 (by decide) ?_
        refine zw_sub (lv' := [(0, .ref a0), (2, .int i2)]) (List.forall_mem_cons.mpr ⟨rfl, (List.forall_mem_cons.mpr ⟨rfl, zs_nil⟩)⟩) ?_
        exact zt_X2_countOutsideSides_J37 hX hr hR hd hf hk ih h
def zf_X2_countOutsideSides (N : Nat) (a0 : Nat) (S : zm_S) : Option (Int32 × zm_S) := (zf_X2_countOutsideSides_L4 N N a0 (0 : Int32) (0 : Int32) S).bind (fun r => match r with | .inl o => some o | .inr (v9, S8) => some (v9, S8))
set_option maxHeartbeats 4000000 in
set_option maxRecDepth 100000 in
theorem zt_X2_countOutsideSides {l : Launch} {V : zm_V} {N : Nat} {S : zm_S} {out : (Int32 × zm_S)} {d : Nat} {a0 : Nat} (hd : 1 ≤ d) (h : zf_X2_countOutsideSides N a0 S = some out) : zm_Met l zk_E V yX2_countOutsideSides (.code yX2_countOutsideSides cX2_countOutsideSides 3 (some .int)) d [.ref a0] S 0 0 (zo_i out) zo_x := by
  refine zm_of (by decide +kernel) (Nat.le_of_ble_eq_true rfl) ?_
  intro p e R s m args below meth c hRR hX hr hxt
  have hR : R.frames = d ∧ R.locals = 64 * d := by rw [hRR]; exact ⟨rfl, rfl⟩
  have hX : zm_X p R s m args meth c RX2 "countOutsideSides" cX2_countOutsideSides 3 zk_E V 0 0 := hX
  unfold zf_X2_countOutsideSides at h
  refine zw_sub (lv' := [(0, .ref a0)]) (List.forall_mem_cons.mpr ⟨rfl, zs_nil⟩) ?_
  refine zw_iconst (v := (0 : Int32)) hX dX2_countOutsideSides_0 (by decide) ?_
  refine zw_istore_n hX dX2_countOutsideSides_1 (by decide) ?_
  refine zw_iconst (v := (0 : Int32)) hX dX2_countOutsideSides_2 (by decide) ?_
  refine zw_istore_n hX dX2_countOutsideSides_3 (by decide) ?_
  obtain ⟨r, g, h⟩ := zb_some h
  refine zw_sub (lv' := [(0, .ref a0), (1, .int (0 : Int32)), (2, .int (0 : Int32))]) (List.forall_mem_cons.mpr ⟨rfl, (List.forall_mem_cons.mpr ⟨rfl, (List.forall_mem_cons.mpr ⟨rfl, zs_nil⟩)⟩)⟩) ?_
  refine zt_X2_countOutsideSides_L4 hX hr hR hd (res := r) (out := out) a0 ?_ ?_ N _ _ _ g
  · intro o ho
    subst ho
    exact Option.some.inj h
  · intro v9 S8 hx
    subst hx
    try dsimp only at h
    refine zw_iload_n hX dX2_countOutsideSides_45 rfl ?_
    obtain rfl := Option.some.inj h
    exact zw_iret hX hr dX2_countOutsideSides_46 rfl ⟨rfl, rfl⟩
def zf_X2_findRing_L5 (N : Nat) : Nat → Nat → Int32 → Int32 → Int32 → Int32 → zm_S → Option ((Int32 × zm_S) ⊕ ((Unit) × zm_S))
  | 0, _, _, _, _, _, _ => none
  | n + 1, a0, i1, i2, i3, i4, S => (zg_i S a0 2 12).bind (fun v1 => if v1 ≤ i4 then some (.inr ((), S)) else (zg_r S a0 2 13).bind (fun b2 => (za_r S b2 i4).bind (fun b3 => (za_x S 0 b3 (0 : Int32)).bind (fun v4 => if v4 = i1 then if i3 = i2 then some (.inl (i4, S)) else zf_X2_findRing_L5 N n a0 i1 i2 (i3 + (1 : Int32)) (i4 + (1 : Int32)) S else zf_X2_findRing_L5 N n a0 i1 i2 i3 (i4 + (1 : Int32)) S))))
set_option maxHeartbeats 4000000 in
set_option maxRecDepth 100000 in
theorem zt_X2_findRing_L5 {p : Program} {l : Launch} {e : Env} {R : Room} {s : State} {m : MethodId} {args : Array Value} {below : List Frame} {meth : Method} {c : Code} {V : zm_V} {mc ms d rc rs : Nat} (hX : zm_X p R s m args meth c RX2 "findRing" cX2_findRing 5 zk_E V mc ms) (hr : meth.sig.returnType = (some .int)) (hR : R.frames = d ∧ R.locals = 64 * d) (hd : 1 ≤ d) {N : Nat} {res : (Int32 × zm_S) ⊕ ((Unit) × zm_S)} {out : (Int32 × zm_S)} (a0 : Nat) (i1 : Int32) (i2 : Int32) (hf : ∀ o, res = .inl o → o = out) (hk : ∀ (S' : zm_S), res = .inr ((), S') → zw p l e R s m args below meth c (vx_MQ below (zm_Qc zk_E V (zo_i out)) (zm_XC zk_E V zo_x) args s mc ms (fun q => V.2.2.2.1 ≤ q)) 5 zk_E V mc ms 44 [] [] S' rc rs) : ∀ (n : Nat) (i3 : Int32) (i4 : Int32) (S : zm_S), zf_X2_findRing_L5 N n a0 i1 i2 i3 i4 S = some res → zw p l e R s m args below meth c (vx_MQ below (zm_Qc zk_E V (zo_i out)) (zm_XC zk_E V zo_x) args s mc ms (fun q => V.2.2.2.1 ≤ q)) 5 zk_E V mc ms 5 [(0, .ref a0), (1, .int i1), (2, .int i2), (3, .int i3), (4, .int i4)] [] S rc rs := by
  intro n
  induction n with
  | zero => intro i3 i4 S h; cases h
  | succ n ih =>
    intro i3 i4 S h
    rw [zf_X2_findRing_L5] at h
    refine zw_iload hX dX2_findRing_5 rfl ?_
    refine zw_aload_n hX dX2_findRing_7 rfl ?_
    obtain ⟨v1, g, h⟩ := zb_some h
    refine zw_geti hX zl_X2_139 dX2_findRing_8 g ?_
    refine zw_icmp_ge (tgt := 44) hX dX2_findRing_11 (by decide) (fun c11 => ?_) (fun c11 => ?_)
    · rw [if_pos c11] at h
      refine zw_sub (lv' := []) zs_nil ?_
      exact hk  _ (Option.some.inj h).symm
    · rw [if_neg c11] at h
      refine zw_aload_n hX dX2_findRing_14 rfl ?_
      obtain ⟨b2, g, h⟩ := zb_some h
      refine zw_getr hX zl_X2_39 dX2_findRing_15 g ?_
      refine zw_iload hX dX2_findRing_18 rfl ?_
      obtain ⟨b3, g, h⟩ := zb_some h
      refine zw_xr hX dX2_findRing_20 g ?_
      refine zw_iconst (v := (0 : Int32)) hX dX2_findRing_21 (by decide) ?_
      obtain ⟨v4, g, h⟩ := zb_some h
      refine zw_xi hX dX2_findRing_22 g ?_
      refine zw_iload_n hX dX2_findRing_23 rfl ?_
      refine zw_icmp_ne (tgt := 38) hX dX2_findRing_24 (by decide) (fun c24 => ?_) (fun c24 => ?_)
      · rw [if_neg c24] at h
        refine zw_iinc (v := (i4 + (1 : Int32))) hX dX2_findRing_38 rfl rfl (by decide) ?_
        refine zw_goto (tgt := 5) hX dX2_findRing_41 (by decide) ?_
        refine zw_sub (lv' := [(0, .ref a0), (1, .int i1), (2, .int i2), (3, .int i3), (4, .int (i4 + (1 : Int32)))]) (List.forall_mem_cons.mpr ⟨rfl, (List.forall_mem_cons.mpr ⟨rfl, (List.forall_mem_cons.mpr ⟨rfl, (List.forall_mem_cons.mpr ⟨rfl, (List.forall_mem_cons.mpr ⟨rfl, zs_nil⟩)⟩)⟩)⟩)⟩) ?_
        exact ih _ _ _ h
      · rw [if_pos c24] at h
        refine zw_iload_n hX dX2_findRing_27 rfl ?_
        refine zw_iload_n hX dX2_findRing_28 rfl ?_
        refine zw_icmp_ne (tgt := 35) hX dX2_findRing_29 (by decide) (fun c29 => ?_) (fun c29 => ?_)
        · rw [if_neg c29] at h
          refine zw_iinc (v := (i3 + (1 : Int32))) hX dX2_findRing_35 rfl rfl (by decide) ?_
          refine zw_iinc (v := (i4 + (1 : Int32))) hX dX2_findRing_38 rfl rfl (by decide) ?_
          refine zw_goto (tgt := 5) hX dX2_findRing_41 (by decide) ?_
          refine zw_sub (lv' := [(0, .ref a0), (1, .int i1), (2, .int i2), (3, .int (i3 + (1 : Int32))), (4, .int (i4 + (1 : Int32)))]) (List.forall_mem_cons.mpr ⟨rfl, (List.forall_mem_cons.mpr ⟨rfl, (List.forall_mem_cons.mpr ⟨rfl, (List.forall_mem_cons.mpr ⟨rfl, (List.forall_mem_cons.mpr ⟨rfl, zs_nil⟩)⟩)⟩)⟩)⟩) ?_
          exact ih _ _ _ h
        · rw [if_pos c29] at h
          refine zw_iload hX dX2_findRing_32 rfl ?_
          have hz := hf _ (Option.some.inj h).symm
          subst hz
          exact zw_iret hX hr dX2_findRing_34 rfl ⟨rfl, rfl⟩
def zf_X2_findRing (N : Nat) (a0 : Nat) (i1 : Int32) (i2 : Int32) (S : zm_S) : Option (Int32 × zm_S) := (zf_X2_findRing_L5 N N a0 i1 i2 (0 : Int32) (0 : Int32) S).bind (fun r => match r with | .inl o => some o | .inr (_, S5) => some ((-1 : Int32), S5))
set_option maxHeartbeats 4000000 in
set_option maxRecDepth 100000 in
theorem zt_X2_findRing {l : Launch} {V : zm_V} {N : Nat} {S : zm_S} {out : (Int32 × zm_S)} {d : Nat} {a0 : Nat} {i1 : Int32} {i2 : Int32} (hd : 1 ≤ d) (h : zf_X2_findRing N a0 i1 i2 S = some out) : zm_Met l zk_E V yX2_findRing (.code yX2_findRing cX2_findRing 5 (some .int)) d [.ref a0, .int i1, .int i2] S 0 0 (zo_i out) zo_x := by
  refine zm_of (by decide +kernel) (Nat.le_of_ble_eq_true rfl) ?_
  intro p e R s m args below meth c hRR hX hr hxt
  have hR : R.frames = d ∧ R.locals = 64 * d := by rw [hRR]; exact ⟨rfl, rfl⟩
  have hX : zm_X p R s m args meth c RX2 "findRing" cX2_findRing 5 zk_E V 0 0 := hX
  unfold zf_X2_findRing at h
  refine zw_sub (lv' := [(0, .ref a0), (1, .int i1), (2, .int i2)]) (List.forall_mem_cons.mpr ⟨rfl, (List.forall_mem_cons.mpr ⟨rfl, (List.forall_mem_cons.mpr ⟨rfl, zs_nil⟩)⟩)⟩) ?_
  refine zw_iconst (v := (0 : Int32)) hX dX2_findRing_0 (by decide) ?_
  refine zw_istore_n hX dX2_findRing_1 (by decide) ?_
  refine zw_iconst (v := (0 : Int32)) hX dX2_findRing_2 (by decide) ?_
  refine zw_istore hX dX2_findRing_3 (by decide) ?_
  obtain ⟨r, g, h⟩ := zb_some h
  refine zw_sub (lv' := [(0, .ref a0), (1, .int i1), (2, .int i2), (3, .int (0 : Int32)), (4, .int (0 : Int32))]) (List.forall_mem_cons.mpr ⟨rfl, (List.forall_mem_cons.mpr ⟨rfl, (List.forall_mem_cons.mpr ⟨rfl, (List.forall_mem_cons.mpr ⟨rfl, (List.forall_mem_cons.mpr ⟨rfl, zs_nil⟩)⟩)⟩)⟩)⟩) ?_
  refine zt_X2_findRing_L5 hX hr hR hd (res := r) (out := out) a0 i1 i2 ?_ ?_ N _ _ _ g
  · intro o ho
    subst ho
    exact Option.some.inj h
  · intro  S5 hx
    subst hx
    try dsimp only at h
    refine zw_iconst (v := (-1 : Int32)) hX dX2_findRing_44 (by decide) ?_
    obtain rfl := Option.some.inj h
    exact zw_iret hX hr dX2_findRing_45 rfl ⟨rfl, rfl⟩
def zf_X2_sidesOf (N : Nat) (a0 : Nat) (i1 : Int32) (i2 : Int32) (S : zm_S) : Option (Int32 × zm_S) := (zi S a0 2).bind (fun _ => (zf_X2_findRing N a0 i1 i2 S).bind (fun r3 => if r3.1 = (-1 : Int32) then some ((0 : Int32), r3.2) else (zg_r r3.2 a0 2 13).bind (fun b4 => (za_r r3.2 b4 r3.1).bind (fun b5 => (za_x r3.2 0 b5 (2 : Int32)).bind (fun v6 => some (v6, r3.2))))))
set_option maxHeartbeats 4000000 in
set_option maxRecDepth 100000 in
theorem zt_X2_sidesOf {l : Launch} {V : zm_V} {N : Nat} {S : zm_S} {out : (Int32 × zm_S)} {d : Nat} {a0 : Nat} {i1 : Int32} {i2 : Int32} (hd : 2 ≤ d) (h : zf_X2_sidesOf N a0 i1 i2 S = some out) : zm_Met l zk_E V yX2_sidesOf (.code yX2_sidesOf cX2_sidesOf 4 (some .int)) d [.ref a0, .int i1, .int i2] S 0 0 (zo_i out) zo_x := by
  refine zm_of (by decide +kernel) (Nat.le_of_ble_eq_true rfl) ?_
  intro p e R s m args below meth c hRR hX hr hxt
  have hR : R.frames = d ∧ R.locals = 64 * d := by rw [hRR]; exact ⟨rfl, rfl⟩
  have hX : zm_X p R s m args meth c RX2 "sidesOf" cX2_sidesOf 4 zk_E V 0 0 := hX
  unfold zf_X2_sidesOf at h
  refine zw_sub (lv' := [(0, .ref a0), (1, .int i1), (2, .int i2)]) (List.forall_mem_cons.mpr ⟨rfl, (List.forall_mem_cons.mpr ⟨rfl, (List.forall_mem_cons.mpr ⟨rfl, zs_nil⟩)⟩)⟩) ?_
  refine zw_aload_n hX dX2_sidesOf_0 rfl ?_
  refine zw_iload_n hX dX2_sidesOf_1 rfl ?_
  refine zw_iload_n hX dX2_sidesOf_2 rfl ?_
  obtain ⟨_, gi, h⟩ := zb_some h
  obtain ⟨r3, g, h⟩ := zb_some h
  refine zc_Vi (as := [.int i1, .int i2]) hX gi (zt_X2_findRing (d := d - 1) (by omega) g) zl_X2_179 rfl dX2_sidesOf_3 ⟨rfl, rfl, Nat.le_of_ble_eq_true rfl⟩ ⟨by omega, by omega⟩ ?_
  refine zw_istore_n hX dX2_sidesOf_6 (by decide) ?_
  refine zw_iload_n hX dX2_sidesOf_7 rfl ?_
  refine zw_iconst (v := (-1 : Int32)) hX dX2_sidesOf_8 (by decide) ?_
  refine zw_icmp_ne (tgt := 16) hX dX2_sidesOf_9 (by decide) (fun c9 => ?_) (fun c9 => ?_)
  · rw [if_neg c9] at h
    refine zw_aload_n hX dX2_sidesOf_16 rfl ?_
    obtain ⟨b4, g, h⟩ := zb_some h
    refine zw_getr hX zl_X2_39 dX2_sidesOf_17 g ?_
    refine zw_iload_n hX dX2_sidesOf_20 rfl ?_
    obtain ⟨b5, g, h⟩ := zb_some h
    refine zw_xr hX dX2_sidesOf_21 g ?_
    refine zw_iconst (v := (2 : Int32)) hX dX2_sidesOf_22 (by decide) ?_
    obtain ⟨v6, g, h⟩ := zb_some h
    refine zw_xi hX dX2_sidesOf_23 g ?_
    obtain rfl := Option.some.inj h
    exact zw_iret hX hr dX2_sidesOf_24 rfl ⟨rfl, rfl⟩
  · rw [if_pos c9] at h
    refine zw_iconst (v := (0 : Int32)) hX dX2_sidesOf_12 (by decide) ?_
    refine zw_goto (tgt := 24) hX dX2_sidesOf_13 (by decide) ?_
    obtain rfl := Option.some.inj h
    exact zw_iret hX hr dX2_sidesOf_24 rfl ⟨rfl, rfl⟩
def zf_X2_sideOf (N : Nat) (a0 : Nat) (i1 : Int32) (i2 : Int32) (i3 : Int32) (i4 : Int32) (S : zm_S) : Option (Int32 × zm_S) := (zi S a0 2).bind (fun _ => (zf_X2_findRing N a0 i1 i2 S).bind (fun r3 => if r3.1 = (-1 : Int32) then some ((-1 : Int32), r3.2) else (zg_r r3.2 a0 2 15).bind (fun b4 => (zg_r r3.2 a0 2 13).bind (fun b5 => (za_r r3.2 b5 r3.1).bind (fun b6 => (za_x r3.2 0 b6 (1 : Int32)).bind (fun v7 => (za_r r3.2 b4 (v7 + i3)).bind (fun b8 => (za_x r3.2 0 b8 i4).bind (fun v9 => some (v9, r3.2)))))))))
set_option maxHeartbeats 4000000 in
set_option maxRecDepth 100000 in
theorem zt_X2_sideOf {l : Launch} {V : zm_V} {N : Nat} {S : zm_S} {out : (Int32 × zm_S)} {d : Nat} {a0 : Nat} {i1 : Int32} {i2 : Int32} {i3 : Int32} {i4 : Int32} (hd : 2 ≤ d) (h : zf_X2_sideOf N a0 i1 i2 i3 i4 S = some out) : zm_Met l zk_E V yX2_sideOf (.code yX2_sideOf cX2_sideOf 6 (some .int)) d [.ref a0, .int i1, .int i2, .int i3, .int i4] S 0 0 (zo_i out) zo_x := by
  refine zm_of (by decide +kernel) (Nat.le_of_ble_eq_true rfl) ?_
  intro p e R s m args below meth c hRR hX hr hxt
  have hR : R.frames = d ∧ R.locals = 64 * d := by rw [hRR]; exact ⟨rfl, rfl⟩
  have hX : zm_X p R s m args meth c RX2 "sideOf" cX2_sideOf 6 zk_E V 0 0 := hX
  unfold zf_X2_sideOf at h
  refine zw_sub (lv' := [(0, .ref a0), (1, .int i1), (2, .int i2), (3, .int i3), (4, .int i4)]) (List.forall_mem_cons.mpr ⟨rfl, (List.forall_mem_cons.mpr ⟨rfl, (List.forall_mem_cons.mpr ⟨rfl, (List.forall_mem_cons.mpr ⟨rfl, (List.forall_mem_cons.mpr ⟨rfl, zs_nil⟩)⟩)⟩)⟩)⟩) ?_
  refine zw_aload_n hX dX2_sideOf_0 rfl ?_
  refine zw_iload_n hX dX2_sideOf_1 rfl ?_
  refine zw_iload_n hX dX2_sideOf_2 rfl ?_
  obtain ⟨_, gi, h⟩ := zb_some h
  obtain ⟨r3, g, h⟩ := zb_some h
  refine zc_Vi (as := [.int i1, .int i2]) hX gi (zt_X2_findRing (d := d - 1) (by omega) g) zl_X2_179 rfl dX2_sideOf_3 ⟨rfl, rfl, Nat.le_of_ble_eq_true rfl⟩ ⟨by omega, by omega⟩ ?_
  refine zw_istore hX dX2_sideOf_6 (by decide) ?_
  refine zw_iload hX dX2_sideOf_8 rfl ?_
  refine zw_iconst (v := (-1 : Int32)) hX dX2_sideOf_10 (by decide) ?_
  refine zw_icmp_ne (tgt := 18) hX dX2_sideOf_11 (by decide) (fun c11 => ?_) (fun c11 => ?_)
  · rw [if_neg c11] at h
    refine zw_aload_n hX dX2_sideOf_18 rfl ?_
    obtain ⟨b4, g, h⟩ := zb_some h
    refine zw_getr hX zl_X2_42 dX2_sideOf_19 g ?_
    refine zw_aload_n hX dX2_sideOf_22 rfl ?_
    obtain ⟨b5, g, h⟩ := zb_some h
    refine zw_getr hX zl_X2_39 dX2_sideOf_23 g ?_
    refine zw_iload hX dX2_sideOf_26 rfl ?_
    obtain ⟨b6, g, h⟩ := zb_some h
    refine zw_xr hX dX2_sideOf_28 g ?_
    refine zw_iconst (v := (1 : Int32)) hX dX2_sideOf_29 (by decide) ?_
    obtain ⟨v7, g, h⟩ := zb_some h
    refine zw_xi hX dX2_sideOf_30 g ?_
    refine zw_iload_n hX dX2_sideOf_31 rfl ?_
    refine zw_iadd hX dX2_sideOf_32 ?_
    obtain ⟨b8, g, h⟩ := zb_some h
    refine zw_xr hX dX2_sideOf_33 g ?_
    refine zw_iload hX dX2_sideOf_34 rfl ?_
    obtain ⟨v9, g, h⟩ := zb_some h
    refine zw_xi hX dX2_sideOf_36 g ?_
    obtain rfl := Option.some.inj h
    exact zw_iret hX hr dX2_sideOf_37 rfl ⟨rfl, rfl⟩
  · rw [if_pos c11] at h
    refine zw_iconst (v := (-1 : Int32)) hX dX2_sideOf_14 (by decide) ?_
    refine zw_goto (tgt := 37) hX dX2_sideOf_15 (by decide) ?_
    obtain rfl := Option.some.inj h
    exact zw_iret hX hr dX2_sideOf_37 rfl ⟨rfl, rfl⟩
def zf_X2_countRings_J30 (N : Nat) (k : Nat → Int32 → Int32 → Int32 → zm_S → Option ((Int32 × zm_S) ⊕ ((Int32) × zm_S))) (a0 : Nat) (i1 : Int32) (i3 : Int32) (t0 : Int32) (t1 : Int32) (S : zm_S) : Option ((Int32 × zm_S) ⊕ ((Int32) × zm_S)) := k a0 i1 (t0 + t1) (i3 + (1 : Int32)) S
set_option maxHeartbeats 4000000 in
set_option maxRecDepth 100000 in
theorem zt_X2_countRings_J30 {p : Program} {l : Launch} {e : Env} {R : Room} {s : State} {m : MethodId} {args : Array Value} {below : List Frame} {meth : Method} {c : Code} {V : zm_V} {mc ms d rc rs : Nat} (hX : zm_X p R s m args meth c RX2 "countRings" cX2_countRings 4 zk_E V mc ms) (hr : meth.sig.returnType = (some .int)) (hR : R.frames = d ∧ R.locals = 64 * d) (hd : 1 ≤ d) {N : Nat} {k : Nat → Int32 → Int32 → Int32 → zm_S → Option ((Int32 × zm_S) ⊕ ((Int32) × zm_S))} {a0 : Nat} {i1 : Int32} {i3 : Int32} {t0 : Int32} {t1 : Int32} {res : (Int32 × zm_S) ⊕ ((Int32) × zm_S)} {out : (Int32 × zm_S)}   (hf : ∀ o, res = .inl o → o = out) (hk : ∀ (x2 : Int32) (S' : zm_S), res = .inr (x2, S') → zw p l e R s m args below meth c (vx_MQ below (zm_Qc zk_E V (zo_i out)) (zm_XC zk_E V zo_x) args s mc ms (fun q => V.2.2.2.1 ≤ q)) 4 zk_E V mc ms 38 [(2, .int x2)] [] S' rc rs) (hrec : ∀ (i2' : Int32) (i3' : Int32) (S : zm_S), k a0 i1 i2' i3' S = some res → zw p l e R s m args below meth c (vx_MQ below (zm_Qc zk_E V (zo_i out)) (zm_XC zk_E V zo_x) args s mc ms (fun q => V.2.2.2.1 ≤ q)) 4 zk_E V mc ms 4 [(0, .ref a0), (1, .int i1), (2, .int i2'), (3, .int i3')] [] S rc rs) {S : zm_S} (h : zf_X2_countRings_J30 N k a0 i1 i3 t0 t1 S = some res) : zw p l e R s m args below meth c (vx_MQ below (zm_Qc zk_E V (zo_i out)) (zm_XC zk_E V zo_x) args s mc ms (fun q => V.2.2.2.1 ≤ q)) 4 zk_E V mc ms 30 [(0, .ref a0), (1, .int i1), (3, .int i3)] [.int t1, .int t0] S rc rs := by
  unfold zf_X2_countRings_J30 at h
  refine zw_iadd hX dX2_countRings_30 ?_
  refine zw_istore_n hX dX2_countRings_31 (by decide) ?_
  refine zw_iinc (v := (i3 + (1 : Int32))) hX dX2_countRings_32 rfl rfl (by decide) ?_
  refine zw_goto (tgt := 4) hX dX2_countRings_35 (by decide) ?_
  refine zw_sub (lv' := [(0, .ref a0), (1, .int i1), (2, .int (t0 + t1)), (3, .int (i3 + (1 : Int32)))]) (List.forall_mem_cons.mpr ⟨rfl, (List.forall_mem_cons.mpr ⟨rfl, (List.forall_mem_cons.mpr ⟨rfl, (List.forall_mem_cons.mpr ⟨rfl, zs_nil⟩)⟩)⟩)⟩) ?_
  exact hrec _ _ _ h
def zf_X2_countRings_L4 (N : Nat) : Nat → Nat → Int32 → Int32 → Int32 → zm_S → Option ((Int32 × zm_S) ⊕ ((Int32) × zm_S))
  | 0, _, _, _, _, _ => none
  | n + 1, a0, i1, i2, i3, S => (zg_i S a0 2 12).bind (fun v1 => if v1 ≤ i3 then some (.inr (i2, S)) else (zg_r S a0 2 13).bind (fun b2 => (za_r S b2 i3).bind (fun b3 => (za_x S 0 b3 (0 : Int32)).bind (fun v4 => if v4 = i1 then zf_X2_countRings_J30 N (zf_X2_countRings_L4 N n) a0 i1 i3 i2 (1 : Int32) S else zf_X2_countRings_J30 N (zf_X2_countRings_L4 N n) a0 i1 i3 i2 (0 : Int32) S))))
set_option maxHeartbeats 4000000 in
set_option maxRecDepth 100000 in
theorem zt_X2_countRings_L4 {p : Program} {l : Launch} {e : Env} {R : Room} {s : State} {m : MethodId} {args : Array Value} {below : List Frame} {meth : Method} {c : Code} {V : zm_V} {mc ms d rc rs : Nat} (hX : zm_X p R s m args meth c RX2 "countRings" cX2_countRings 4 zk_E V mc ms) (hr : meth.sig.returnType = (some .int)) (hR : R.frames = d ∧ R.locals = 64 * d) (hd : 1 ≤ d) {N : Nat} {res : (Int32 × zm_S) ⊕ ((Int32) × zm_S)} {out : (Int32 × zm_S)} (a0 : Nat) (i1 : Int32) (hf : ∀ o, res = .inl o → o = out) (hk : ∀ (x2 : Int32) (S' : zm_S), res = .inr (x2, S') → zw p l e R s m args below meth c (vx_MQ below (zm_Qc zk_E V (zo_i out)) (zm_XC zk_E V zo_x) args s mc ms (fun q => V.2.2.2.1 ≤ q)) 4 zk_E V mc ms 38 [(2, .int x2)] [] S' rc rs) : ∀ (n : Nat) (i2 : Int32) (i3 : Int32) (S : zm_S), zf_X2_countRings_L4 N n a0 i1 i2 i3 S = some res → zw p l e R s m args below meth c (vx_MQ below (zm_Qc zk_E V (zo_i out)) (zm_XC zk_E V zo_x) args s mc ms (fun q => V.2.2.2.1 ≤ q)) 4 zk_E V mc ms 4 [(0, .ref a0), (1, .int i1), (2, .int i2), (3, .int i3)] [] S rc rs := by
  intro n
  induction n with
  | zero => intro i2 i3 S h; cases h
  | succ n ih =>
    intro i2 i3 S h
    rw [zf_X2_countRings_L4] at h
    refine zw_iload_n hX dX2_countRings_4 rfl ?_
    refine zw_aload_n hX dX2_countRings_5 rfl ?_
    obtain ⟨v1, g, h⟩ := zb_some h
    refine zw_geti hX zl_X2_139 dX2_countRings_6 g ?_
    refine zw_icmp_ge (tgt := 38) hX dX2_countRings_9 (by decide) (fun c9 => ?_) (fun c9 => ?_)
    · rw [if_pos c9] at h
      refine zw_sub (lv' := [(2, .int i2)]) (List.forall_mem_cons.mpr ⟨rfl, zs_nil⟩) ?_
      exact hk _ _ (Option.some.inj h).symm
    · rw [if_neg c9] at h
      refine zw_iload_n hX dX2_countRings_12 rfl ?_
      refine zw_aload_n hX dX2_countRings_13 rfl ?_
      obtain ⟨b2, g, h⟩ := zb_some h
      refine zw_getr hX zl_X2_39 dX2_countRings_14 g ?_
      refine zw_iload_n hX dX2_countRings_17 rfl ?_
      obtain ⟨b3, g, h⟩ := zb_some h
      refine zw_xr hX dX2_countRings_18 g ?_
      refine zw_iconst (v := (0 : Int32)) hX dX2_countRings_19 (by decide) ?_
      obtain ⟨v4, g, h⟩ := zb_some h
      refine zw_xi hX dX2_countRings_20 g ?_
      refine zw_iload_n hX dX2_countRings_21 rfl ?_
      refine zw_icmp_ne (tgt := 29) hX dX2_countRings_22 (by decide) (fun c22 => ?_) (fun c22 => ?_)
      · rw [if_neg c22] at h
        refine zw_iconst (v := (0 : Int32)) hX dX2_countRings_29 (by decide) ?_
        refine zw_sub (lv' := [(0, .ref a0), (1, .int i1), (3, .int i3)]) (List.forall_mem_cons.mpr ⟨rfl, (List.forall_mem_cons.mpr ⟨rfl, (List.forall_mem_cons.mpr ⟨rfl, zs_nil⟩)⟩)⟩) ?_
        exact zt_X2_countRings_J30 hX hr hR hd hf hk ih h
      · rw [if_pos c22] at h
        refine zw_iconst (v := (1 : Int32)) hX dX2_countRings_25 (by decide) ?_
        refine zw_goto (tgt := 30) hX dX2_countRings_26 (by decide) ?_
        refine zw_sub (lv' := [(0, .ref a0), (1, .int i1), (3, .int i3)]) (List.forall_mem_cons.mpr ⟨rfl, (List.forall_mem_cons.mpr ⟨rfl, (List.forall_mem_cons.mpr ⟨rfl, zs_nil⟩)⟩)⟩) ?_
        exact zt_X2_countRings_J30 hX hr hR hd hf hk ih h
def zf_X2_countRings (N : Nat) (a0 : Nat) (i1 : Int32) (S : zm_S) : Option (Int32 × zm_S) := (zf_X2_countRings_L4 N N a0 i1 (0 : Int32) (0 : Int32) S).bind (fun r => match r with | .inl o => some o | .inr (v6, S5) => some (v6, S5))
set_option maxHeartbeats 4000000 in
set_option maxRecDepth 100000 in
theorem zt_X2_countRings {l : Launch} {V : zm_V} {N : Nat} {S : zm_S} {out : (Int32 × zm_S)} {d : Nat} {a0 : Nat} {i1 : Int32} (hd : 1 ≤ d) (h : zf_X2_countRings N a0 i1 S = some out) : zm_Met l zk_E V yX2_countRings (.code yX2_countRings cX2_countRings 4 (some .int)) d [.ref a0, .int i1] S 0 0 (zo_i out) zo_x := by
  refine zm_of (by decide +kernel) (Nat.le_of_ble_eq_true rfl) ?_
  intro p e R s m args below meth c hRR hX hr hxt
  have hR : R.frames = d ∧ R.locals = 64 * d := by rw [hRR]; exact ⟨rfl, rfl⟩
  have hX : zm_X p R s m args meth c RX2 "countRings" cX2_countRings 4 zk_E V 0 0 := hX
  unfold zf_X2_countRings at h
  refine zw_sub (lv' := [(0, .ref a0), (1, .int i1)]) (List.forall_mem_cons.mpr ⟨rfl, (List.forall_mem_cons.mpr ⟨rfl, zs_nil⟩)⟩) ?_
  refine zw_iconst (v := (0 : Int32)) hX dX2_countRings_0 (by decide) ?_
  refine zw_istore_n hX dX2_countRings_1 (by decide) ?_
  refine zw_iconst (v := (0 : Int32)) hX dX2_countRings_2 (by decide) ?_
  refine zw_istore_n hX dX2_countRings_3 (by decide) ?_
  obtain ⟨r, g, h⟩ := zb_some h
  refine zw_sub (lv' := [(0, .ref a0), (1, .int i1), (2, .int (0 : Int32)), (3, .int (0 : Int32))]) (List.forall_mem_cons.mpr ⟨rfl, (List.forall_mem_cons.mpr ⟨rfl, (List.forall_mem_cons.mpr ⟨rfl, (List.forall_mem_cons.mpr ⟨rfl, zs_nil⟩)⟩)⟩)⟩) ?_
  refine zt_X2_countRings_L4 hX hr hR hd (res := r) (out := out) a0 i1 ?_ ?_ N _ _ _ g
  · intro o ho
    subst ho
    exact Option.some.inj h
  · intro v6 S5 hx
    subst hx
    try dsimp only at h
    refine zw_iload_n hX dX2_countRings_38 rfl ?_
    obtain rfl := Option.some.inj h
    exact zw_iret hX hr dX2_countRings_39 rfl ⟨rfl, rfl⟩
def zf_X2_measureOf (N : Nat) (a0 : Nat) (i1 : Int32) (i2 : Int32) (S : zm_S) : Option (Int32 × zm_S) := if (i2).toInt = 0 then (zg_r S a0 2 10).bind (fun b4 => (za_x S 0 b4 i1).bind (fun v5 => some (v5, S))) else if (i2).toInt = 1 then (zg_r S a0 2 11).bind (fun b6 => (za_x S 0 b6 i1).bind (fun v7 => some (v7, S))) else (zi S a0 2).bind (fun _ => (zf_X2_countRings N a0 i1 S).bind (fun r3 => some (r3.1, r3.2)))
set_option maxHeartbeats 4000000 in
set_option maxRecDepth 100000 in
theorem zt_X2_measureOf {l : Launch} {V : zm_V} {N : Nat} {S : zm_S} {out : (Int32 × zm_S)} {d : Nat} {a0 : Nat} {i1 : Int32} {i2 : Int32} (hd : 2 ≤ d) (h : zf_X2_measureOf N a0 i1 i2 S = some out) : zm_Met l zk_E V yX2_measureOf (.code yX2_measureOf cX2_measureOf 3 (some .int)) d [.ref a0, .int i1, .int i2] S 0 0 (zo_i out) zo_x := by
  refine zm_of (by decide +kernel) (Nat.le_of_ble_eq_true rfl) ?_
  intro p e R s m args below meth c hRR hX hr hxt
  have hR : R.frames = d ∧ R.locals = 64 * d := by rw [hRR]; exact ⟨rfl, rfl⟩
  have hX : zm_X p R s m args meth c RX2 "measureOf" cX2_measureOf 3 zk_E V 0 0 := hX
  unfold zf_X2_measureOf at h
  refine zw_sub (lv' := [(0, .ref a0), (1, .int i1), (2, .int i2)]) (List.forall_mem_cons.mpr ⟨rfl, (List.forall_mem_cons.mpr ⟨rfl, (List.forall_mem_cons.mpr ⟨rfl, zs_nil⟩)⟩)⟩) ?_
  refine zw_iload_n hX dX2_measureOf_0 rfl ?_
  by_cases c1_0 : (i2).toInt = 0
  · rw [if_pos c1_0] at h
    refine zw_lookup (off := 27) (tgt := 28) hX dX2_measureOf_1 (by decide) (by rw [c1_0]; decide) (by decide) ?_
    refine zw_aload_n hX dX2_measureOf_28 rfl ?_
    obtain ⟨b4, g, h⟩ := zb_some h
    refine zw_getr hX zl_X2_33 dX2_measureOf_29 g ?_
    refine zw_iload_n hX dX2_measureOf_32 rfl ?_
    obtain ⟨v5, g, h⟩ := zb_some h
    refine zw_xi hX dX2_measureOf_33 g ?_
    obtain rfl := Option.some.inj h
    exact zw_iret hX hr dX2_measureOf_34 rfl ⟨rfl, rfl⟩
  rw [if_neg c1_0] at h
  by_cases c1_1 : (i2).toInt = 1
  · rw [if_pos c1_1] at h
    refine zw_lookup (off := 34) (tgt := 35) hX dX2_measureOf_1 (by decide) (by rw [c1_1]; decide) (by decide) ?_
    refine zw_aload_n hX dX2_measureOf_35 rfl ?_
    obtain ⟨b6, g, h⟩ := zb_some h
    refine zw_getr hX zl_X2_36 dX2_measureOf_36 g ?_
    refine zw_iload_n hX dX2_measureOf_39 rfl ?_
    obtain ⟨v7, g, h⟩ := zb_some h
    refine zw_xi hX dX2_measureOf_40 g ?_
    obtain rfl := Option.some.inj h
    exact zw_iret hX hr dX2_measureOf_41 rfl ⟨rfl, rfl⟩
  rw [if_neg c1_1] at h
  refine zw_lookup (off := 41) (tgt := 42) hX dX2_measureOf_1 (by decide) (by simp [Op.lookupswitch.offset, c1_0, c1_1]) (by decide) ?_
  refine zw_aload_n hX dX2_measureOf_42 rfl ?_
  refine zw_iload_n hX dX2_measureOf_43 rfl ?_
  obtain ⟨_, gi, h⟩ := zb_some h
  obtain ⟨r3, g, h⟩ := zb_some h
  refine zc_Vi (as := [.int i1]) hX gi (zt_X2_countRings (d := d - 1) (by omega) g) zl_X2_182 rfl dX2_measureOf_44 ⟨rfl, rfl, Nat.le_of_ble_eq_true rfl⟩ ⟨by omega, by omega⟩ ?_
  obtain rfl := Option.some.inj h
  exact zw_iret hX hr dX2_measureOf_47 rfl ⟨rfl, rfl⟩
def zf_X2_lengthBetween_J114 (N : Nat) (k : Nat → Int32 → Int32 → Int32 → Int32 → Int32 → zm_S → Option ((Int32 × zm_S) ⊕ ((Int32) × zm_S))) (a0 : Nat) (i1 : Int32) (i2 : Int32) (i4 : Int32) (i5 : Int32) (t0 : Int32) (t1 : Int32) (S : zm_S) : Option ((Int32 × zm_S) ⊕ ((Int32) × zm_S)) := k a0 i1 i2 (t0 + t1) i4 (i5 + (1 : Int32)) S
set_option maxHeartbeats 4000000 in
set_option maxRecDepth 100000 in
theorem zt_X2_lengthBetween_J114 {p : Program} {l : Launch} {e : Env} {R : Room} {s : State} {m : MethodId} {args : Array Value} {below : List Frame} {meth : Method} {c : Code} {V : zm_V} {mc ms d rc rs : Nat} (hX : zm_X p R s m args meth c RX2 "lengthBetween" cX2_lengthBetween 9 zk_E V mc ms) (hr : meth.sig.returnType = (some .int)) (hR : R.frames = d ∧ R.locals = 64 * d) (hd : 3 ≤ d) {N : Nat} {k : Nat → Int32 → Int32 → Int32 → Int32 → Int32 → zm_S → Option ((Int32 × zm_S) ⊕ ((Int32) × zm_S))} {a0 : Nat} {i1 : Int32} {i2 : Int32} {i4 : Int32} {i5 : Int32} {t0 : Int32} {t1 : Int32} {res : (Int32 × zm_S) ⊕ ((Int32) × zm_S)} {out : (Int32 × zm_S)}   (hf : ∀ o, res = .inl o → o = out) (hk : ∀ (x3 : Int32) (S' : zm_S), res = .inr (x3, S') → zw p l e R s m args below meth c (vx_MQ below (zm_Qc zk_E V (zo_i out)) (zm_XC zk_E V zo_x) args s mc ms (fun q => V.2.2.2.1 ≤ q)) 9 zk_E V mc ms 122 [(0, .ref a0), (1, .int i1), (2, .int i2), (3, .int x3), (4, .int i4)] [] S' rc rs) (hrec : ∀ (i3' : Int32) (i5' : Int32) (S : zm_S), k a0 i1 i2 i3' i4 i5' S = some res → zw p l e R s m args below meth c (vx_MQ below (zm_Qc zk_E V (zo_i out)) (zm_XC zk_E V zo_x) args s mc ms (fun q => V.2.2.2.1 ≤ q)) 9 zk_E V mc ms 16 [(0, .ref a0), (1, .int i1), (2, .int i2), (3, .int i3'), (4, .int i4), (5, .int i5')] [] S rc rs) {S : zm_S} (h : zf_X2_lengthBetween_J114 N k a0 i1 i2 i4 i5 t0 t1 S = some res) : zw p l e R s m args below meth c (vx_MQ below (zm_Qc zk_E V (zo_i out)) (zm_XC zk_E V zo_x) args s mc ms (fun q => V.2.2.2.1 ≤ q)) 9 zk_E V mc ms 114 [(0, .ref a0), (1, .int i1), (2, .int i2), (4, .int i4), (5, .int i5)] [.int t1, .int t0] S rc rs := by
  unfold zf_X2_lengthBetween_J114 at h
  refine zw_iadd hX dX2_lengthBetween_114 ?_
  refine zw_istore_n hX dX2_lengthBetween_115 (by decide) ?_
  refine zw_iinc (v := (i5 + (1 : Int32))) hX dX2_lengthBetween_116 rfl rfl (by decide) ?_
  refine zw_goto (tgt := 16) hX dX2_lengthBetween_119 (by decide) ?_
  refine zw_sub (lv' := [(0, .ref a0), (1, .int i1), (2, .int i2), (3, .int (t0 + t1)), (4, .int i4), (5, .int (i5 + (1 : Int32)))]) (List.forall_mem_cons.mpr ⟨rfl, (List.forall_mem_cons.mpr ⟨rfl, (List.forall_mem_cons.mpr ⟨rfl, (List.forall_mem_cons.mpr ⟨rfl, (List.forall_mem_cons.mpr ⟨rfl, (List.forall_mem_cons.mpr ⟨rfl, zs_nil⟩)⟩)⟩)⟩)⟩)⟩) ?_
  exact hrec _ _ _ h
def zf_X2_lengthBetween_J113 (N : Nat) (k : Nat → Int32 → Int32 → Int32 → Int32 → Int32 → zm_S → Option ((Int32 × zm_S) ⊕ ((Int32) × zm_S))) (a0 : Nat) (i1 : Int32) (i2 : Int32) (i4 : Int32) (i5 : Int32) (t0 : Int32) (S : zm_S) : Option ((Int32 × zm_S) ⊕ ((Int32) × zm_S)) := zf_X2_lengthBetween_J114 N (k) a0 i1 i2 i4 i5 t0 (0 : Int32) S
set_option maxHeartbeats 4000000 in
set_option maxRecDepth 100000 in
theorem zt_X2_lengthBetween_J113 {p : Program} {l : Launch} {e : Env} {R : Room} {s : State} {m : MethodId} {args : Array Value} {below : List Frame} {meth : Method} {c : Code} {V : zm_V} {mc ms d rc rs : Nat} (hX : zm_X p R s m args meth c RX2 "lengthBetween" cX2_lengthBetween 9 zk_E V mc ms) (hr : meth.sig.returnType = (some .int)) (hR : R.frames = d ∧ R.locals = 64 * d) (hd : 3 ≤ d) {N : Nat} {k : Nat → Int32 → Int32 → Int32 → Int32 → Int32 → zm_S → Option ((Int32 × zm_S) ⊕ ((Int32) × zm_S))} {a0 : Nat} {i1 : Int32} {i2 : Int32} {i4 : Int32} {i5 : Int32} {t0 : Int32} {res : (Int32 × zm_S) ⊕ ((Int32) × zm_S)} {out : (Int32 × zm_S)}   (hf : ∀ o, res = .inl o → o = out) (hk : ∀ (x3 : Int32) (S' : zm_S), res = .inr (x3, S') → zw p l e R s m args below meth c (vx_MQ below (zm_Qc zk_E V (zo_i out)) (zm_XC zk_E V zo_x) args s mc ms (fun q => V.2.2.2.1 ≤ q)) 9 zk_E V mc ms 122 [(0, .ref a0), (1, .int i1), (2, .int i2), (3, .int x3), (4, .int i4)] [] S' rc rs) (hrec : ∀ (i3' : Int32) (i5' : Int32) (S : zm_S), k a0 i1 i2 i3' i4 i5' S = some res → zw p l e R s m args below meth c (vx_MQ below (zm_Qc zk_E V (zo_i out)) (zm_XC zk_E V zo_x) args s mc ms (fun q => V.2.2.2.1 ≤ q)) 9 zk_E V mc ms 16 [(0, .ref a0), (1, .int i1), (2, .int i2), (3, .int i3'), (4, .int i4), (5, .int i5')] [] S rc rs) {S : zm_S} (h : zf_X2_lengthBetween_J113 N k a0 i1 i2 i4 i5 t0 S = some res) : zw p l e R s m args below meth c (vx_MQ below (zm_Qc zk_E V (zo_i out)) (zm_XC zk_E V zo_x) args s mc ms (fun q => V.2.2.2.1 ≤ q)) 9 zk_E V mc ms 113 [(0, .ref a0), (1, .int i1), (2, .int i2), (4, .int i4), (5, .int i5)] [.int t0] S rc rs := by
  unfold zf_X2_lengthBetween_J113 at h
  refine zw_iconst (v := (0 : Int32)) hX dX2_lengthBetween_113 (by decide) ?_
  refine zw_sub (lv' := [(0, .ref a0), (1, .int i1), (2, .int i2), (4, .int i4), (5, .int i5)]) (List.forall_mem_cons.mpr ⟨rfl, (List.forall_mem_cons.mpr ⟨rfl, (List.forall_mem_cons.mpr ⟨rfl, (List.forall_mem_cons.mpr ⟨rfl, (List.forall_mem_cons.mpr ⟨rfl, zs_nil⟩)⟩)⟩)⟩)⟩) ?_
  exact zt_X2_lengthBetween_J114 hX hr hR hd hf hk hrec h
def zf_X2_lengthBetween_J87 (N : Nat) (k : Nat → Int32 → Int32 → Int32 → Int32 → Int32 → zm_S → Option ((Int32 × zm_S) ⊕ ((Int32) × zm_S))) (a0 : Nat) (i1 : Int32) (i2 : Int32) (i3 : Int32) (i4 : Int32) (i5 : Int32) (t0 : Int32) (S : zm_S) : Option ((Int32 × zm_S) ⊕ ((Int32) × zm_S)) := if t0 = 0 then zf_X2_lengthBetween_J113 N (k) a0 i1 i2 i4 i5 i3 S else (zg_r S a0 2 4).bind (fun b7 => (za_r S b7 i5).bind (fun b8 => (za_x S 0 b8 i4).bind (fun v9 => if v9 = (-1 : Int32) then zf_X2_lengthBetween_J113 N (k) a0 i1 i2 i4 i5 i3 S else zf_X2_lengthBetween_J114 N (k) a0 i1 i2 i4 i5 i3 (1 : Int32) S)))
set_option maxHeartbeats 4000000 in
set_option maxRecDepth 100000 in
theorem zt_X2_lengthBetween_J87 {p : Program} {l : Launch} {e : Env} {R : Room} {s : State} {m : MethodId} {args : Array Value} {below : List Frame} {meth : Method} {c : Code} {V : zm_V} {mc ms d rc rs : Nat} (hX : zm_X p R s m args meth c RX2 "lengthBetween" cX2_lengthBetween 9 zk_E V mc ms) (hr : meth.sig.returnType = (some .int)) (hR : R.frames = d ∧ R.locals = 64 * d) (hd : 3 ≤ d) {N : Nat} {k : Nat → Int32 → Int32 → Int32 → Int32 → Int32 → zm_S → Option ((Int32 × zm_S) ⊕ ((Int32) × zm_S))} {a0 : Nat} {i1 : Int32} {i2 : Int32} {i3 : Int32} {i4 : Int32} {i5 : Int32} {t0 : Int32} {res : (Int32 × zm_S) ⊕ ((Int32) × zm_S)} {out : (Int32 × zm_S)}   (hf : ∀ o, res = .inl o → o = out) (hk : ∀ (x3 : Int32) (S' : zm_S), res = .inr (x3, S') → zw p l e R s m args below meth c (vx_MQ below (zm_Qc zk_E V (zo_i out)) (zm_XC zk_E V zo_x) args s mc ms (fun q => V.2.2.2.1 ≤ q)) 9 zk_E V mc ms 122 [(0, .ref a0), (1, .int i1), (2, .int i2), (3, .int x3), (4, .int i4)] [] S' rc rs) (hrec : ∀ (i3' : Int32) (i5' : Int32) (S : zm_S), k a0 i1 i2 i3' i4 i5' S = some res → zw p l e R s m args below meth c (vx_MQ below (zm_Qc zk_E V (zo_i out)) (zm_XC zk_E V zo_x) args s mc ms (fun q => V.2.2.2.1 ≤ q)) 9 zk_E V mc ms 16 [(0, .ref a0), (1, .int i1), (2, .int i2), (3, .int i3'), (4, .int i4), (5, .int i5')] [] S rc rs) {S : zm_S} (h : zf_X2_lengthBetween_J87 N k a0 i1 i2 i3 i4 i5 t0 S = some res) : zw p l e R s m args below meth c (vx_MQ below (zm_Qc zk_E V (zo_i out)) (zm_XC zk_E V zo_x) args s mc ms (fun q => V.2.2.2.1 ≤ q)) 9 zk_E V mc ms 87 [(0, .ref a0), (1, .int i1), (2, .int i2), (3, .int i3), (4, .int i4), (5, .int i5)] [.int t0] S rc rs := by
  unfold zf_X2_lengthBetween_J87 at h
  refine zw_istore hX dX2_lengthBetween_87 (by decide) ?_
  refine zw_iload_n hX dX2_lengthBetween_89 rfl ?_
  refine zw_iload hX dX2_lengthBetween_90 rfl ?_
  refine zw_if_eq (tgt := 113) hX dX2_lengthBetween_92 (by decide) (fun c92 => ?_) (fun c92 => ?_)
  · rw [if_pos c92] at h
    refine zw_sub (lv' := [(0, .ref a0), (1, .int i1), (2, .int i2), (4, .int i4), (5, .int i5)]) (List.forall_mem_cons.mpr ⟨rfl, (List.forall_mem_cons.mpr ⟨rfl, (List.forall_mem_cons.mpr ⟨rfl, (List.forall_mem_cons.mpr ⟨rfl, (List.forall_mem_cons.mpr ⟨rfl, zs_nil⟩)⟩)⟩)⟩)⟩) ?_
    exact zt_X2_lengthBetween_J113 hX hr hR hd hf hk hrec h
  · rw [if_neg c92] at h
    refine zw_aload_n hX dX2_lengthBetween_95 rfl ?_
    obtain ⟨b7, g, h⟩ := zb_some h
    refine zw_getr hX zl_X2_13 dX2_lengthBetween_96 g ?_
    refine zw_iload hX dX2_lengthBetween_99 rfl ?_
    obtain ⟨b8, g, h⟩ := zb_some h
    refine zw_xr hX dX2_lengthBetween_101 g ?_
    refine zw_iload hX dX2_lengthBetween_102 rfl ?_
    obtain ⟨v9, g, h⟩ := zb_some h
    refine zw_xi hX dX2_lengthBetween_104 g ?_
    refine zw_iconst (v := (-1 : Int32)) hX dX2_lengthBetween_105 (by decide) ?_
    refine zw_icmp_eq (tgt := 113) hX dX2_lengthBetween_106 (by decide) (fun c106 => ?_) (fun c106 => ?_)
    · rw [if_pos c106] at h
      refine zw_sub (lv' := [(0, .ref a0), (1, .int i1), (2, .int i2), (4, .int i4), (5, .int i5)]) (List.forall_mem_cons.mpr ⟨rfl, (List.forall_mem_cons.mpr ⟨rfl, (List.forall_mem_cons.mpr ⟨rfl, (List.forall_mem_cons.mpr ⟨rfl, (List.forall_mem_cons.mpr ⟨rfl, zs_nil⟩)⟩)⟩)⟩)⟩) ?_
      exact zt_X2_lengthBetween_J113 hX hr hR hd hf hk hrec h
    · rw [if_neg c106] at h
      refine zw_iconst (v := (1 : Int32)) hX dX2_lengthBetween_109 (by decide) ?_
      refine zw_goto (tgt := 114) hX dX2_lengthBetween_110 (by decide) ?_
      refine zw_sub (lv' := [(0, .ref a0), (1, .int i1), (2, .int i2), (4, .int i4), (5, .int i5)]) (List.forall_mem_cons.mpr ⟨rfl, (List.forall_mem_cons.mpr ⟨rfl, (List.forall_mem_cons.mpr ⟨rfl, (List.forall_mem_cons.mpr ⟨rfl, (List.forall_mem_cons.mpr ⟨rfl, zs_nil⟩)⟩)⟩)⟩)⟩) ?_
      exact zt_X2_lengthBetween_J114 hX hr hR hd hf hk hrec h
def zf_X2_lengthBetween_J86 (N : Nat) (k : Nat → Int32 → Int32 → Int32 → Int32 → Int32 → zm_S → Option ((Int32 × zm_S) ⊕ ((Int32) × zm_S))) (a0 : Nat) (i1 : Int32) (i2 : Int32) (i3 : Int32) (i4 : Int32) (i5 : Int32) (S : zm_S) : Option ((Int32 × zm_S) ⊕ ((Int32) × zm_S)) := zf_X2_lengthBetween_J87 N (k) a0 i1 i2 i3 i4 i5 (0 : Int32) S
set_option maxHeartbeats 4000000 in
set_option maxRecDepth 100000 in
theorem zt_X2_lengthBetween_J86 {p : Program} {l : Launch} {e : Env} {R : Room} {s : State} {m : MethodId} {args : Array Value} {below : List Frame} {meth : Method} {c : Code} {V : zm_V} {mc ms d rc rs : Nat} (hX : zm_X p R s m args meth c RX2 "lengthBetween" cX2_lengthBetween 9 zk_E V mc ms) (hr : meth.sig.returnType = (some .int)) (hR : R.frames = d ∧ R.locals = 64 * d) (hd : 3 ≤ d) {N : Nat} {k : Nat → Int32 → Int32 → Int32 → Int32 → Int32 → zm_S → Option ((Int32 × zm_S) ⊕ ((Int32) × zm_S))} {a0 : Nat} {i1 : Int32} {i2 : Int32} {i3 : Int32} {i4 : Int32} {i5 : Int32} {res : (Int32 × zm_S) ⊕ ((Int32) × zm_S)} {out : (Int32 × zm_S)}   (hf : ∀ o, res = .inl o → o = out) (hk : ∀ (x3 : Int32) (S' : zm_S), res = .inr (x3, S') → zw p l e R s m args below meth c (vx_MQ below (zm_Qc zk_E V (zo_i out)) (zm_XC zk_E V zo_x) args s mc ms (fun q => V.2.2.2.1 ≤ q)) 9 zk_E V mc ms 122 [(0, .ref a0), (1, .int i1), (2, .int i2), (3, .int x3), (4, .int i4)] [] S' rc rs) (hrec : ∀ (i3' : Int32) (i5' : Int32) (S : zm_S), k a0 i1 i2 i3' i4 i5' S = some res → zw p l e R s m args below meth c (vx_MQ below (zm_Qc zk_E V (zo_i out)) (zm_XC zk_E V zo_x) args s mc ms (fun q => V.2.2.2.1 ≤ q)) 9 zk_E V mc ms 16 [(0, .ref a0), (1, .int i1), (2, .int i2), (3, .int i3'), (4, .int i4), (5, .int i5')] [] S rc rs) {S : zm_S} (h : zf_X2_lengthBetween_J86 N k a0 i1 i2 i3 i4 i5 S = some res) : zw p l e R s m args below meth c (vx_MQ below (zm_Qc zk_E V (zo_i out)) (zm_XC zk_E V zo_x) args s mc ms (fun q => V.2.2.2.1 ≤ q)) 9 zk_E V mc ms 86 [(0, .ref a0), (1, .int i1), (2, .int i2), (3, .int i3), (4, .int i4), (5, .int i5)] [] S rc rs := by
  unfold zf_X2_lengthBetween_J86 at h
  refine zw_iconst (v := (0 : Int32)) hX dX2_lengthBetween_86 (by decide) ?_
  refine zw_sub (lv' := [(0, .ref a0), (1, .int i1), (2, .int i2), (3, .int i3), (4, .int i4), (5, .int i5)]) (List.forall_mem_cons.mpr ⟨rfl, (List.forall_mem_cons.mpr ⟨rfl, (List.forall_mem_cons.mpr ⟨rfl, (List.forall_mem_cons.mpr ⟨rfl, (List.forall_mem_cons.mpr ⟨rfl, (List.forall_mem_cons.mpr ⟨rfl, zs_nil⟩)⟩)⟩)⟩)⟩)⟩) ?_
  exact zt_X2_lengthBetween_J87 hX hr hR hd hf hk hrec h
def zf_X2_lengthBetween_J82 (N : Nat) (k : Nat → Int32 → Int32 → Int32 → Int32 → Int32 → zm_S → Option ((Int32 × zm_S) ⊕ ((Int32) × zm_S))) (a0 : Nat) (i1 : Int32) (i2 : Int32) (i3 : Int32) (i4 : Int32) (i5 : Int32) (S : zm_S) : Option ((Int32 × zm_S) ⊕ ((Int32) × zm_S)) := zf_X2_lengthBetween_J87 N (k) a0 i1 i2 i3 i4 i5 (1 : Int32) S
set_option maxHeartbeats 4000000 in
set_option maxRecDepth 100000 in
theorem zt_X2_lengthBetween_J82 {p : Program} {l : Launch} {e : Env} {R : Room} {s : State} {m : MethodId} {args : Array Value} {below : List Frame} {meth : Method} {c : Code} {V : zm_V} {mc ms d rc rs : Nat} (hX : zm_X p R s m args meth c RX2 "lengthBetween" cX2_lengthBetween 9 zk_E V mc ms) (hr : meth.sig.returnType = (some .int)) (hR : R.frames = d ∧ R.locals = 64 * d) (hd : 3 ≤ d) {N : Nat} {k : Nat → Int32 → Int32 → Int32 → Int32 → Int32 → zm_S → Option ((Int32 × zm_S) ⊕ ((Int32) × zm_S))} {a0 : Nat} {i1 : Int32} {i2 : Int32} {i3 : Int32} {i4 : Int32} {i5 : Int32} {res : (Int32 × zm_S) ⊕ ((Int32) × zm_S)} {out : (Int32 × zm_S)}   (hf : ∀ o, res = .inl o → o = out) (hk : ∀ (x3 : Int32) (S' : zm_S), res = .inr (x3, S') → zw p l e R s m args below meth c (vx_MQ below (zm_Qc zk_E V (zo_i out)) (zm_XC zk_E V zo_x) args s mc ms (fun q => V.2.2.2.1 ≤ q)) 9 zk_E V mc ms 122 [(0, .ref a0), (1, .int i1), (2, .int i2), (3, .int x3), (4, .int i4)] [] S' rc rs) (hrec : ∀ (i3' : Int32) (i5' : Int32) (S : zm_S), k a0 i1 i2 i3' i4 i5' S = some res → zw p l e R s m args below meth c (vx_MQ below (zm_Qc zk_E V (zo_i out)) (zm_XC zk_E V zo_x) args s mc ms (fun q => V.2.2.2.1 ≤ q)) 9 zk_E V mc ms 16 [(0, .ref a0), (1, .int i1), (2, .int i2), (3, .int i3'), (4, .int i4), (5, .int i5')] [] S rc rs) {S : zm_S} (h : zf_X2_lengthBetween_J82 N k a0 i1 i2 i3 i4 i5 S = some res) : zw p l e R s m args below meth c (vx_MQ below (zm_Qc zk_E V (zo_i out)) (zm_XC zk_E V zo_x) args s mc ms (fun q => V.2.2.2.1 ≤ q)) 9 zk_E V mc ms 82 [(0, .ref a0), (1, .int i1), (2, .int i2), (3, .int i3), (4, .int i4), (5, .int i5)] [] S rc rs := by
  unfold zf_X2_lengthBetween_J82 at h
  refine zw_iconst (v := (1 : Int32)) hX dX2_lengthBetween_82 (by decide) ?_
  refine zw_goto (tgt := 87) hX dX2_lengthBetween_83 (by decide) ?_
  refine zw_sub (lv' := [(0, .ref a0), (1, .int i1), (2, .int i2), (3, .int i3), (4, .int i4), (5, .int i5)]) (List.forall_mem_cons.mpr ⟨rfl, (List.forall_mem_cons.mpr ⟨rfl, (List.forall_mem_cons.mpr ⟨rfl, (List.forall_mem_cons.mpr ⟨rfl, (List.forall_mem_cons.mpr ⟨rfl, (List.forall_mem_cons.mpr ⟨rfl, zs_nil⟩)⟩)⟩)⟩)⟩)⟩) ?_
  exact zt_X2_lengthBetween_J87 hX hr hR hd hf hk hrec h
def zf_X2_lengthBetween_J70 (N : Nat) (k : Nat → Int32 → Int32 → Int32 → Int32 → Int32 → zm_S → Option ((Int32 × zm_S) ⊕ ((Int32) × zm_S))) (a0 : Nat) (i1 : Int32) (i2 : Int32) (i3 : Int32) (i4 : Int32) (i5 : Int32) (i6 : Int32) (i7 : Int32) (S : zm_S) : Option ((Int32 × zm_S) ⊕ ((Int32) × zm_S)) := if i6 = i2 then if i7 = i1 then zf_X2_lengthBetween_J82 N (k) a0 i1 i2 i3 i4 i5 S else zf_X2_lengthBetween_J86 N (k) a0 i1 i2 i3 i4 i5 S else zf_X2_lengthBetween_J86 N (k) a0 i1 i2 i3 i4 i5 S
set_option maxHeartbeats 4000000 in
set_option maxRecDepth 100000 in
theorem zt_X2_lengthBetween_J70 {p : Program} {l : Launch} {e : Env} {R : Room} {s : State} {m : MethodId} {args : Array Value} {below : List Frame} {meth : Method} {c : Code} {V : zm_V} {mc ms d rc rs : Nat} (hX : zm_X p R s m args meth c RX2 "lengthBetween" cX2_lengthBetween 9 zk_E V mc ms) (hr : meth.sig.returnType = (some .int)) (hR : R.frames = d ∧ R.locals = 64 * d) (hd : 3 ≤ d) {N : Nat} {k : Nat → Int32 → Int32 → Int32 → Int32 → Int32 → zm_S → Option ((Int32 × zm_S) ⊕ ((Int32) × zm_S))} {a0 : Nat} {i1 : Int32} {i2 : Int32} {i3 : Int32} {i4 : Int32} {i5 : Int32} {i6 : Int32} {i7 : Int32} {res : (Int32 × zm_S) ⊕ ((Int32) × zm_S)} {out : (Int32 × zm_S)}   (hf : ∀ o, res = .inl o → o = out) (hk : ∀ (x3 : Int32) (S' : zm_S), res = .inr (x3, S') → zw p l e R s m args below meth c (vx_MQ below (zm_Qc zk_E V (zo_i out)) (zm_XC zk_E V zo_x) args s mc ms (fun q => V.2.2.2.1 ≤ q)) 9 zk_E V mc ms 122 [(0, .ref a0), (1, .int i1), (2, .int i2), (3, .int x3), (4, .int i4)] [] S' rc rs) (hrec : ∀ (i3' : Int32) (i5' : Int32) (S : zm_S), k a0 i1 i2 i3' i4 i5' S = some res → zw p l e R s m args below meth c (vx_MQ below (zm_Qc zk_E V (zo_i out)) (zm_XC zk_E V zo_x) args s mc ms (fun q => V.2.2.2.1 ≤ q)) 9 zk_E V mc ms 16 [(0, .ref a0), (1, .int i1), (2, .int i2), (3, .int i3'), (4, .int i4), (5, .int i5')] [] S rc rs) {S : zm_S} (h : zf_X2_lengthBetween_J70 N k a0 i1 i2 i3 i4 i5 i6 i7 S = some res) : zw p l e R s m args below meth c (vx_MQ below (zm_Qc zk_E V (zo_i out)) (zm_XC zk_E V zo_x) args s mc ms (fun q => V.2.2.2.1 ≤ q)) 9 zk_E V mc ms 70 [(0, .ref a0), (1, .int i1), (2, .int i2), (3, .int i3), (4, .int i4), (5, .int i5), (6, .int i6), (7, .int i7)] [] S rc rs := by
  unfold zf_X2_lengthBetween_J70 at h
  refine zw_iload hX dX2_lengthBetween_70 rfl ?_
  refine zw_iload_n hX dX2_lengthBetween_72 rfl ?_
  refine zw_icmp_ne (tgt := 86) hX dX2_lengthBetween_73 (by decide) (fun c73 => ?_) (fun c73 => ?_)
  · rw [if_neg c73] at h
    refine zw_sub (lv' := [(0, .ref a0), (1, .int i1), (2, .int i2), (3, .int i3), (4, .int i4), (5, .int i5)]) (List.forall_mem_cons.mpr ⟨rfl, (List.forall_mem_cons.mpr ⟨rfl, (List.forall_mem_cons.mpr ⟨rfl, (List.forall_mem_cons.mpr ⟨rfl, (List.forall_mem_cons.mpr ⟨rfl, (List.forall_mem_cons.mpr ⟨rfl, zs_nil⟩)⟩)⟩)⟩)⟩)⟩) ?_
    exact zt_X2_lengthBetween_J86 hX hr hR hd hf hk hrec h
  · rw [if_pos c73] at h
    refine zw_iload hX dX2_lengthBetween_76 rfl ?_
    refine zw_iload_n hX dX2_lengthBetween_78 rfl ?_
    refine zw_icmp_ne (tgt := 86) hX dX2_lengthBetween_79 (by decide) (fun c79 => ?_) (fun c79 => ?_)
    · rw [if_neg c79] at h
      refine zw_sub (lv' := [(0, .ref a0), (1, .int i1), (2, .int i2), (3, .int i3), (4, .int i4), (5, .int i5)]) (List.forall_mem_cons.mpr ⟨rfl, (List.forall_mem_cons.mpr ⟨rfl, (List.forall_mem_cons.mpr ⟨rfl, (List.forall_mem_cons.mpr ⟨rfl, (List.forall_mem_cons.mpr ⟨rfl, (List.forall_mem_cons.mpr ⟨rfl, zs_nil⟩)⟩)⟩)⟩)⟩)⟩) ?_
      exact zt_X2_lengthBetween_J86 hX hr hR hd hf hk hrec h
    · rw [if_pos c79] at h
      refine zw_sub (lv' := [(0, .ref a0), (1, .int i1), (2, .int i2), (3, .int i3), (4, .int i4), (5, .int i5)]) (List.forall_mem_cons.mpr ⟨rfl, (List.forall_mem_cons.mpr ⟨rfl, (List.forall_mem_cons.mpr ⟨rfl, (List.forall_mem_cons.mpr ⟨rfl, (List.forall_mem_cons.mpr ⟨rfl, (List.forall_mem_cons.mpr ⟨rfl, zs_nil⟩)⟩)⟩)⟩)⟩)⟩) ?_
      exact zt_X2_lengthBetween_J82 hX hr hR hd hf hk hrec h
def zf_X2_lengthBetween_L16 (N : Nat) : Nat → Nat → Int32 → Int32 → Int32 → Int32 → Int32 → zm_S → Option ((Int32 × zm_S) ⊕ ((Int32) × zm_S))
  | 0, _, _, _, _, _, _, _ => none
  | n + 1, a0, i1, i2, i3, i4, i5, S => if (2 : Int32) ≤ i5 then some (.inr (i3, S)) else (zi S a0 2).bind (fun _ => (zf_X2_leftOf N a0 (i4 / (25 : Int32)) (i4 - i4 / (25 : Int32) * (25 : Int32)) i5 S).bind (fun r3 => (zi r3.2 a0 2).bind (fun _ => (zf_X2_rightOf N a0 (i4 / (25 : Int32)) (i4 - i4 / (25 : Int32) * (25 : Int32)) i5 r3.2).bind (fun r6 => if r3.1 = i1 then if r6.1 = i2 then zf_X2_lengthBetween_J82 N (zf_X2_lengthBetween_L16 N n) a0 i1 i2 i3 i4 i5 r6.2 else zf_X2_lengthBetween_J70 N (zf_X2_lengthBetween_L16 N n) a0 i1 i2 i3 i4 i5 r3.1 r6.1 r6.2 else zf_X2_lengthBetween_J70 N (zf_X2_lengthBetween_L16 N n) a0 i1 i2 i3 i4 i5 r3.1 r6.1 r6.2))))
set_option maxHeartbeats 4000000 in
set_option maxRecDepth 100000 in
theorem zt_X2_lengthBetween_L16 {p : Program} {l : Launch} {e : Env} {R : Room} {s : State} {m : MethodId} {args : Array Value} {below : List Frame} {meth : Method} {c : Code} {V : zm_V} {mc ms d rc rs : Nat} (hX : zm_X p R s m args meth c RX2 "lengthBetween" cX2_lengthBetween 9 zk_E V mc ms) (hr : meth.sig.returnType = (some .int)) (hR : R.frames = d ∧ R.locals = 64 * d) (hd : 3 ≤ d) {N : Nat} {res : (Int32 × zm_S) ⊕ ((Int32) × zm_S)} {out : (Int32 × zm_S)} (a0 : Nat) (i1 : Int32) (i2 : Int32) (i4 : Int32) (hf : ∀ o, res = .inl o → o = out) (hk : ∀ (x3 : Int32) (S' : zm_S), res = .inr (x3, S') → zw p l e R s m args below meth c (vx_MQ below (zm_Qc zk_E V (zo_i out)) (zm_XC zk_E V zo_x) args s mc ms (fun q => V.2.2.2.1 ≤ q)) 9 zk_E V mc ms 122 [(0, .ref a0), (1, .int i1), (2, .int i2), (3, .int x3), (4, .int i4)] [] S' rc rs) : ∀ (n : Nat) (i3 : Int32) (i5 : Int32) (S : zm_S), zf_X2_lengthBetween_L16 N n a0 i1 i2 i3 i4 i5 S = some res → zw p l e R s m args below meth c (vx_MQ below (zm_Qc zk_E V (zo_i out)) (zm_XC zk_E V zo_x) args s mc ms (fun q => V.2.2.2.1 ≤ q)) 9 zk_E V mc ms 16 [(0, .ref a0), (1, .int i1), (2, .int i2), (3, .int i3), (4, .int i4), (5, .int i5)] [] S rc rs := by
  intro n
  induction n with
  | zero => intro i3 i5 S h; cases h
  | succ n ih =>
    intro i3 i5 S h
    rw [zf_X2_lengthBetween_L16] at h
    refine zw_iload hX dX2_lengthBetween_16 rfl ?_
    refine zw_iconst (v := (2 : Int32)) hX dX2_lengthBetween_18 (by decide) ?_
    refine zw_icmp_ge (tgt := 122) hX dX2_lengthBetween_19 (by decide) (fun c19 => ?_) (fun c19 => ?_)
    · rw [if_pos c19] at h
      refine zw_sub (lv' := [(0, .ref a0), (1, .int i1), (2, .int i2), (3, .int i3), (4, .int i4)]) (List.forall_mem_cons.mpr ⟨rfl, (List.forall_mem_cons.mpr ⟨rfl, (List.forall_mem_cons.mpr ⟨rfl, (List.forall_mem_cons.mpr ⟨rfl, (List.forall_mem_cons.mpr ⟨rfl, zs_nil⟩)⟩)⟩)⟩)⟩) ?_
      exact hk _ _ (Option.some.inj h).symm
    · rw [if_neg c19] at h
      refine zw_aload_n hX dX2_lengthBetween_22 rfl ?_
      refine zw_iload hX dX2_lengthBetween_23 rfl ?_
      refine zw_bipush (v := (25 : Int32)) hX dX2_lengthBetween_25 (by decide) ?_
      refine zw_idiv hX dX2_lengthBetween_27 (by decide) ?_
      refine zw_iload hX dX2_lengthBetween_28 rfl ?_
      refine zw_bipush (v := (25 : Int32)) hX dX2_lengthBetween_30 (by decide) ?_
      refine zw_irem hX dX2_lengthBetween_32 (by decide) ?_
      refine zw_iload hX dX2_lengthBetween_33 rfl ?_
      obtain ⟨_, gi, h⟩ := zb_some h
      obtain ⟨r3, g, h⟩ := zb_some h
      refine zc_Vi (as := [.int (i4 / (25 : Int32)), .int (i4 - i4 / (25 : Int32) * (25 : Int32)), .int i5]) hX gi (zt_X2_leftOf (d := d - 1) (by omega) g) zl_X2_148 rfl dX2_lengthBetween_35 ⟨rfl, rfl, Nat.le_of_ble_eq_true rfl⟩ ⟨by omega, by omega⟩ ?_
      refine zw_istore hX dX2_lengthBetween_38 (by decide) ?_
      refine zw_aload_n hX dX2_lengthBetween_40 rfl ?_
      refine zw_iload hX dX2_lengthBetween_41 rfl ?_
      refine zw_bipush (v := (25 : Int32)) hX dX2_lengthBetween_43 (by decide) ?_
      refine zw_idiv hX dX2_lengthBetween_45 (by decide) ?_
      refine zw_iload hX dX2_lengthBetween_46 rfl ?_
      refine zw_bipush (v := (25 : Int32)) hX dX2_lengthBetween_48 (by decide) ?_
      refine zw_irem hX dX2_lengthBetween_50 (by decide) ?_
      refine zw_iload hX dX2_lengthBetween_51 rfl ?_
      obtain ⟨_, gi, h⟩ := zb_some h
      obtain ⟨r6, g, h⟩ := zb_some h
      refine zc_Vi (as := [.int (i4 / (25 : Int32)), .int (i4 - i4 / (25 : Int32) * (25 : Int32)), .int i5]) hX gi (zt_X2_rightOf (d := d - 1) (by omega) g) zl_X2_167 rfl dX2_lengthBetween_53 ⟨rfl, rfl, Nat.le_of_ble_eq_true rfl⟩ ⟨by omega, by omega⟩ ?_
      refine zw_istore hX dX2_lengthBetween_56 (by decide) ?_
      refine zw_iload hX dX2_lengthBetween_58 rfl ?_
      refine zw_iload_n hX dX2_lengthBetween_60 rfl ?_
      refine zw_icmp_ne (tgt := 70) hX dX2_lengthBetween_61 (by decide) (fun c61 => ?_) (fun c61 => ?_)
      · rw [if_neg c61] at h
        refine zw_sub (lv' := [(0, .ref a0), (1, .int i1), (2, .int i2), (3, .int i3), (4, .int i4), (5, .int i5), (6, .int r3.1), (7, .int r6.1)]) (List.forall_mem_cons.mpr ⟨rfl, (List.forall_mem_cons.mpr ⟨rfl, (List.forall_mem_cons.mpr ⟨rfl, (List.forall_mem_cons.mpr ⟨rfl, (List.forall_mem_cons.mpr ⟨rfl, (List.forall_mem_cons.mpr ⟨rfl, (List.forall_mem_cons.mpr ⟨rfl, (List.forall_mem_cons.mpr ⟨rfl, zs_nil⟩)⟩)⟩)⟩)⟩)⟩)⟩)⟩) ?_
        exact zt_X2_lengthBetween_J70 hX hr hR hd hf hk ih h
      · rw [if_pos c61] at h
        refine zw_iload hX dX2_lengthBetween_64 rfl ?_
        refine zw_iload_n hX dX2_lengthBetween_66 rfl ?_
        refine zw_icmp_eq (tgt := 82) hX dX2_lengthBetween_67 (by decide) (fun c67 => ?_) (fun c67 => ?_)
        · rw [if_pos c67] at h
          refine zw_sub (lv' := [(0, .ref a0), (1, .int i1), (2, .int i2), (3, .int i3), (4, .int i4), (5, .int i5)]) (List.forall_mem_cons.mpr ⟨rfl, (List.forall_mem_cons.mpr ⟨rfl, (List.forall_mem_cons.mpr ⟨rfl, (List.forall_mem_cons.mpr ⟨rfl, (List.forall_mem_cons.mpr ⟨rfl, (List.forall_mem_cons.mpr ⟨rfl, zs_nil⟩)⟩)⟩)⟩)⟩)⟩) ?_
          exact zt_X2_lengthBetween_J82 hX hr hR hd hf hk ih h
        · rw [if_neg c67] at h
          refine zw_sub (lv' := [(0, .ref a0), (1, .int i1), (2, .int i2), (3, .int i3), (4, .int i4), (5, .int i5), (6, .int r3.1), (7, .int r6.1)]) (List.forall_mem_cons.mpr ⟨rfl, (List.forall_mem_cons.mpr ⟨rfl, (List.forall_mem_cons.mpr ⟨rfl, (List.forall_mem_cons.mpr ⟨rfl, (List.forall_mem_cons.mpr ⟨rfl, (List.forall_mem_cons.mpr ⟨rfl, (List.forall_mem_cons.mpr ⟨rfl, (List.forall_mem_cons.mpr ⟨rfl, zs_nil⟩)⟩)⟩)⟩)⟩)⟩)⟩)⟩) ?_
          exact zt_X2_lengthBetween_J70 hX hr hR hd hf hk ih h
def zf_X2_lengthBetween_L5 (N : Nat) : Nat → Nat → Int32 → Int32 → Int32 → Int32 → zm_S → Option ((Int32 × zm_S) ⊕ ((Int32) × zm_S))
  | 0, _, _, _, _, _, _ => none
  | n + 1, a0, i1, i2, i3, i4, S => if (625 : Int32) ≤ i4 then some (.inr (i3, S)) else (zf_X2_lengthBetween_L16 N N a0 i1 i2 i3 i4 (0 : Int32) S).bind (fun r => match r with | .inl o => some (.inl o) | .inr (v11, S10) => zf_X2_lengthBetween_L5 N n a0 i1 i2 v11 (i4 + (1 : Int32)) S10)
set_option maxHeartbeats 4000000 in
set_option maxRecDepth 100000 in
theorem zt_X2_lengthBetween_L5 {p : Program} {l : Launch} {e : Env} {R : Room} {s : State} {m : MethodId} {args : Array Value} {below : List Frame} {meth : Method} {c : Code} {V : zm_V} {mc ms d rc rs : Nat} (hX : zm_X p R s m args meth c RX2 "lengthBetween" cX2_lengthBetween 9 zk_E V mc ms) (hr : meth.sig.returnType = (some .int)) (hR : R.frames = d ∧ R.locals = 64 * d) (hd : 3 ≤ d) {N : Nat} {res : (Int32 × zm_S) ⊕ ((Int32) × zm_S)} {out : (Int32 × zm_S)} (a0 : Nat) (i1 : Int32) (i2 : Int32) (hf : ∀ o, res = .inl o → o = out) (hk : ∀ (x3 : Int32) (S' : zm_S), res = .inr (x3, S') → zw p l e R s m args below meth c (vx_MQ below (zm_Qc zk_E V (zo_i out)) (zm_XC zk_E V zo_x) args s mc ms (fun q => V.2.2.2.1 ≤ q)) 9 zk_E V mc ms 128 [(3, .int x3)] [] S' rc rs) : ∀ (n : Nat) (i3 : Int32) (i4 : Int32) (S : zm_S), zf_X2_lengthBetween_L5 N n a0 i1 i2 i3 i4 S = some res → zw p l e R s m args below meth c (vx_MQ below (zm_Qc zk_E V (zo_i out)) (zm_XC zk_E V zo_x) args s mc ms (fun q => V.2.2.2.1 ≤ q)) 9 zk_E V mc ms 5 [(0, .ref a0), (1, .int i1), (2, .int i2), (3, .int i3), (4, .int i4)] [] S rc rs := by
  intro n
  induction n with
  | zero => intro i3 i4 S h; cases h
  | succ n ih =>
    intro i3 i4 S h
    rw [zf_X2_lengthBetween_L5] at h
    refine zw_iload hX dX2_lengthBetween_5 rfl ?_
    refine zw_sipush (v := (625 : Int32)) hX dX2_lengthBetween_7 (by decide) ?_
    refine zw_icmp_ge (tgt := 128) hX dX2_lengthBetween_10 (by decide) (fun c10 => ?_) (fun c10 => ?_)
    · rw [if_pos c10] at h
      refine zw_sub (lv' := [(3, .int i3)]) (List.forall_mem_cons.mpr ⟨rfl, zs_nil⟩) ?_
      exact hk _ _ (Option.some.inj h).symm
    · rw [if_neg c10] at h
      refine zw_iconst (v := (0 : Int32)) hX dX2_lengthBetween_13 (by decide) ?_
      refine zw_istore hX dX2_lengthBetween_14 (by decide) ?_
      obtain ⟨r, g, h⟩ := zb_some h
      refine zw_sub (lv' := [(0, .ref a0), (1, .int i1), (2, .int i2), (3, .int i3), (4, .int i4), (5, .int (0 : Int32))]) (List.forall_mem_cons.mpr ⟨rfl, (List.forall_mem_cons.mpr ⟨rfl, (List.forall_mem_cons.mpr ⟨rfl, (List.forall_mem_cons.mpr ⟨rfl, (List.forall_mem_cons.mpr ⟨rfl, (List.forall_mem_cons.mpr ⟨rfl, zs_nil⟩)⟩)⟩)⟩)⟩)⟩) ?_
      refine zt_X2_lengthBetween_L16 hX hr hR hd (res := r) (out := out) a0 i1 i2 i4 ?_ ?_ N _ _ _ g
      · intro o ho
        subst ho
        exact hf _ (Option.some.inj h).symm
      · intro v11 S10 hx
        subst hx
        try dsimp only at h
        refine zw_iinc (v := (i4 + (1 : Int32))) hX dX2_lengthBetween_122 rfl rfl (by decide) ?_
        refine zw_goto (tgt := 5) hX dX2_lengthBetween_125 (by decide) ?_
        refine zw_sub (lv' := [(0, .ref a0), (1, .int i1), (2, .int i2), (3, .int v11), (4, .int (i4 + (1 : Int32)))]) (List.forall_mem_cons.mpr ⟨rfl, (List.forall_mem_cons.mpr ⟨rfl, (List.forall_mem_cons.mpr ⟨rfl, (List.forall_mem_cons.mpr ⟨rfl, (List.forall_mem_cons.mpr ⟨rfl, zs_nil⟩)⟩)⟩)⟩)⟩) ?_
        exact ih _ _ _ h
def zf_X2_lengthBetween (N : Nat) (a0 : Nat) (i1 : Int32) (i2 : Int32) (S : zm_S) : Option (Int32 × zm_S) := (zf_X2_lengthBetween_L5 N N a0 i1 i2 (0 : Int32) (0 : Int32) S).bind (fun r => match r with | .inl o => some o | .inr (v13, S12) => some (v13, S12))
set_option maxHeartbeats 4000000 in
set_option maxRecDepth 100000 in
theorem zt_X2_lengthBetween {l : Launch} {V : zm_V} {N : Nat} {S : zm_S} {out : (Int32 × zm_S)} {d : Nat} {a0 : Nat} {i1 : Int32} {i2 : Int32} (hd : 3 ≤ d) (h : zf_X2_lengthBetween N a0 i1 i2 S = some out) : zm_Met l zk_E V yX2_lengthBetween (.code yX2_lengthBetween cX2_lengthBetween 9 (some .int)) d [.ref a0, .int i1, .int i2] S 0 0 (zo_i out) zo_x := by
  refine zm_of (by decide +kernel) (Nat.le_of_ble_eq_true rfl) ?_
  intro p e R s m args below meth c hRR hX hr hxt
  have hR : R.frames = d ∧ R.locals = 64 * d := by rw [hRR]; exact ⟨rfl, rfl⟩
  have hX : zm_X p R s m args meth c RX2 "lengthBetween" cX2_lengthBetween 9 zk_E V 0 0 := hX
  unfold zf_X2_lengthBetween at h
  refine zw_sub (lv' := [(0, .ref a0), (1, .int i1), (2, .int i2)]) (List.forall_mem_cons.mpr ⟨rfl, (List.forall_mem_cons.mpr ⟨rfl, (List.forall_mem_cons.mpr ⟨rfl, zs_nil⟩)⟩)⟩) ?_
  refine zw_iconst (v := (0 : Int32)) hX dX2_lengthBetween_0 (by decide) ?_
  refine zw_istore_n hX dX2_lengthBetween_1 (by decide) ?_
  refine zw_iconst (v := (0 : Int32)) hX dX2_lengthBetween_2 (by decide) ?_
  refine zw_istore hX dX2_lengthBetween_3 (by decide) ?_
  obtain ⟨r, g, h⟩ := zb_some h
  refine zw_sub (lv' := [(0, .ref a0), (1, .int i1), (2, .int i2), (3, .int (0 : Int32)), (4, .int (0 : Int32))]) (List.forall_mem_cons.mpr ⟨rfl, (List.forall_mem_cons.mpr ⟨rfl, (List.forall_mem_cons.mpr ⟨rfl, (List.forall_mem_cons.mpr ⟨rfl, (List.forall_mem_cons.mpr ⟨rfl, zs_nil⟩)⟩)⟩)⟩)⟩) ?_
  refine zt_X2_lengthBetween_L5 hX hr hR hd (res := r) (out := out) a0 i1 i2 ?_ ?_ N _ _ _ g
  · intro o ho
    subst ho
    exact Option.some.inj h
  · intro v13 S12 hx
    subst hx
    try dsimp only at h
    refine zw_iload_n hX dX2_lengthBetween_128 rfl ?_
    obtain rfl := Option.some.inj h
    exact zw_iret hX hr dX2_lengthBetween_129 rfl ⟨rfl, rfl⟩
def zf_X2_goThrough_J92 (N : Nat) (k : Nat → Int32 → Int32 → Int32 → Int32 → Int32 → zm_S → Option ((Int32 × zm_S) ⊕ ((Int32) × zm_S))) (a0 : Nat) (i1 : Int32) (i3 : Int32) (i4 : Int32) (i5 : Int32) (i6 : Int32) (i7 : Int32) (i8 : Int32) (S : zm_S) : Option ((Int32 × zm_S) ⊕ ((Int32) × zm_S)) := (zg_r S a0 2 17).bind (fun b17 => (za_x S 0 b17 i8).bind (fun v18 => if v18 = i3 then (zg_r S a0 2 17).bind (fun b19 => (za_x S 0 b19 i7).bind (fun v20 => if v20 = (-1 : Int32) then (zg_r S a0 2 17).bind (fun b21 => (zs_i S b21 i7 (i3 + (1 : Int32))).bind (fun S22 => k a0 i1 i3 (1 : Int32) i5 (i6 + (1 : Int32)) S22)) else k a0 i1 i3 i4 i5 (i6 + (1 : Int32)) S)) else k a0 i1 i3 i4 i5 (i6 + (1 : Int32)) S))
set_option maxHeartbeats 4000000 in
set_option maxRecDepth 100000 in
theorem zt_X2_goThrough_J92 {p : Program} {l : Launch} {e : Env} {R : Room} {s : State} {m : MethodId} {args : Array Value} {below : List Frame} {meth : Method} {c : Code} {V : zm_V} {mc ms d rc rs : Nat} (hX : zm_X p R s m args meth c RX2 "goThrough" cX2_goThrough 9 zk_E V mc ms) (hr : meth.sig.returnType = (some .boolean)) (hR : R.frames = d ∧ R.locals = 64 * d) (hd : 4 ≤ d) {N : Nat} {k : Nat → Int32 → Int32 → Int32 → Int32 → Int32 → zm_S → Option ((Int32 × zm_S) ⊕ ((Int32) × zm_S))} {a0 : Nat} {i1 : Int32} {i3 : Int32} {i4 : Int32} {i5 : Int32} {i6 : Int32} {i7 : Int32} {i8 : Int32} {res : (Int32 × zm_S) ⊕ ((Int32) × zm_S)} {out : (Int32 × zm_S)}   (hf : ∀ o, res = .inl o → o = out) (hk : ∀ (x4 : Int32) (S' : zm_S), res = .inr (x4, S') → zw p l e R s m args below meth c (vx_MQ below (zm_Qc zk_E V (zo_i out)) (zm_XC zk_E V zo_x) args s mc ms (fun q => V.2.2.2.1 ≤ q)) 9 zk_E V mc ms 133 [(4, .int x4)] [] S' rc rs) (hrec : ∀ (i4' : Int32) (i6' : Int32) (S : zm_S), k a0 i1 i3 i4' i5 i6' S = some res → zw p l e R s m args below meth c (vx_MQ below (zm_Qc zk_E V (zo_i out)) (zm_XC zk_E V zo_x) args s mc ms (fun q => V.2.2.2.1 ≤ q)) 9 zk_E V mc ms 25 [(0, .ref a0), (1, .int i1), (3, .int i3), (4, .int i4'), (5, .int i5), (6, .int i6')] [] S rc rs) {S : zm_S} (h : zf_X2_goThrough_J92 N k a0 i1 i3 i4 i5 i6 i7 i8 S = some res) : zw p l e R s m args below meth c (vx_MQ below (zm_Qc zk_E V (zo_i out)) (zm_XC zk_E V zo_x) args s mc ms (fun q => V.2.2.2.1 ≤ q)) 9 zk_E V mc ms 92 [(0, .ref a0), (1, .int i1), (3, .int i3), (4, .int i4), (5, .int i5), (6, .int i6), (7, .int i7), (8, .int i8)] [] S rc rs := by
  unfold zf_X2_goThrough_J92 at h
  refine zw_aload_n hX dX2_goThrough_92 rfl ?_
  obtain ⟨b17, g, h⟩ := zb_some h
  refine zw_getr hX zl_X2_48 dX2_goThrough_93 g ?_
  refine zw_iload hX dX2_goThrough_96 rfl ?_
  obtain ⟨v18, g, h⟩ := zb_some h
  refine zw_xi hX dX2_goThrough_98 g ?_
  refine zw_iload_n hX dX2_goThrough_99 rfl ?_
  refine zw_icmp_ne (tgt := 127) hX dX2_goThrough_100 (by decide) (fun c100 => ?_) (fun c100 => ?_)
  · rw [if_neg c100] at h
    refine zw_iinc (v := (i6 + (1 : Int32))) hX dX2_goThrough_127 rfl rfl (by decide) ?_
    refine zw_goto (tgt := 25) hX dX2_goThrough_130 (by decide) ?_
    refine zw_sub (lv' := [(0, .ref a0), (1, .int i1), (3, .int i3), (4, .int i4), (5, .int i5), (6, .int (i6 + (1 : Int32)))]) (List.forall_mem_cons.mpr ⟨rfl, (List.forall_mem_cons.mpr ⟨rfl, (List.forall_mem_cons.mpr ⟨rfl, (List.forall_mem_cons.mpr ⟨rfl, (List.forall_mem_cons.mpr ⟨rfl, (List.forall_mem_cons.mpr ⟨rfl, zs_nil⟩)⟩)⟩)⟩)⟩)⟩) ?_
    exact hrec _ _ _ h
  · rw [if_pos c100] at h
    refine zw_aload_n hX dX2_goThrough_103 rfl ?_
    obtain ⟨b19, g, h⟩ := zb_some h
    refine zw_getr hX zl_X2_48 dX2_goThrough_104 g ?_
    refine zw_iload hX dX2_goThrough_107 rfl ?_
    obtain ⟨v20, g, h⟩ := zb_some h
    refine zw_xi hX dX2_goThrough_109 g ?_
    refine zw_iconst (v := (-1 : Int32)) hX dX2_goThrough_110 (by decide) ?_
    refine zw_icmp_ne (tgt := 127) hX dX2_goThrough_111 (by decide) (fun c111 => ?_) (fun c111 => ?_)
    · rw [if_neg c111] at h
      refine zw_iinc (v := (i6 + (1 : Int32))) hX dX2_goThrough_127 rfl rfl (by decide) ?_
      refine zw_goto (tgt := 25) hX dX2_goThrough_130 (by decide) ?_
      refine zw_sub (lv' := [(0, .ref a0), (1, .int i1), (3, .int i3), (4, .int i4), (5, .int i5), (6, .int (i6 + (1 : Int32)))]) (List.forall_mem_cons.mpr ⟨rfl, (List.forall_mem_cons.mpr ⟨rfl, (List.forall_mem_cons.mpr ⟨rfl, (List.forall_mem_cons.mpr ⟨rfl, (List.forall_mem_cons.mpr ⟨rfl, (List.forall_mem_cons.mpr ⟨rfl, zs_nil⟩)⟩)⟩)⟩)⟩)⟩) ?_
      exact hrec _ _ _ h
    · rw [if_pos c111] at h
      refine zw_aload_n hX dX2_goThrough_114 rfl ?_
      obtain ⟨b21, g, h⟩ := zb_some h
      refine zw_getr hX zl_X2_48 dX2_goThrough_115 g ?_
      refine zw_iload hX dX2_goThrough_118 rfl ?_
      refine zw_iload_n hX dX2_goThrough_120 rfl ?_
      refine zw_iconst (v := (1 : Int32)) hX dX2_goThrough_121 (by decide) ?_
      refine zw_iadd hX dX2_goThrough_122 ?_
      obtain ⟨S22, g, h⟩ := zb_some h
      refine zw_si hX dX2_goThrough_123 g ?_
      refine zw_iconst (v := (1 : Int32)) hX dX2_goThrough_124 (by decide) ?_
      refine zw_istore hX dX2_goThrough_125 (by decide) ?_
      refine zw_iinc (v := (i6 + (1 : Int32))) hX dX2_goThrough_127 rfl rfl (by decide) ?_
      refine zw_goto (tgt := 25) hX dX2_goThrough_130 (by decide) ?_
      refine zw_sub (lv' := [(0, .ref a0), (1, .int i1), (3, .int i3), (4, .int (1 : Int32)), (5, .int i5), (6, .int (i6 + (1 : Int32)))]) (List.forall_mem_cons.mpr ⟨rfl, (List.forall_mem_cons.mpr ⟨rfl, (List.forall_mem_cons.mpr ⟨rfl, (List.forall_mem_cons.mpr ⟨rfl, (List.forall_mem_cons.mpr ⟨rfl, (List.forall_mem_cons.mpr ⟨rfl, zs_nil⟩)⟩)⟩)⟩)⟩)⟩) ?_
      exact hrec _ _ _ h
def zf_X2_goThrough_L25 (N : Nat) : Nat → Nat → Int32 → Int32 → Int32 → Int32 → Int32 → zm_S → Option ((Int32 × zm_S) ⊕ ((Int32) × zm_S))
  | 0, _, _, _, _, _, _, _ => none
  | n + 1, a0, i1, i3, i4, i5, i6, S => if i5 ≤ i6 then some (.inr (i4, S)) else (zi S a0 2).bind (fun _ => (zf_X2_roomLeft N a0 i1 i6 S).bind (fun r11 => (zi r11.2 a0 2).bind (fun _ => (zf_X2_roomRight N a0 i1 i6 r11.2).bind (fun r14 => (zg_r r14.2 a0 2 17).bind (fun b15 => (za_x r14.2 0 b15 (r11.1 + (1 : Int32))).bind (fun v16 => if v16 = i3 then (zg_r r14.2 a0 2 17).bind (fun b23 => (za_x r14.2 0 b23 (r14.1 + (1 : Int32))).bind (fun v24 => if v24 = (-1 : Int32) then (zg_r r14.2 a0 2 17).bind (fun b25 => (zs_i r14.2 b25 (r14.1 + (1 : Int32)) (i3 + (1 : Int32))).bind (fun S26 => zf_X2_goThrough_L25 N n a0 i1 i3 (1 : Int32) i5 (i6 + (1 : Int32)) S26)) else zf_X2_goThrough_J92 N (zf_X2_goThrough_L25 N n) a0 i1 i3 i4 i5 i6 (r11.1 + (1 : Int32)) (r14.1 + (1 : Int32)) r14.2)) else zf_X2_goThrough_J92 N (zf_X2_goThrough_L25 N n) a0 i1 i3 i4 i5 i6 (r11.1 + (1 : Int32)) (r14.1 + (1 : Int32)) r14.2))))))
set_option maxHeartbeats 4000000 in
set_option maxRecDepth 100000 in
theorem zt_X2_goThrough_L25 {p : Program} {l : Launch} {e : Env} {R : Room} {s : State} {m : MethodId} {args : Array Value} {below : List Frame} {meth : Method} {c : Code} {V : zm_V} {mc ms d rc rs : Nat} (hX : zm_X p R s m args meth c RX2 "goThrough" cX2_goThrough 9 zk_E V mc ms) (hr : meth.sig.returnType = (some .boolean)) (hR : R.frames = d ∧ R.locals = 64 * d) (hd : 4 ≤ d) {N : Nat} {res : (Int32 × zm_S) ⊕ ((Int32) × zm_S)} {out : (Int32 × zm_S)} (a0 : Nat) (i1 : Int32) (i3 : Int32) (i5 : Int32) (hf : ∀ o, res = .inl o → o = out) (hk : ∀ (x4 : Int32) (S' : zm_S), res = .inr (x4, S') → zw p l e R s m args below meth c (vx_MQ below (zm_Qc zk_E V (zo_i out)) (zm_XC zk_E V zo_x) args s mc ms (fun q => V.2.2.2.1 ≤ q)) 9 zk_E V mc ms 133 [(4, .int x4)] [] S' rc rs) : ∀ (n : Nat) (i4 : Int32) (i6 : Int32) (S : zm_S), zf_X2_goThrough_L25 N n a0 i1 i3 i4 i5 i6 S = some res → zw p l e R s m args below meth c (vx_MQ below (zm_Qc zk_E V (zo_i out)) (zm_XC zk_E V zo_x) args s mc ms (fun q => V.2.2.2.1 ≤ q)) 9 zk_E V mc ms 25 [(0, .ref a0), (1, .int i1), (3, .int i3), (4, .int i4), (5, .int i5), (6, .int i6)] [] S rc rs := by
  intro n
  induction n with
  | zero => intro i4 i6 S h; cases h
  | succ n ih =>
    intro i4 i6 S h
    rw [zf_X2_goThrough_L25] at h
    refine zw_iload hX dX2_goThrough_25 rfl ?_
    refine zw_iload hX dX2_goThrough_27 rfl ?_
    refine zw_icmp_ge (tgt := 133) hX dX2_goThrough_29 (by decide) (fun c29 => ?_) (fun c29 => ?_)
    · rw [if_pos c29] at h
      refine zw_sub (lv' := [(4, .int i4)]) (List.forall_mem_cons.mpr ⟨rfl, zs_nil⟩) ?_
      exact hk _ _ (Option.some.inj h).symm
    · rw [if_neg c29] at h
      refine zw_aload_n hX dX2_goThrough_32 rfl ?_
      refine zw_iload_n hX dX2_goThrough_33 rfl ?_
      refine zw_iload hX dX2_goThrough_34 rfl ?_
      obtain ⟨_, gi, h⟩ := zb_some h
      obtain ⟨r11, g, h⟩ := zb_some h
      refine zc_Vi (as := [.int i1, .int i6]) hX gi (zt_X2_roomLeft (d := d - 1) (by omega) g) zl_X2_198 rfl dX2_goThrough_36 ⟨rfl, rfl, Nat.le_of_ble_eq_true rfl⟩ ⟨by omega, by omega⟩ ?_
      refine zw_iconst (v := (1 : Int32)) hX dX2_goThrough_39 (by decide) ?_
      refine zw_iadd hX dX2_goThrough_40 ?_
      refine zw_istore hX dX2_goThrough_41 (by decide) ?_
      refine zw_aload_n hX dX2_goThrough_43 rfl ?_
      refine zw_iload_n hX dX2_goThrough_44 rfl ?_
      refine zw_iload hX dX2_goThrough_45 rfl ?_
      obtain ⟨_, gi, h⟩ := zb_some h
      obtain ⟨r14, g, h⟩ := zb_some h
      refine zc_Vi (as := [.int i1, .int i6]) hX gi (zt_X2_roomRight (d := d - 1) (by omega) g) zl_X2_201 rfl dX2_goThrough_47 ⟨rfl, rfl, Nat.le_of_ble_eq_true rfl⟩ ⟨by omega, by omega⟩ ?_
      refine zw_iconst (v := (1 : Int32)) hX dX2_goThrough_50 (by decide) ?_
      refine zw_iadd hX dX2_goThrough_51 ?_
      refine zw_istore hX dX2_goThrough_52 (by decide) ?_
      refine zw_aload_n hX dX2_goThrough_54 rfl ?_
      obtain ⟨b15, g, h⟩ := zb_some h
      refine zw_getr hX zl_X2_48 dX2_goThrough_55 g ?_
      refine zw_iload hX dX2_goThrough_58 rfl ?_
      obtain ⟨v16, g, h⟩ := zb_some h
      refine zw_xi hX dX2_goThrough_60 g ?_
      refine zw_iload_n hX dX2_goThrough_61 rfl ?_
      refine zw_icmp_ne (tgt := 92) hX dX2_goThrough_62 (by decide) (fun c62 => ?_) (fun c62 => ?_)
      · rw [if_neg c62] at h
        refine zw_sub (lv' := [(0, .ref a0), (1, .int i1), (3, .int i3), (4, .int i4), (5, .int i5), (6, .int i6), (7, .int (r11.1 + (1 : Int32))), (8, .int (r14.1 + (1 : Int32)))]) (List.forall_mem_cons.mpr ⟨rfl, (List.forall_mem_cons.mpr ⟨rfl, (List.forall_mem_cons.mpr ⟨rfl, (List.forall_mem_cons.mpr ⟨rfl, (List.forall_mem_cons.mpr ⟨rfl, (List.forall_mem_cons.mpr ⟨rfl, (List.forall_mem_cons.mpr ⟨rfl, (List.forall_mem_cons.mpr ⟨rfl, zs_nil⟩)⟩)⟩)⟩)⟩)⟩)⟩)⟩) ?_
        exact zt_X2_goThrough_J92 hX hr hR hd hf hk ih h
      · rw [if_pos c62] at h
        refine zw_aload_n hX dX2_goThrough_65 rfl ?_
        obtain ⟨b23, g, h⟩ := zb_some h
        refine zw_getr hX zl_X2_48 dX2_goThrough_66 g ?_
        refine zw_iload hX dX2_goThrough_69 rfl ?_
        obtain ⟨v24, g, h⟩ := zb_some h
        refine zw_xi hX dX2_goThrough_71 g ?_
        refine zw_iconst (v := (-1 : Int32)) hX dX2_goThrough_72 (by decide) ?_
        refine zw_icmp_ne (tgt := 92) hX dX2_goThrough_73 (by decide) (fun c73 => ?_) (fun c73 => ?_)
        · rw [if_neg c73] at h
          refine zw_sub (lv' := [(0, .ref a0), (1, .int i1), (3, .int i3), (4, .int i4), (5, .int i5), (6, .int i6), (7, .int (r11.1 + (1 : Int32))), (8, .int (r14.1 + (1 : Int32)))]) (List.forall_mem_cons.mpr ⟨rfl, (List.forall_mem_cons.mpr ⟨rfl, (List.forall_mem_cons.mpr ⟨rfl, (List.forall_mem_cons.mpr ⟨rfl, (List.forall_mem_cons.mpr ⟨rfl, (List.forall_mem_cons.mpr ⟨rfl, (List.forall_mem_cons.mpr ⟨rfl, (List.forall_mem_cons.mpr ⟨rfl, zs_nil⟩)⟩)⟩)⟩)⟩)⟩)⟩)⟩) ?_
          exact zt_X2_goThrough_J92 hX hr hR hd hf hk ih h
        · rw [if_pos c73] at h
          refine zw_aload_n hX dX2_goThrough_76 rfl ?_
          obtain ⟨b25, g, h⟩ := zb_some h
          refine zw_getr hX zl_X2_48 dX2_goThrough_77 g ?_
          refine zw_iload hX dX2_goThrough_80 rfl ?_
          refine zw_iload_n hX dX2_goThrough_82 rfl ?_
          refine zw_iconst (v := (1 : Int32)) hX dX2_goThrough_83 (by decide) ?_
          refine zw_iadd hX dX2_goThrough_84 ?_
          obtain ⟨S26, g, h⟩ := zb_some h
          refine zw_si hX dX2_goThrough_85 g ?_
          refine zw_iconst (v := (1 : Int32)) hX dX2_goThrough_86 (by decide) ?_
          refine zw_istore hX dX2_goThrough_87 (by decide) ?_
          refine zw_goto (tgt := 127) hX dX2_goThrough_89 (by decide) ?_
          refine zw_iinc (v := (i6 + (1 : Int32))) hX dX2_goThrough_127 rfl rfl (by decide) ?_
          refine zw_goto (tgt := 25) hX dX2_goThrough_130 (by decide) ?_
          refine zw_sub (lv' := [(0, .ref a0), (1, .int i1), (3, .int i3), (4, .int (1 : Int32)), (5, .int i5), (6, .int (i6 + (1 : Int32)))]) (List.forall_mem_cons.mpr ⟨rfl, (List.forall_mem_cons.mpr ⟨rfl, (List.forall_mem_cons.mpr ⟨rfl, (List.forall_mem_cons.mpr ⟨rfl, (List.forall_mem_cons.mpr ⟨rfl, (List.forall_mem_cons.mpr ⟨rfl, zs_nil⟩)⟩)⟩)⟩)⟩)⟩) ?_
          exact ih _ _ _ h
def zf_X2_goThrough (N : Nat) (a0 : Nat) (i1 : Int32) (i2 : Int32) (i3 : Int32) (S : zm_S) : Option (Int32 × zm_S) := (zg_r S a0 2 0).bind (fun b1 => (zi S b1 8).bind (fun _ => (zf_X8_toOf N b1 i1 i2 S).bind (fun r4 => (zg_r r4.2 a0 2 0).bind (fun b5 => (zi r4.2 b5 8).bind (fun _ => (zf_X8_fromOf N b5 i1 i2 r4.2).bind (fun r8 => (zf_X2_goThrough_L25 N N a0 i1 i3 (0 : Int32) r4.1 r8.1 r8.2).bind (fun r => match r with | .inl o => some o | .inr (v28, S27) => if v28 = 0 ∨ v28 = 1 then some (v28, S27) else none)))))))
set_option maxHeartbeats 4000000 in
set_option maxRecDepth 100000 in
theorem zt_X2_goThrough {l : Launch} {V : zm_V} {N : Nat} {S : zm_S} {out : (Int32 × zm_S)} {d : Nat} {a0 : Nat} {i1 : Int32} {i2 : Int32} {i3 : Int32} (hd : 4 ≤ d) (h : zf_X2_goThrough N a0 i1 i2 i3 S = some out) : zm_Met l zk_E V yX2_goThrough (.code yX2_goThrough cX2_goThrough 9 (some .boolean)) d [.ref a0, .int i1, .int i2, .int i3] S 0 0 (zo_i out) zo_x := by
  refine zm_of (by decide +kernel) (Nat.le_of_ble_eq_true rfl) ?_
  intro p e R s m args below meth c hRR hX hr hxt
  have hR : R.frames = d ∧ R.locals = 64 * d := by rw [hRR]; exact ⟨rfl, rfl⟩
  have hX : zm_X p R s m args meth c RX2 "goThrough" cX2_goThrough 9 zk_E V 0 0 := hX
  unfold zf_X2_goThrough at h
  refine zw_sub (lv' := [(0, .ref a0), (1, .int i1), (2, .int i2), (3, .int i3)]) (List.forall_mem_cons.mpr ⟨rfl, (List.forall_mem_cons.mpr ⟨rfl, (List.forall_mem_cons.mpr ⟨rfl, (List.forall_mem_cons.mpr ⟨rfl, zs_nil⟩)⟩)⟩)⟩) ?_
  refine zw_iconst (v := (0 : Int32)) hX dX2_goThrough_0 (by decide) ?_
  refine zw_istore hX dX2_goThrough_1 (by decide) ?_
  refine zw_aload_n hX dX2_goThrough_3 rfl ?_
  obtain ⟨b1, g, h⟩ := zb_some h
  refine zw_getr hX zl_X2_54 dX2_goThrough_4 g ?_
  refine zw_iload_n hX dX2_goThrough_7 rfl ?_
  refine zw_iload_n hX dX2_goThrough_8 rfl ?_
  obtain ⟨_, gi, h⟩ := zb_some h
  obtain ⟨r4, g, h⟩ := zb_some h
  refine zc_Vi (as := [.int i1, .int i2]) hX gi (zt_X8_toOf (d := d - 1) (by omega) g) zl_X2_192 rfl dX2_goThrough_9 ⟨rfl, rfl, Nat.le_of_ble_eq_true rfl⟩ ⟨by omega, by omega⟩ ?_
  refine zw_istore hX dX2_goThrough_12 (by decide) ?_
  refine zw_aload_n hX dX2_goThrough_14 rfl ?_
  obtain ⟨b5, g, h⟩ := zb_some h
  refine zw_getr hX zl_X2_54 dX2_goThrough_15 g ?_
  refine zw_iload_n hX dX2_goThrough_18 rfl ?_
  refine zw_iload_n hX dX2_goThrough_19 rfl ?_
  obtain ⟨_, gi, h⟩ := zb_some h
  obtain ⟨r8, g, h⟩ := zb_some h
  refine zc_Vi (as := [.int i1, .int i2]) hX gi (zt_X8_fromOf (d := d - 1) (by omega) g) zl_X2_195 rfl dX2_goThrough_20 ⟨rfl, rfl, Nat.le_of_ble_eq_true rfl⟩ ⟨by omega, by omega⟩ ?_
  refine zw_istore hX dX2_goThrough_23 (by decide) ?_
  obtain ⟨r, g, h⟩ := zb_some h
  refine zw_sub (lv' := [(0, .ref a0), (1, .int i1), (3, .int i3), (4, .int (0 : Int32)), (5, .int r4.1), (6, .int r8.1)]) (List.forall_mem_cons.mpr ⟨rfl, (List.forall_mem_cons.mpr ⟨rfl, (List.forall_mem_cons.mpr ⟨rfl, (List.forall_mem_cons.mpr ⟨rfl, (List.forall_mem_cons.mpr ⟨rfl, (List.forall_mem_cons.mpr ⟨rfl, zs_nil⟩)⟩)⟩)⟩)⟩)⟩) ?_
  refine zt_X2_goThrough_L25 hX hr hR hd (res := r) (out := out) a0 i1 i3 r4.1 ?_ ?_ N _ _ _ g
  · intro o ho
    subst ho
    exact Option.some.inj h
  · intro v28 S27 hx
    subst hx
    try dsimp only at h
    refine zw_iload hX dX2_goThrough_133 rfl ?_
    by_cases cz : v28 = 0 ∨ v28 = 1
    · rw [if_pos cz] at h
      obtain rfl := Option.some.inj h
      exact zw_iret hX hr dX2_goThrough_135 (zn_z cz) ⟨rfl, rfl⟩
    · rw [if_neg cz] at h
      cases h
