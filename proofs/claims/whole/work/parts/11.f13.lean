/-! ===== functions of methods, by program (wip/whole/tools/gen11.py) ===== -/
theorem dX16_insert_0 : decode cX16_insert 0 = .ok (.iconst 0, 1) := by decide +kernel
theorem dX16_insert_1 : decode cX16_insert 1 = .ok (.istore_n 3, 1) := by decide +kernel
theorem dX16_insert_2 : decode cX16_insert 2 = .ok (.iload_n 3, 1) := by decide +kernel
theorem dX16_insert_3 : decode cX16_insert 3 = .ok (.iload_n 1, 1) := by decide +kernel
theorem dX16_insert_4 : decode cX16_insert 4 = .ok (.if_icmp .ge 16, 3) := by decide +kernel
theorem dX16_insert_7 : decode cX16_insert 7 = .ok (.aload_n 0, 1) := by decide +kernel
theorem dX16_insert_8 : decode cX16_insert 8 = .ok (.iload_n 3, 1) := by decide +kernel
theorem dX16_insert_9 : decode cX16_insert 9 = .ok (.iaload, 1) := by decide +kernel
theorem dX16_insert_10 : decode cX16_insert 10 = .ok (.iload_n 2, 1) := by decide +kernel
theorem dX16_insert_11 : decode cX16_insert 11 = .ok (.if_icmp .ge 9, 3) := by decide +kernel
theorem dX16_insert_14 : decode cX16_insert 14 = .ok (.iinc 3 1, 3) := by decide +kernel
theorem dX16_insert_17 : decode cX16_insert 17 = .ok (.goto (-15), 3) := by decide +kernel
theorem dX16_insert_20 : decode cX16_insert 20 = .ok (.iload_n 3, 1) := by decide +kernel
theorem dX16_insert_21 : decode cX16_insert 21 = .ok (.iload_n 1, 1) := by decide +kernel
theorem dX16_insert_22 : decode cX16_insert 22 = .ok (.if_icmp .ge 12, 3) := by decide +kernel
theorem dX16_insert_34 : decode cX16_insert 34 = .ok (.iload_n 1, 1) := by decide +kernel
theorem dX16_insert_35 : decode cX16_insert 35 = .ok (.istore 4, 2) := by decide +kernel
theorem dX16_insert_37 : decode cX16_insert 37 = .ok (.iload 4, 2) := by decide +kernel
theorem dX16_insert_39 : decode cX16_insert 39 = .ok (.iload_n 3, 1) := by decide +kernel
theorem dX16_insert_40 : decode cX16_insert 40 = .ok (.if_icmp .le 19, 3) := by decide +kernel
theorem dX16_insert_43 : decode cX16_insert 43 = .ok (.aload_n 0, 1) := by decide +kernel
theorem dX16_insert_44 : decode cX16_insert 44 = .ok (.iload 4, 2) := by decide +kernel
theorem dX16_insert_46 : decode cX16_insert 46 = .ok (.aload_n 0, 1) := by decide +kernel
theorem dX16_insert_47 : decode cX16_insert 47 = .ok (.iload 4, 2) := by decide +kernel
theorem dX16_insert_49 : decode cX16_insert 49 = .ok (.iconst 1, 1) := by decide +kernel
theorem dX16_insert_50 : decode cX16_insert 50 = .ok (.isub, 1) := by decide +kernel
theorem dX16_insert_51 : decode cX16_insert 51 = .ok (.iaload, 1) := by decide +kernel
theorem dX16_insert_52 : decode cX16_insert 52 = .ok (.iastore, 1) := by decide +kernel
theorem dX16_insert_53 : decode cX16_insert 53 = .ok (.iinc 4 (-1), 3) := by decide +kernel
theorem dX16_insert_56 : decode cX16_insert 56 = .ok (.goto (-19), 3) := by decide +kernel
theorem dX16_insert_59 : decode cX16_insert 59 = .ok (.aload_n 0, 1) := by decide +kernel
theorem dX16_insert_60 : decode cX16_insert 60 = .ok (.iload_n 3, 1) := by decide +kernel
theorem dX16_insert_61 : decode cX16_insert 61 = .ok (.iload_n 2, 1) := by decide +kernel
theorem dX16_insert_62 : decode cX16_insert 62 = .ok (.iastore, 1) := by decide +kernel
theorem dX16_insert_63 : decode cX16_insert 63 = .ok (.iload_n 1, 1) := by decide +kernel
theorem dX16_insert_64 : decode cX16_insert 64 = .ok (.iconst 1, 1) := by decide +kernel
theorem dX16_insert_65 : decode cX16_insert 65 = .ok (.iadd, 1) := by decide +kernel
theorem dX16_insert_66 : decode cX16_insert 66 = .ok (.ireturn, 1) := by decide +kernel
theorem dX16_insert_25 : decode cX16_insert 25 = .ok (.aload_n 0, 1) := by decide +kernel
theorem dX16_insert_26 : decode cX16_insert 26 = .ok (.iload_n 3, 1) := by decide +kernel
theorem dX16_insert_27 : decode cX16_insert 27 = .ok (.iaload, 1) := by decide +kernel
theorem dX16_insert_28 : decode cX16_insert 28 = .ok (.iload_n 2, 1) := by decide +kernel
theorem dX16_insert_29 : decode cX16_insert 29 = .ok (.if_icmp .ne 5, 3) := by decide +kernel
theorem dX16_insert_32 : decode cX16_insert 32 = .ok (.iload_n 1, 1) := by decide +kernel
theorem dX16_insert_33 : decode cX16_insert 33 = .ok (.ireturn, 1) := by decide +kernel
theorem dX16_indexOf_0 : decode cX16_indexOf 0 = .ok (.iconst 0, 1) := by decide +kernel
theorem dX16_indexOf_1 : decode cX16_indexOf 1 = .ok (.istore_n 2, 1) := by decide +kernel
theorem dX16_indexOf_2 : decode cX16_indexOf 2 = .ok (.aload_n 0, 1) := by decide +kernel
theorem dX16_indexOf_3 : decode cX16_indexOf 3 = .ok (.iload_n 2, 1) := by decide +kernel
theorem dX16_indexOf_4 : decode cX16_indexOf 4 = .ok (.iaload, 1) := by decide +kernel
theorem dX16_indexOf_5 : decode cX16_indexOf 5 = .ok (.iload_n 1, 1) := by decide +kernel
theorem dX16_indexOf_6 : decode cX16_indexOf 6 = .ok (.if_icmp .eq 9, 3) := by decide +kernel
theorem dX16_indexOf_9 : decode cX16_indexOf 9 = .ok (.iinc 2 1, 3) := by decide +kernel
theorem dX16_indexOf_12 : decode cX16_indexOf 12 = .ok (.goto (-10), 3) := by decide +kernel
theorem dX16_indexOf_15 : decode cX16_indexOf 15 = .ok (.iload_n 2, 1) := by decide +kernel
theorem dX16_indexOf_16 : decode cX16_indexOf 16 = .ok (.ireturn, 1) := by decide +kernel
theorem dX16_isShut_0 : decode cX16_isShut 0 = .ok (.iconst 0, 1) := by decide +kernel
theorem dX16_isShut_1 : decode cX16_isShut 1 = .ok (.istore 4, 2) := by decide +kernel
theorem dX16_isShut_3 : decode cX16_isShut 3 = .ok (.iconst 0, 1) := by decide +kernel
theorem dX16_isShut_4 : decode cX16_isShut 4 = .ok (.istore 5, 2) := by decide +kernel
theorem dX16_isShut_6 : decode cX16_isShut 6 = .ok (.iload 5, 2) := by decide +kernel
theorem dX16_isShut_8 : decode cX16_isShut 8 = .ok (.aload_n 0, 1) := by decide +kernel
theorem dX16_isShut_9 : decode cX16_isShut 9 = .ok (.getfield 96, 3) := by decide +kernel
theorem dX16_isShut_12 : decode cX16_isShut 12 = .ok (.if_icmp .ge 197, 3) := by decide +kernel
theorem dX16_isShut_15 : decode cX16_isShut 15 = .ok (.aload_n 0, 1) := by decide +kernel
theorem dX16_isShut_16 : decode cX16_isShut 16 = .ok (.getfield 16, 3) := by decide +kernel
theorem dX16_isShut_19 : decode cX16_isShut 19 = .ok (.iload 5, 2) := by decide +kernel
theorem dX16_isShut_21 : decode cX16_isShut 21 = .ok (.baload, 1) := by decide +kernel
theorem dX16_isShut_22 : decode cX16_isShut 22 = .ok (.iload_n 3, 1) := by decide +kernel
theorem dX16_isShut_23 : decode cX16_isShut 23 = .ok (.if_icmp .eq 180, 3) := by decide +kernel
theorem dX16_isShut_203 : decode cX16_isShut 203 = .ok (.iinc 5 1, 3) := by decide +kernel
theorem dX16_isShut_206 : decode cX16_isShut 206 = .ok (.goto (-200), 3) := by decide +kernel
theorem dX16_isShut_26 : decode cX16_isShut 26 = .ok (.iload_n 3, 1) := by decide +kernel
theorem dX16_isShut_27 : decode cX16_isShut 27 = .ok (.ifCond .eq 13, 3) := by decide +kernel
theorem dX16_isShut_40 : decode cX16_isShut 40 = .ok (.aload_n 0, 1) := by decide +kernel
theorem dX16_isShut_41 : decode cX16_isShut 41 = .ok (.getfield 13, 3) := by decide +kernel
theorem dX16_isShut_44 : decode cX16_isShut 44 = .ok (.iload 5, 2) := by decide +kernel
theorem dX16_isShut_46 : decode cX16_isShut 46 = .ok (.iaload, 1) := by decide +kernel
theorem dX16_isShut_47 : decode cX16_isShut 47 = .ok (.istore 6, 2) := by decide +kernel
theorem dX16_isShut_49 : decode cX16_isShut 49 = .ok (.iload_n 3, 1) := by decide +kernel
theorem dX16_isShut_50 : decode cX16_isShut 50 = .ok (.ifCond .eq 12, 3) := by decide +kernel
theorem dX16_isShut_62 : decode cX16_isShut 62 = .ok (.aload_n 0, 1) := by decide +kernel
theorem dX16_isShut_63 : decode cX16_isShut 63 = .ok (.getfield 38, 3) := by decide +kernel
theorem dX16_isShut_66 : decode cX16_isShut 66 = .ok (.iload_n 2, 1) := by decide +kernel
theorem dX16_isShut_67 : decode cX16_isShut 67 = .ok (.iaload, 1) := by decide +kernel
theorem dX16_isShut_68 : decode cX16_isShut 68 = .ok (.istore 7, 2) := by decide +kernel
theorem dX16_isShut_70 : decode cX16_isShut 70 = .ok (.iload_n 3, 1) := by decide +kernel
theorem dX16_isShut_71 : decode cX16_isShut 71 = .ok (.ifCond .eq 56, 3) := by decide +kernel
theorem dX16_isShut_127 : decode cX16_isShut 127 = .ok (.iload_n 1, 1) := by decide +kernel
theorem dX16_isShut_128 : decode cX16_isShut 128 = .ok (.ifCond .le 48, 3) := by decide +kernel
theorem dX16_isShut_176 : decode cX16_isShut 176 = .ok (.iconst 0, 1) := by decide +kernel
theorem dX16_isShut_177 : decode cX16_isShut 177 = .ok (.istore 8, 2) := by decide +kernel
theorem dX16_isShut_179 : decode cX16_isShut 179 = .ok (.iload 4, 2) := by decide +kernel
theorem dX16_isShut_181 : decode cX16_isShut 181 = .ok (.ifCond .ne 15, 3) := by decide +kernel
theorem dX16_isShut_196 : decode cX16_isShut 196 = .ok (.iconst 1, 1) := by decide +kernel
theorem dX16_isShut_197 : decode cX16_isShut 197 = .ok (.goto 4, 3) := by decide +kernel
theorem dX16_isShut_201 : decode cX16_isShut 201 = .ok (.istore 4, 2) := by decide +kernel
theorem dX16_isShut_184 : decode cX16_isShut 184 = .ok (.iload 6, 2) := by decide +kernel
theorem dX16_isShut_186 : decode cX16_isShut 186 = .ok (.iload 7, 2) := by decide +kernel
theorem dX16_isShut_188 : decode cX16_isShut 188 = .ok (.if_icmp .ne 12, 3) := by decide +kernel
theorem dX16_isShut_200 : decode cX16_isShut 200 = .ok (.iconst 0, 1) := by decide +kernel
theorem dX16_isShut_191 : decode cX16_isShut 191 = .ok (.iload 8, 2) := by decide +kernel
theorem dX16_isShut_193 : decode cX16_isShut 193 = .ok (.ifCond .eq 7, 3) := by decide +kernel
theorem dX16_isShut_131 : decode cX16_isShut 131 = .ok (.iload_n 1, 1) := by decide +kernel
theorem dX16_isShut_132 : decode cX16_isShut 132 = .ok (.aload_n 0, 1) := by decide +kernel
theorem dX16_isShut_133 : decode cX16_isShut 133 = .ok (.getfield 118, 3) := by decide +kernel
theorem dX16_isShut_136 : decode cX16_isShut 136 = .ok (.if_icmp .ge 40, 3) := by decide +kernel
theorem dX16_isShut_139 : decode cX16_isShut 139 = .ok (.aload_n 0, 1) := by decide +kernel
theorem dX16_isShut_140 : decode cX16_isShut 140 = .ok (.getfield 7, 3) := by decide +kernel
theorem dX16_isShut_143 : decode cX16_isShut 143 = .ok (.iload 5, 2) := by decide +kernel
theorem dX16_isShut_145 : decode cX16_isShut 145 = .ok (.iaload, 1) := by decide +kernel
theorem dX16_isShut_146 : decode cX16_isShut 146 = .ok (.aload_n 0, 1) := by decide +kernel
theorem dX16_isShut_147 : decode cX16_isShut 147 = .ok (.getfield 35, 3) := by decide +kernel
theorem dX16_isShut_150 : decode cX16_isShut 150 = .ok (.iload_n 1, 1) := by decide +kernel
theorem dX16_isShut_151 : decode cX16_isShut 151 = .ok (.iconst 1, 1) := by decide +kernel
theorem dX16_isShut_152 : decode cX16_isShut 152 = .ok (.isub, 1) := by decide +kernel
theorem dX16_isShut_153 : decode cX16_isShut 153 = .ok (.iaload, 1) := by decide +kernel
theorem dX16_isShut_154 : decode cX16_isShut 154 = .ok (.if_icmp .gt 22, 3) := by decide +kernel
theorem dX16_isShut_157 : decode cX16_isShut 157 = .ok (.aload_n 0, 1) := by decide +kernel
theorem dX16_isShut_158 : decode cX16_isShut 158 = .ok (.iload 5, 2) := by decide +kernel
theorem dX16_isShut_160 : decode cX16_isShut 160 = .ok (.invokevirtual 89, 3) := by decide +kernel
theorem dX16_isShut_163 : decode cX16_isShut 163 = .ok (.aload_n 0, 1) := by decide +kernel
theorem dX16_isShut_164 : decode cX16_isShut 164 = .ok (.getfield 35, 3) := by decide +kernel
theorem dX16_isShut_167 : decode cX16_isShut 167 = .ok (.iload_n 1, 1) := by decide +kernel
theorem dX16_isShut_168 : decode cX16_isShut 168 = .ok (.iaload, 1) := by decide +kernel
theorem dX16_isShut_169 : decode cX16_isShut 169 = .ok (.if_icmp .lt 7, 3) := by decide +kernel
theorem dX16_isShut_172 : decode cX16_isShut 172 = .ok (.iconst 1, 1) := by decide +kernel
theorem dX16_isShut_173 : decode cX16_isShut 173 = .ok (.goto 4, 3) := by decide +kernel
theorem dX16_isShut_74 : decode cX16_isShut 74 = .ok (.iload_n 2, 1) := by decide +kernel
theorem dX16_isShut_75 : decode cX16_isShut 75 = .ok (.ifCond .le 48, 3) := by decide +kernel
theorem dX16_isShut_123 : decode cX16_isShut 123 = .ok (.iconst 0, 1) := by decide +kernel
theorem dX16_isShut_124 : decode cX16_isShut 124 = .ok (.goto 53, 3) := by decide +kernel
theorem dX16_isShut_78 : decode cX16_isShut 78 = .ok (.iload_n 2, 1) := by decide +kernel
theorem dX16_isShut_79 : decode cX16_isShut 79 = .ok (.aload_n 0, 1) := by decide +kernel
theorem dX16_isShut_80 : decode cX16_isShut 80 = .ok (.getfield 115, 3) := by decide +kernel
theorem dX16_isShut_83 : decode cX16_isShut 83 = .ok (.if_icmp .ge 40, 3) := by decide +kernel
theorem dX16_isShut_86 : decode cX16_isShut 86 = .ok (.aload_n 0, 1) := by decide +kernel
theorem dX16_isShut_87 : decode cX16_isShut 87 = .ok (.getfield 13, 3) := by decide +kernel
theorem dX16_isShut_90 : decode cX16_isShut 90 = .ok (.iload 5, 2) := by decide +kernel
theorem dX16_isShut_92 : decode cX16_isShut 92 = .ok (.iaload, 1) := by decide +kernel
theorem dX16_isShut_93 : decode cX16_isShut 93 = .ok (.aload_n 0, 1) := by decide +kernel
theorem dX16_isShut_94 : decode cX16_isShut 94 = .ok (.getfield 38, 3) := by decide +kernel
theorem dX16_isShut_97 : decode cX16_isShut 97 = .ok (.iload_n 2, 1) := by decide +kernel
theorem dX16_isShut_98 : decode cX16_isShut 98 = .ok (.iconst 1, 1) := by decide +kernel
theorem dX16_isShut_99 : decode cX16_isShut 99 = .ok (.isub, 1) := by decide +kernel
theorem dX16_isShut_100 : decode cX16_isShut 100 = .ok (.iaload, 1) := by decide +kernel
theorem dX16_isShut_101 : decode cX16_isShut 101 = .ok (.if_icmp .gt 22, 3) := by decide +kernel
theorem dX16_isShut_104 : decode cX16_isShut 104 = .ok (.aload_n 0, 1) := by decide +kernel
theorem dX16_isShut_105 : decode cX16_isShut 105 = .ok (.iload 5, 2) := by decide +kernel
theorem dX16_isShut_107 : decode cX16_isShut 107 = .ok (.invokevirtual 93, 3) := by decide +kernel
theorem dX16_isShut_110 : decode cX16_isShut 110 = .ok (.aload_n 0, 1) := by decide +kernel
theorem dX16_isShut_111 : decode cX16_isShut 111 = .ok (.getfield 38, 3) := by decide +kernel
theorem dX16_isShut_114 : decode cX16_isShut 114 = .ok (.iload_n 2, 1) := by decide +kernel
theorem dX16_isShut_115 : decode cX16_isShut 115 = .ok (.iaload, 1) := by decide +kernel
theorem dX16_isShut_116 : decode cX16_isShut 116 = .ok (.if_icmp .lt 7, 3) := by decide +kernel
theorem dX16_isShut_119 : decode cX16_isShut 119 = .ok (.iconst 1, 1) := by decide +kernel
theorem dX16_isShut_120 : decode cX16_isShut 120 = .ok (.goto 57, 3) := by decide +kernel
theorem dX16_isShut_53 : decode cX16_isShut 53 = .ok (.aload_n 0, 1) := by decide +kernel
theorem dX16_isShut_54 : decode cX16_isShut 54 = .ok (.getfield 35, 3) := by decide +kernel
theorem dX16_isShut_57 : decode cX16_isShut 57 = .ok (.iload_n 1, 1) := by decide +kernel
theorem dX16_isShut_58 : decode cX16_isShut 58 = .ok (.iaload, 1) := by decide +kernel
theorem dX16_isShut_59 : decode cX16_isShut 59 = .ok (.goto 9, 3) := by decide +kernel
theorem dX16_isShut_30 : decode cX16_isShut 30 = .ok (.aload_n 0, 1) := by decide +kernel
theorem dX16_isShut_31 : decode cX16_isShut 31 = .ok (.getfield 7, 3) := by decide +kernel
theorem dX16_isShut_34 : decode cX16_isShut 34 = .ok (.iload 5, 2) := by decide +kernel
theorem dX16_isShut_36 : decode cX16_isShut 36 = .ok (.iaload, 1) := by decide +kernel
theorem dX16_isShut_37 : decode cX16_isShut 37 = .ok (.goto 10, 3) := by decide +kernel
theorem dX16_isShut_209 : decode cX16_isShut 209 = .ok (.iload 4, 2) := by decide +kernel
theorem dX16_isShut_211 : decode cX16_isShut 211 = .ok (.ireturn, 1) := by decide +kernel
theorem dX16_join_0 : decode cX16_join 0 = .ok (.aload_n 0, 1) := by decide +kernel
theorem dX16_join_1 : decode cX16_join 1 = .ok (.getfield 41, 3) := by decide +kernel
theorem dX16_join_4 : decode cX16_join 4 = .ok (.iload_n 1, 1) := by decide +kernel
theorem dX16_join_5 : decode cX16_join 5 = .ok (.iaload, 1) := by decide +kernel
theorem dX16_join_6 : decode cX16_join 6 = .ok (.aload_n 0, 1) := by decide +kernel
theorem dX16_join_7 : decode cX16_join 7 = .ok (.getfield 41, 3) := by decide +kernel
theorem dX16_join_10 : decode cX16_join 10 = .ok (.iload_n 2, 1) := by decide +kernel
theorem dX16_join_11 : decode cX16_join 11 = .ok (.iaload, 1) := by decide +kernel
theorem dX16_join_12 : decode cX16_join 12 = .ok (.if_icmp .ge 12, 3) := by decide +kernel
theorem dX16_join_24 : decode cX16_join 24 = .ok (.aload_n 0, 1) := by decide +kernel
theorem dX16_join_25 : decode cX16_join 25 = .ok (.getfield 41, 3) := by decide +kernel
theorem dX16_join_28 : decode cX16_join 28 = .ok (.iload_n 2, 1) := by decide +kernel
theorem dX16_join_29 : decode cX16_join 29 = .ok (.iaload, 1) := by decide +kernel
theorem dX16_join_30 : decode cX16_join 30 = .ok (.istore_n 3, 1) := by decide +kernel
theorem dX16_join_31 : decode cX16_join 31 = .ok (.aload_n 0, 1) := by decide +kernel
theorem dX16_join_32 : decode cX16_join 32 = .ok (.getfield 41, 3) := by decide +kernel
theorem dX16_join_35 : decode cX16_join 35 = .ok (.iload_n 1, 1) := by decide +kernel
theorem dX16_join_36 : decode cX16_join 36 = .ok (.iaload, 1) := by decide +kernel
theorem dX16_join_37 : decode cX16_join 37 = .ok (.aload_n 0, 1) := by decide +kernel
theorem dX16_join_38 : decode cX16_join 38 = .ok (.getfield 41, 3) := by decide +kernel
theorem dX16_join_41 : decode cX16_join 41 = .ok (.iload_n 2, 1) := by decide +kernel
theorem dX16_join_42 : decode cX16_join 42 = .ok (.iaload, 1) := by decide +kernel
theorem dX16_join_43 : decode cX16_join 43 = .ok (.if_icmp .eq 7, 3) := by decide +kernel
theorem dX16_join_50 : decode cX16_join 50 = .ok (.iconst 0, 1) := by decide +kernel
theorem dX16_join_51 : decode cX16_join 51 = .ok (.istore 4, 2) := by decide +kernel
theorem dX16_join_53 : decode cX16_join 53 = .ok (.aload_n 0, 1) := by decide +kernel
theorem dX16_join_54 : decode cX16_join 54 = .ok (.getfield 41, 3) := by decide +kernel
theorem dX16_join_57 : decode cX16_join 57 = .ok (.iload_n 1, 1) := by decide +kernel
theorem dX16_join_58 : decode cX16_join 58 = .ok (.iload_n 3, 1) := by decide +kernel
theorem dX16_join_59 : decode cX16_join 59 = .ok (.iastore, 1) := by decide +kernel
theorem dX16_join_60 : decode cX16_join 60 = .ok (.aload_n 0, 1) := by decide +kernel
theorem dX16_join_61 : decode cX16_join 61 = .ok (.getfield 41, 3) := by decide +kernel
theorem dX16_join_64 : decode cX16_join 64 = .ok (.iload_n 2, 1) := by decide +kernel
theorem dX16_join_65 : decode cX16_join 65 = .ok (.iload_n 3, 1) := by decide +kernel
theorem dX16_join_66 : decode cX16_join 66 = .ok (.iastore, 1) := by decide +kernel
theorem dX16_join_67 : decode cX16_join 67 = .ok (.iload 4, 2) := by decide +kernel
theorem dX16_join_69 : decode cX16_join 69 = .ok (.ireturn, 1) := by decide +kernel
theorem dX16_join_46 : decode cX16_join 46 = .ok (.iconst 1, 1) := by decide +kernel
theorem dX16_join_47 : decode cX16_join 47 = .ok (.goto 4, 3) := by decide +kernel
theorem dX16_join_15 : decode cX16_join 15 = .ok (.aload_n 0, 1) := by decide +kernel
theorem dX16_join_16 : decode cX16_join 16 = .ok (.getfield 41, 3) := by decide +kernel
theorem dX16_join_19 : decode cX16_join 19 = .ok (.iload_n 1, 1) := by decide +kernel
theorem dX16_join_20 : decode cX16_join 20 = .ok (.iaload, 1) := by decide +kernel
theorem dX16_join_21 : decode cX16_join 21 = .ok (.goto 9, 3) := by decide +kernel
theorem dX16_fill_0 : decode cX16_fill 0 = .ok (.iconst 0, 1) := by decide +kernel
theorem dX16_fill_1 : decode cX16_fill 1 = .ok (.istore_n 1, 1) := by decide +kernel
theorem dX16_fill_2 : decode cX16_fill 2 = .ok (.iload_n 1, 1) := by decide +kernel
theorem dX16_fill_3 : decode cX16_fill 3 = .ok (.sipush 1764, 3) := by decide +kernel
theorem dX16_fill_6 : decode cX16_fill 6 = .ok (.if_icmp .ge 16, 3) := by decide +kernel
theorem dX16_fill_9 : decode cX16_fill 9 = .ok (.aload_n 0, 1) := by decide +kernel
theorem dX16_fill_10 : decode cX16_fill 10 = .ok (.getfield 41, 3) := by decide +kernel
theorem dX16_fill_13 : decode cX16_fill 13 = .ok (.iload_n 1, 1) := by decide +kernel
theorem dX16_fill_14 : decode cX16_fill 14 = .ok (.iload_n 1, 1) := by decide +kernel
theorem dX16_fill_15 : decode cX16_fill 15 = .ok (.iastore, 1) := by decide +kernel
theorem dX16_fill_16 : decode cX16_fill 16 = .ok (.iinc 1 1, 3) := by decide +kernel
theorem dX16_fill_19 : decode cX16_fill 19 = .ok (.goto (-17), 3) := by decide +kernel
theorem dX16_fill_22 : decode cX16_fill 22 = .ok (.iconst 1, 1) := by decide +kernel
theorem dX16_fill_23 : decode cX16_fill 23 = .ok (.istore_n 1, 1) := by decide +kernel
theorem dX16_fill_24 : decode cX16_fill 24 = .ok (.iload_n 1, 1) := by decide +kernel
theorem dX16_fill_25 : decode cX16_fill 25 = .ok (.ifCond .eq 127, 3) := by decide +kernel
theorem dX16_fill_28 : decode cX16_fill 28 = .ok (.iconst 0, 1) := by decide +kernel
theorem dX16_fill_29 : decode cX16_fill 29 = .ok (.istore_n 1, 1) := by decide +kernel
theorem dX16_fill_30 : decode cX16_fill 30 = .ok (.iconst 0, 1) := by decide +kernel
theorem dX16_fill_31 : decode cX16_fill 31 = .ok (.istore_n 2, 1) := by decide +kernel
theorem dX16_fill_32 : decode cX16_fill 32 = .ok (.iload_n 2, 1) := by decide +kernel
theorem dX16_fill_33 : decode cX16_fill 33 = .ok (.aload_n 0, 1) := by decide +kernel
theorem dX16_fill_34 : decode cX16_fill 34 = .ok (.getfield 115, 3) := by decide +kernel
theorem dX16_fill_37 : decode cX16_fill 37 = .ok (.if_icmp .gt 112, 3) := by decide +kernel
theorem dX16_fill_40 : decode cX16_fill 40 = .ok (.iconst 0, 1) := by decide +kernel
theorem dX16_fill_41 : decode cX16_fill 41 = .ok (.istore_n 3, 1) := by decide +kernel
theorem dX16_fill_42 : decode cX16_fill 42 = .ok (.iload_n 3, 1) := by decide +kernel
theorem dX16_fill_43 : decode cX16_fill 43 = .ok (.aload_n 0, 1) := by decide +kernel
theorem dX16_fill_44 : decode cX16_fill 44 = .ok (.getfield 118, 3) := by decide +kernel
theorem dX16_fill_47 : decode cX16_fill 47 = .ok (.if_icmp .gt 96, 3) := by decide +kernel
theorem dX16_fill_50 : decode cX16_fill 50 = .ok (.bipush 42, 2) := by decide +kernel
theorem dX16_fill_52 : decode cX16_fill 52 = .ok (.iload_n 2, 1) := by decide +kernel
theorem dX16_fill_53 : decode cX16_fill 53 = .ok (.imul, 1) := by decide +kernel
theorem dX16_fill_54 : decode cX16_fill 54 = .ok (.iload_n 3, 1) := by decide +kernel
theorem dX16_fill_55 : decode cX16_fill 55 = .ok (.iadd, 1) := by decide +kernel
theorem dX16_fill_56 : decode cX16_fill 56 = .ok (.istore 4, 2) := by decide +kernel
theorem dX16_fill_58 : decode cX16_fill 58 = .ok (.iload_n 1, 1) := by decide +kernel
theorem dX16_fill_59 : decode cX16_fill 59 = .ok (.iload_n 3, 1) := by decide +kernel
theorem dX16_fill_60 : decode cX16_fill 60 = .ok (.aload_n 0, 1) := by decide +kernel
theorem dX16_fill_61 : decode cX16_fill 61 = .ok (.getfield 118, 3) := by decide +kernel
theorem dX16_fill_64 : decode cX16_fill 64 = .ok (.if_icmp .ge 30, 3) := by decide +kernel
theorem dX16_fill_94 : decode cX16_fill 94 = .ok (.iconst 0, 1) := by decide +kernel
theorem dX16_fill_95 : decode cX16_fill 95 = .ok (.ior, 1) := by decide +kernel
theorem dX16_fill_96 : decode cX16_fill 96 = .ok (.istore_n 1, 1) := by decide +kernel
theorem dX16_fill_97 : decode cX16_fill 97 = .ok (.iload_n 1, 1) := by decide +kernel
theorem dX16_fill_98 : decode cX16_fill 98 = .ok (.iload_n 2, 1) := by decide +kernel
theorem dX16_fill_99 : decode cX16_fill 99 = .ok (.aload_n 0, 1) := by decide +kernel
theorem dX16_fill_100 : decode cX16_fill 100 = .ok (.getfield 115, 3) := by decide +kernel
theorem dX16_fill_103 : decode cX16_fill 103 = .ok (.if_icmp .ge 31, 3) := by decide +kernel
theorem dX16_fill_134 : decode cX16_fill 134 = .ok (.iconst 0, 1) := by decide +kernel
theorem dX16_fill_135 : decode cX16_fill 135 = .ok (.ior, 1) := by decide +kernel
theorem dX16_fill_136 : decode cX16_fill 136 = .ok (.istore_n 1, 1) := by decide +kernel
theorem dX16_fill_137 : decode cX16_fill 137 = .ok (.iinc 3 1, 3) := by decide +kernel
theorem dX16_fill_140 : decode cX16_fill 140 = .ok (.goto (-98), 3) := by decide +kernel
theorem dX16_fill_106 : decode cX16_fill 106 = .ok (.aload_n 0, 1) := by decide +kernel
theorem dX16_fill_107 : decode cX16_fill 107 = .ok (.iload_n 3, 1) := by decide +kernel
theorem dX16_fill_108 : decode cX16_fill 108 = .ok (.iload_n 2, 1) := by decide +kernel
theorem dX16_fill_109 : decode cX16_fill 109 = .ok (.iconst 0, 1) := by decide +kernel
theorem dX16_fill_110 : decode cX16_fill 110 = .ok (.invokevirtual 121, 3) := by decide +kernel
theorem dX16_fill_113 : decode cX16_fill 113 = .ok (.ifCond .ne 21, 3) := by decide +kernel
theorem dX16_fill_116 : decode cX16_fill 116 = .ok (.aload_n 0, 1) := by decide +kernel
theorem dX16_fill_117 : decode cX16_fill 117 = .ok (.iload 4, 2) := by decide +kernel
theorem dX16_fill_119 : decode cX16_fill 119 = .ok (.iload 4, 2) := by decide +kernel
theorem dX16_fill_121 : decode cX16_fill 121 = .ok (.bipush 42, 2) := by decide +kernel
theorem dX16_fill_123 : decode cX16_fill 123 = .ok (.iadd, 1) := by decide +kernel
theorem dX16_fill_124 : decode cX16_fill 124 = .ok (.invokevirtual 125, 3) := by decide +kernel
theorem dX16_fill_127 : decode cX16_fill 127 = .ok (.ifCond .eq 7, 3) := by decide +kernel
theorem dX16_fill_130 : decode cX16_fill 130 = .ok (.iconst 1, 1) := by decide +kernel
theorem dX16_fill_131 : decode cX16_fill 131 = .ok (.goto 4, 3) := by decide +kernel
theorem dX16_fill_67 : decode cX16_fill 67 = .ok (.aload_n 0, 1) := by decide +kernel
theorem dX16_fill_68 : decode cX16_fill 68 = .ok (.iload_n 3, 1) := by decide +kernel
theorem dX16_fill_69 : decode cX16_fill 69 = .ok (.iload_n 2, 1) := by decide +kernel
theorem dX16_fill_70 : decode cX16_fill 70 = .ok (.iconst 1, 1) := by decide +kernel
theorem dX16_fill_71 : decode cX16_fill 71 = .ok (.invokevirtual 121, 3) := by decide +kernel
theorem dX16_fill_74 : decode cX16_fill 74 = .ok (.ifCond .ne 20, 3) := by decide +kernel
theorem dX16_fill_77 : decode cX16_fill 77 = .ok (.aload_n 0, 1) := by decide +kernel
theorem dX16_fill_78 : decode cX16_fill 78 = .ok (.iload 4, 2) := by decide +kernel
theorem dX16_fill_80 : decode cX16_fill 80 = .ok (.iload 4, 2) := by decide +kernel
theorem dX16_fill_82 : decode cX16_fill 82 = .ok (.iconst 1, 1) := by decide +kernel
theorem dX16_fill_83 : decode cX16_fill 83 = .ok (.iadd, 1) := by decide +kernel
theorem dX16_fill_84 : decode cX16_fill 84 = .ok (.invokevirtual 125, 3) := by decide +kernel
theorem dX16_fill_87 : decode cX16_fill 87 = .ok (.ifCond .eq 7, 3) := by decide +kernel
theorem dX16_fill_90 : decode cX16_fill 90 = .ok (.iconst 1, 1) := by decide +kernel
theorem dX16_fill_91 : decode cX16_fill 91 = .ok (.goto 4, 3) := by decide +kernel
theorem dX16_fill_143 : decode cX16_fill 143 = .ok (.iinc 2 1, 3) := by decide +kernel
theorem dX16_fill_146 : decode cX16_fill 146 = .ok (.goto (-114), 3) := by decide +kernel
theorem dX16_fill_149 : decode cX16_fill 149 = .ok (.goto (-125), 3) := by decide +kernel
theorem dX16_fill_152 : decode cX16_fill 152 = .ok (.return_, 1) := by decide +kernel
theorem dX16_pointAt_0 : decode cX16_pointAt 0 = .ok (.iconst 0, 1) := by decide +kernel
theorem dX16_pointAt_1 : decode cX16_pointAt 1 = .ok (.istore_n 3, 1) := by decide +kernel
theorem dX16_pointAt_2 : decode cX16_pointAt 2 = .ok (.iload_n 3, 1) := by decide +kernel
theorem dX16_pointAt_3 : decode cX16_pointAt 3 = .ok (.aload_n 0, 1) := by decide +kernel
theorem dX16_pointAt_4 : decode cX16_pointAt 4 = .ok (.getfield 129, 3) := by decide +kernel
theorem dX16_pointAt_7 : decode cX16_pointAt 7 = .ok (.if_icmp .ge 29, 3) := by decide +kernel
theorem dX16_pointAt_10 : decode cX16_pointAt 10 = .ok (.aload_n 0, 1) := by decide +kernel
theorem dX16_pointAt_11 : decode cX16_pointAt 11 = .ok (.getfield 59, 3) := by decide +kernel
theorem dX16_pointAt_14 : decode cX16_pointAt 14 = .ok (.iload_n 3, 1) := by decide +kernel
theorem dX16_pointAt_15 : decode cX16_pointAt 15 = .ok (.iaload, 1) := by decide +kernel
theorem dX16_pointAt_16 : decode cX16_pointAt 16 = .ok (.iload_n 1, 1) := by decide +kernel
theorem dX16_pointAt_17 : decode cX16_pointAt 17 = .ok (.if_icmp .ne 13, 3) := by decide +kernel
theorem dX16_pointAt_30 : decode cX16_pointAt 30 = .ok (.iinc 3 1, 3) := by decide +kernel
theorem dX16_pointAt_33 : decode cX16_pointAt 33 = .ok (.goto (-31), 3) := by decide +kernel
theorem dX16_pointAt_20 : decode cX16_pointAt 20 = .ok (.aload_n 0, 1) := by decide +kernel
theorem dX16_pointAt_21 : decode cX16_pointAt 21 = .ok (.getfield 62, 3) := by decide +kernel
theorem dX16_pointAt_24 : decode cX16_pointAt 24 = .ok (.iload_n 3, 1) := by decide +kernel
theorem dX16_pointAt_25 : decode cX16_pointAt 25 = .ok (.iaload, 1) := by decide +kernel
theorem dX16_pointAt_26 : decode cX16_pointAt 26 = .ok (.iload_n 2, 1) := by decide +kernel
theorem dX16_pointAt_27 : decode cX16_pointAt 27 = .ok (.if_icmp .eq 9, 3) := by decide +kernel
theorem dX16_pointAt_36 : decode cX16_pointAt 36 = .ok (.iload_n 3, 1) := by decide +kernel
theorem dX16_pointAt_37 : decode cX16_pointAt 37 = .ok (.ireturn, 1) := by decide +kernel
theorem dX16_point_0 : decode cX16_point 0 = .ok (.aload_n 0, 1) := by decide +kernel
theorem dX16_point_1 : decode cX16_point 1 = .ok (.iload_n 1, 1) := by decide +kernel
theorem dX16_point_2 : decode cX16_point 2 = .ok (.iload_n 2, 1) := by decide +kernel
theorem dX16_point_3 : decode cX16_point 3 = .ok (.invokevirtual 132, 3) := by decide +kernel
theorem dX16_point_6 : decode cX16_point 6 = .ok (.aload_n 0, 1) := by decide +kernel
theorem dX16_point_7 : decode cX16_point 7 = .ok (.getfield 129, 3) := by decide +kernel
theorem dX16_point_10 : decode cX16_point 10 = .ok (.if_icmp .ge 4, 3) := by decide +kernel
theorem dX16_point_14 : decode cX16_point 14 = .ok (.aload_n 0, 1) := by decide +kernel
theorem dX16_point_15 : decode cX16_point 15 = .ok (.getfield 129, 3) := by decide +kernel
theorem dX16_point_18 : decode cX16_point 18 = .ok (.istore_n 3, 1) := by decide +kernel
theorem dX16_point_19 : decode cX16_point 19 = .ok (.iload_n 3, 1) := by decide +kernel
theorem dX16_point_20 : decode cX16_point 20 = .ok (.ifCond .le 73, 3) := by decide +kernel
theorem dX16_point_23 : decode cX16_point 23 = .ok (.aload_n 0, 1) := by decide +kernel
theorem dX16_point_24 : decode cX16_point 24 = .ok (.getfield 59, 3) := by decide +kernel
theorem dX16_point_27 : decode cX16_point 27 = .ok (.iload_n 3, 1) := by decide +kernel
theorem dX16_point_28 : decode cX16_point 28 = .ok (.iconst 1, 1) := by decide +kernel
theorem dX16_point_29 : decode cX16_point 29 = .ok (.isub, 1) := by decide +kernel
theorem dX16_point_30 : decode cX16_point 30 = .ok (.iaload, 1) := by decide +kernel
theorem dX16_point_31 : decode cX16_point 31 = .ok (.iload_n 1, 1) := by decide +kernel
theorem dX16_point_32 : decode cX16_point 32 = .ok (.if_icmp .gt 27, 3) := by decide +kernel
theorem dX16_point_59 : decode cX16_point 59 = .ok (.aload_n 0, 1) := by decide +kernel
theorem dX16_point_60 : decode cX16_point 60 = .ok (.getfield 59, 3) := by decide +kernel
theorem dX16_point_63 : decode cX16_point 63 = .ok (.iload_n 3, 1) := by decide +kernel
theorem dX16_point_64 : decode cX16_point 64 = .ok (.aload_n 0, 1) := by decide +kernel
theorem dX16_point_65 : decode cX16_point 65 = .ok (.getfield 59, 3) := by decide +kernel
theorem dX16_point_68 : decode cX16_point 68 = .ok (.iload_n 3, 1) := by decide +kernel
theorem dX16_point_69 : decode cX16_point 69 = .ok (.iconst 1, 1) := by decide +kernel
theorem dX16_point_70 : decode cX16_point 70 = .ok (.isub, 1) := by decide +kernel
theorem dX16_point_71 : decode cX16_point 71 = .ok (.iaload, 1) := by decide +kernel
theorem dX16_point_72 : decode cX16_point 72 = .ok (.iastore, 1) := by decide +kernel
theorem dX16_point_73 : decode cX16_point 73 = .ok (.aload_n 0, 1) := by decide +kernel
theorem dX16_point_74 : decode cX16_point 74 = .ok (.getfield 62, 3) := by decide +kernel
theorem dX16_point_77 : decode cX16_point 77 = .ok (.iload_n 3, 1) := by decide +kernel
theorem dX16_point_78 : decode cX16_point 78 = .ok (.aload_n 0, 1) := by decide +kernel
theorem dX16_point_79 : decode cX16_point 79 = .ok (.getfield 62, 3) := by decide +kernel
theorem dX16_point_82 : decode cX16_point 82 = .ok (.iload_n 3, 1) := by decide +kernel
theorem dX16_point_83 : decode cX16_point 83 = .ok (.iconst 1, 1) := by decide +kernel
theorem dX16_point_84 : decode cX16_point 84 = .ok (.isub, 1) := by decide +kernel
theorem dX16_point_85 : decode cX16_point 85 = .ok (.iaload, 1) := by decide +kernel
theorem dX16_point_86 : decode cX16_point 86 = .ok (.iastore, 1) := by decide +kernel
theorem dX16_point_87 : decode cX16_point 87 = .ok (.iinc 3 (-1), 3) := by decide +kernel
theorem dX16_point_90 : decode cX16_point 90 = .ok (.goto (-71), 3) := by decide +kernel
theorem dX16_point_35 : decode cX16_point 35 = .ok (.aload_n 0, 1) := by decide +kernel
theorem dX16_point_36 : decode cX16_point 36 = .ok (.getfield 59, 3) := by decide +kernel
theorem dX16_point_39 : decode cX16_point 39 = .ok (.iload_n 3, 1) := by decide +kernel
theorem dX16_point_40 : decode cX16_point 40 = .ok (.iconst 1, 1) := by decide +kernel
theorem dX16_point_41 : decode cX16_point 41 = .ok (.isub, 1) := by decide +kernel
theorem dX16_point_42 : decode cX16_point 42 = .ok (.iaload, 1) := by decide +kernel
theorem dX16_point_43 : decode cX16_point 43 = .ok (.iload_n 1, 1) := by decide +kernel
theorem dX16_point_44 : decode cX16_point 44 = .ok (.if_icmp .ne 49, 3) := by decide +kernel
theorem dX16_point_47 : decode cX16_point 47 = .ok (.aload_n 0, 1) := by decide +kernel
theorem dX16_point_48 : decode cX16_point 48 = .ok (.getfield 62, 3) := by decide +kernel
theorem dX16_point_51 : decode cX16_point 51 = .ok (.iload_n 3, 1) := by decide +kernel
theorem dX16_point_52 : decode cX16_point 52 = .ok (.iconst 1, 1) := by decide +kernel
theorem dX16_point_53 : decode cX16_point 53 = .ok (.isub, 1) := by decide +kernel
theorem dX16_point_54 : decode cX16_point 54 = .ok (.iaload, 1) := by decide +kernel
theorem dX16_point_55 : decode cX16_point 55 = .ok (.iload_n 2, 1) := by decide +kernel
theorem dX16_point_56 : decode cX16_point 56 = .ok (.if_icmp .le 37, 3) := by decide +kernel
theorem dX16_point_93 : decode cX16_point 93 = .ok (.aload_n 0, 1) := by decide +kernel
theorem dX16_point_94 : decode cX16_point 94 = .ok (.getfield 59, 3) := by decide +kernel
theorem dX16_point_97 : decode cX16_point 97 = .ok (.iload_n 3, 1) := by decide +kernel
theorem dX16_point_98 : decode cX16_point 98 = .ok (.iload_n 1, 1) := by decide +kernel
theorem dX16_point_99 : decode cX16_point 99 = .ok (.iastore, 1) := by decide +kernel
theorem dX16_point_100 : decode cX16_point 100 = .ok (.aload_n 0, 1) := by decide +kernel
theorem dX16_point_101 : decode cX16_point 101 = .ok (.getfield 62, 3) := by decide +kernel
theorem dX16_point_104 : decode cX16_point 104 = .ok (.iload_n 3, 1) := by decide +kernel
theorem dX16_point_105 : decode cX16_point 105 = .ok (.iload_n 2, 1) := by decide +kernel
theorem dX16_point_106 : decode cX16_point 106 = .ok (.iastore, 1) := by decide +kernel
theorem dX16_point_107 : decode cX16_point 107 = .ok (.aload_n 0, 1) := by decide +kernel
theorem dX16_point_108 : decode cX16_point 108 = .ok (.dup, 1) := by decide +kernel
theorem dX16_point_109 : decode cX16_point 109 = .ok (.getfield 129, 3) := by decide +kernel
theorem dX16_point_112 : decode cX16_point 112 = .ok (.iconst 1, 1) := by decide +kernel
theorem dX16_point_113 : decode cX16_point 113 = .ok (.iadd, 1) := by decide +kernel
theorem dX16_point_114 : decode cX16_point 114 = .ok (.putfield 129, 3) := by decide +kernel
theorem dX16_point_117 : decode cX16_point 117 = .ok (.return_, 1) := by decide +kernel
theorem dX16_point_13 : decode cX16_point 13 = .ok (.return_, 1) := by decide +kernel
theorem dX16_findPoints_0 : decode cX16_findPoints 0 = .ok (.aload_n 0, 1) := by decide +kernel
theorem dX16_findPoints_1 : decode cX16_findPoints 1 = .ok (.iconst 0, 1) := by decide +kernel
theorem dX16_findPoints_2 : decode cX16_findPoints 2 = .ok (.putfield 129, 3) := by decide +kernel
theorem dX16_findPoints_5 : decode cX16_findPoints 5 = .ok (.iconst 0, 1) := by decide +kernel
theorem dX16_findPoints_6 : decode cX16_findPoints 6 = .ok (.istore_n 1, 1) := by decide +kernel
theorem dX16_findPoints_7 : decode cX16_findPoints 7 = .ok (.iload_n 1, 1) := by decide +kernel
theorem dX16_findPoints_8 : decode cX16_findPoints 8 = .ok (.aload_n 0, 1) := by decide +kernel
theorem dX16_findPoints_9 : decode cX16_findPoints 9 = .ok (.getfield 96, 3) := by decide +kernel
theorem dX16_findPoints_12 : decode cX16_findPoints 12 = .ok (.if_icmp .ge 129, 3) := by decide +kernel
theorem dX16_findPoints_15 : decode cX16_findPoints 15 = .ok (.aload_n 0, 1) := by decide +kernel
theorem dX16_findPoints_16 : decode cX16_findPoints 16 = .ok (.aload_n 0, 1) := by decide +kernel
theorem dX16_findPoints_17 : decode cX16_findPoints 17 = .ok (.getfield 7, 3) := by decide +kernel
theorem dX16_findPoints_20 : decode cX16_findPoints 20 = .ok (.iload_n 1, 1) := by decide +kernel
theorem dX16_findPoints_21 : decode cX16_findPoints 21 = .ok (.iaload, 1) := by decide +kernel
theorem dX16_findPoints_22 : decode cX16_findPoints 22 = .ok (.aload_n 0, 1) := by decide +kernel
theorem dX16_findPoints_23 : decode cX16_findPoints 23 = .ok (.getfield 13, 3) := by decide +kernel
theorem dX16_findPoints_26 : decode cX16_findPoints 26 = .ok (.iload_n 1, 1) := by decide +kernel
theorem dX16_findPoints_27 : decode cX16_findPoints 27 = .ok (.iaload, 1) := by decide +kernel
theorem dX16_findPoints_28 : decode cX16_findPoints 28 = .ok (.invokevirtual 135, 3) := by decide +kernel
theorem dX16_findPoints_31 : decode cX16_findPoints 31 = .ok (.aload_n 0, 1) := by decide +kernel
theorem dX16_findPoints_32 : decode cX16_findPoints 32 = .ok (.aload_n 0, 1) := by decide +kernel
theorem dX16_findPoints_33 : decode cX16_findPoints 33 = .ok (.iload_n 1, 1) := by decide +kernel
theorem dX16_findPoints_34 : decode cX16_findPoints 34 = .ok (.invokevirtual 89, 3) := by decide +kernel
theorem dX16_findPoints_37 : decode cX16_findPoints 37 = .ok (.aload_n 0, 1) := by decide +kernel
theorem dX16_findPoints_38 : decode cX16_findPoints 38 = .ok (.iload_n 1, 1) := by decide +kernel
theorem dX16_findPoints_39 : decode cX16_findPoints 39 = .ok (.invokevirtual 93, 3) := by decide +kernel
theorem dX16_findPoints_42 : decode cX16_findPoints 42 = .ok (.invokevirtual 135, 3) := by decide +kernel
theorem dX16_findPoints_45 : decode cX16_findPoints 45 = .ok (.iconst 0, 1) := by decide +kernel
theorem dX16_findPoints_46 : decode cX16_findPoints 46 = .ok (.istore_n 2, 1) := by decide +kernel
theorem dX16_findPoints_47 : decode cX16_findPoints 47 = .ok (.iload_n 2, 1) := by decide +kernel
theorem dX16_findPoints_48 : decode cX16_findPoints 48 = .ok (.aload_n 0, 1) := by decide +kernel
theorem dX16_findPoints_49 : decode cX16_findPoints 49 = .ok (.getfield 96, 3) := by decide +kernel
theorem dX16_findPoints_52 : decode cX16_findPoints 52 = .ok (.if_icmp .ge 83, 3) := by decide +kernel
theorem dX16_findPoints_55 : decode cX16_findPoints 55 = .ok (.aload_n 0, 1) := by decide +kernel
theorem dX16_findPoints_56 : decode cX16_findPoints 56 = .ok (.getfield 16, 3) := by decide +kernel
theorem dX16_findPoints_59 : decode cX16_findPoints 59 = .ok (.iload_n 1, 1) := by decide +kernel
theorem dX16_findPoints_60 : decode cX16_findPoints 60 = .ok (.baload, 1) := by decide +kernel
theorem dX16_findPoints_61 : decode cX16_findPoints 61 = .ok (.ifCond .eq 68, 3) := by decide +kernel
theorem dX16_findPoints_129 : decode cX16_findPoints 129 = .ok (.iinc 2 1, 3) := by decide +kernel
theorem dX16_findPoints_132 : decode cX16_findPoints 132 = .ok (.goto (-85), 3) := by decide +kernel
theorem dX16_findPoints_64 : decode cX16_findPoints 64 = .ok (.aload_n 0, 1) := by decide +kernel
theorem dX16_findPoints_65 : decode cX16_findPoints 65 = .ok (.getfield 16, 3) := by decide +kernel
theorem dX16_findPoints_68 : decode cX16_findPoints 68 = .ok (.iload_n 2, 1) := by decide +kernel
theorem dX16_findPoints_69 : decode cX16_findPoints 69 = .ok (.baload, 1) := by decide +kernel
theorem dX16_findPoints_70 : decode cX16_findPoints 70 = .ok (.ifCond .ne 59, 3) := by decide +kernel
theorem dX16_findPoints_73 : decode cX16_findPoints 73 = .ok (.aload_n 0, 1) := by decide +kernel
theorem dX16_findPoints_74 : decode cX16_findPoints 74 = .ok (.iload_n 1, 1) := by decide +kernel
theorem dX16_findPoints_75 : decode cX16_findPoints 75 = .ok (.aload_n 0, 1) := by decide +kernel
theorem dX16_findPoints_76 : decode cX16_findPoints 76 = .ok (.getfield 7, 3) := by decide +kernel
theorem dX16_findPoints_79 : decode cX16_findPoints 79 = .ok (.iload_n 2, 1) := by decide +kernel
theorem dX16_findPoints_80 : decode cX16_findPoints 80 = .ok (.iaload, 1) := by decide +kernel
theorem dX16_findPoints_81 : decode cX16_findPoints 81 = .ok (.aload_n 0, 1) := by decide +kernel
theorem dX16_findPoints_82 : decode cX16_findPoints 82 = .ok (.getfield 13, 3) := by decide +kernel
theorem dX16_findPoints_85 : decode cX16_findPoints 85 = .ok (.iload_n 1, 1) := by decide +kernel
theorem dX16_findPoints_86 : decode cX16_findPoints 86 = .ok (.iaload, 1) := by decide +kernel
theorem dX16_findPoints_87 : decode cX16_findPoints 87 = .ok (.invokevirtual 139, 3) := by decide +kernel
theorem dX16_findPoints_90 : decode cX16_findPoints 90 = .ok (.ifCond .eq 39, 3) := by decide +kernel
theorem dX16_findPoints_93 : decode cX16_findPoints 93 = .ok (.aload_n 0, 1) := by decide +kernel
theorem dX16_findPoints_94 : decode cX16_findPoints 94 = .ok (.iload_n 2, 1) := by decide +kernel
theorem dX16_findPoints_95 : decode cX16_findPoints 95 = .ok (.aload_n 0, 1) := by decide +kernel
theorem dX16_findPoints_96 : decode cX16_findPoints 96 = .ok (.getfield 7, 3) := by decide +kernel
theorem dX16_findPoints_99 : decode cX16_findPoints 99 = .ok (.iload_n 2, 1) := by decide +kernel
theorem dX16_findPoints_100 : decode cX16_findPoints 100 = .ok (.iaload, 1) := by decide +kernel
theorem dX16_findPoints_101 : decode cX16_findPoints 101 = .ok (.aload_n 0, 1) := by decide +kernel
theorem dX16_findPoints_102 : decode cX16_findPoints 102 = .ok (.getfield 13, 3) := by decide +kernel
theorem dX16_findPoints_105 : decode cX16_findPoints 105 = .ok (.iload_n 1, 1) := by decide +kernel
theorem dX16_findPoints_106 : decode cX16_findPoints 106 = .ok (.iaload, 1) := by decide +kernel
theorem dX16_findPoints_107 : decode cX16_findPoints 107 = .ok (.invokevirtual 139, 3) := by decide +kernel
theorem dX16_findPoints_110 : decode cX16_findPoints 110 = .ok (.ifCond .eq 19, 3) := by decide +kernel
theorem dX16_findPoints_113 : decode cX16_findPoints 113 = .ok (.aload_n 0, 1) := by decide +kernel
theorem dX16_findPoints_114 : decode cX16_findPoints 114 = .ok (.aload_n 0, 1) := by decide +kernel
theorem dX16_findPoints_115 : decode cX16_findPoints 115 = .ok (.getfield 7, 3) := by decide +kernel
theorem dX16_findPoints_118 : decode cX16_findPoints 118 = .ok (.iload_n 2, 1) := by decide +kernel
theorem dX16_findPoints_119 : decode cX16_findPoints 119 = .ok (.iaload, 1) := by decide +kernel
theorem dX16_findPoints_120 : decode cX16_findPoints 120 = .ok (.aload_n 0, 1) := by decide +kernel
theorem dX16_findPoints_121 : decode cX16_findPoints 121 = .ok (.getfield 13, 3) := by decide +kernel
theorem dX16_findPoints_124 : decode cX16_findPoints 124 = .ok (.iload_n 1, 1) := by decide +kernel
theorem dX16_findPoints_125 : decode cX16_findPoints 125 = .ok (.iaload, 1) := by decide +kernel
theorem dX16_findPoints_126 : decode cX16_findPoints 126 = .ok (.invokevirtual 135, 3) := by decide +kernel
theorem dX16_findPoints_135 : decode cX16_findPoints 135 = .ok (.iinc 1 1, 3) := by decide +kernel
theorem dX16_findPoints_138 : decode cX16_findPoints 138 = .ok (.goto (-131), 3) := by decide +kernel
theorem dX16_findPoints_141 : decode cX16_findPoints 141 = .ok (.aload_n 0, 1) := by decide +kernel
theorem dX16_findPoints_142 : decode cX16_findPoints 142 = .ok (.iconst 0, 1) := by decide +kernel
theorem dX16_findPoints_143 : decode cX16_findPoints 143 = .ok (.putfield 143, 3) := by decide +kernel
theorem dX16_findPoints_146 : decode cX16_findPoints 146 = .ok (.iconst 0, 1) := by decide +kernel
theorem dX16_findPoints_147 : decode cX16_findPoints 147 = .ok (.istore_n 1, 1) := by decide +kernel
theorem dX16_findPoints_148 : decode cX16_findPoints 148 = .ok (.iload_n 1, 1) := by decide +kernel
theorem dX16_findPoints_149 : decode cX16_findPoints 149 = .ok (.aload_n 0, 1) := by decide +kernel
theorem dX16_findPoints_150 : decode cX16_findPoints 150 = .ok (.getfield 96, 3) := by decide +kernel
theorem dX16_findPoints_153 : decode cX16_findPoints 153 = .ok (.if_icmp .ge 93, 3) := by decide +kernel
theorem dX16_findPoints_156 : decode cX16_findPoints 156 = .ok (.iconst (-1), 1) := by decide +kernel
theorem dX16_findPoints_157 : decode cX16_findPoints 157 = .ok (.istore_n 2, 1) := by decide +kernel
theorem dX16_findPoints_158 : decode cX16_findPoints 158 = .ok (.iconst 0, 1) := by decide +kernel
theorem dX16_findPoints_159 : decode cX16_findPoints 159 = .ok (.istore_n 3, 1) := by decide +kernel
theorem dX16_findPoints_160 : decode cX16_findPoints 160 = .ok (.iload_n 3, 1) := by decide +kernel
theorem dX16_findPoints_161 : decode cX16_findPoints 161 = .ok (.aload_n 0, 1) := by decide +kernel
theorem dX16_findPoints_162 : decode cX16_findPoints 162 = .ok (.getfield 129, 3) := by decide +kernel
theorem dX16_findPoints_165 : decode cX16_findPoints 165 = .ok (.if_icmp .ge 75, 3) := by decide +kernel
theorem dX16_findPoints_168 : decode cX16_findPoints 168 = .ok (.aload_n 0, 1) := by decide +kernel
theorem dX16_findPoints_169 : decode cX16_findPoints 169 = .ok (.iload_n 1, 1) := by decide +kernel
theorem dX16_findPoints_170 : decode cX16_findPoints 170 = .ok (.aload_n 0, 1) := by decide +kernel
theorem dX16_findPoints_171 : decode cX16_findPoints 171 = .ok (.getfield 59, 3) := by decide +kernel
theorem dX16_findPoints_174 : decode cX16_findPoints 174 = .ok (.iload_n 3, 1) := by decide +kernel
theorem dX16_findPoints_175 : decode cX16_findPoints 175 = .ok (.iaload, 1) := by decide +kernel
theorem dX16_findPoints_176 : decode cX16_findPoints 176 = .ok (.aload_n 0, 1) := by decide +kernel
theorem dX16_findPoints_177 : decode cX16_findPoints 177 = .ok (.getfield 62, 3) := by decide +kernel
theorem dX16_findPoints_180 : decode cX16_findPoints 180 = .ok (.iload_n 3, 1) := by decide +kernel
theorem dX16_findPoints_181 : decode cX16_findPoints 181 = .ok (.iaload, 1) := by decide +kernel
theorem dX16_findPoints_182 : decode cX16_findPoints 182 = .ok (.invokevirtual 139, 3) := by decide +kernel
theorem dX16_findPoints_185 : decode cX16_findPoints 185 = .ok (.ifCond .eq 49, 3) := by decide +kernel
theorem dX16_findPoints_234 : decode cX16_findPoints 234 = .ok (.iinc 3 1, 3) := by decide +kernel
theorem dX16_findPoints_237 : decode cX16_findPoints 237 = .ok (.goto (-77), 3) := by decide +kernel
theorem dX16_findPoints_188 : decode cX16_findPoints 188 = .ok (.iload_n 2, 1) := by decide +kernel
theorem dX16_findPoints_189 : decode cX16_findPoints 189 = .ok (.ifCond .lt 43, 3) := by decide +kernel
theorem dX16_findPoints_232 : decode cX16_findPoints 232 = .ok (.iload_n 3, 1) := by decide +kernel
theorem dX16_findPoints_233 : decode cX16_findPoints 233 = .ok (.istore_n 2, 1) := by decide +kernel
theorem dX16_findPoints_192 : decode cX16_findPoints 192 = .ok (.aload_n 0, 1) := by decide +kernel
theorem dX16_findPoints_193 : decode cX16_findPoints 193 = .ok (.getfield 65, 3) := by decide +kernel
theorem dX16_findPoints_196 : decode cX16_findPoints 196 = .ok (.aload_n 0, 1) := by decide +kernel
theorem dX16_findPoints_197 : decode cX16_findPoints 197 = .ok (.getfield 143, 3) := by decide +kernel
theorem dX16_findPoints_200 : decode cX16_findPoints 200 = .ok (.iload_n 1, 1) := by decide +kernel
theorem dX16_findPoints_201 : decode cX16_findPoints 201 = .ok (.iastore, 1) := by decide +kernel
theorem dX16_findPoints_202 : decode cX16_findPoints 202 = .ok (.aload_n 0, 1) := by decide +kernel
theorem dX16_findPoints_203 : decode cX16_findPoints 203 = .ok (.getfield 68, 3) := by decide +kernel
theorem dX16_findPoints_206 : decode cX16_findPoints 206 = .ok (.aload_n 0, 1) := by decide +kernel
theorem dX16_findPoints_207 : decode cX16_findPoints 207 = .ok (.getfield 143, 3) := by decide +kernel
theorem dX16_findPoints_210 : decode cX16_findPoints 210 = .ok (.iload_n 2, 1) := by decide +kernel
theorem dX16_findPoints_211 : decode cX16_findPoints 211 = .ok (.iastore, 1) := by decide +kernel
theorem dX16_findPoints_212 : decode cX16_findPoints 212 = .ok (.aload_n 0, 1) := by decide +kernel
theorem dX16_findPoints_213 : decode cX16_findPoints 213 = .ok (.getfield 71, 3) := by decide +kernel
theorem dX16_findPoints_216 : decode cX16_findPoints 216 = .ok (.aload_n 0, 1) := by decide +kernel
theorem dX16_findPoints_217 : decode cX16_findPoints 217 = .ok (.getfield 143, 3) := by decide +kernel
theorem dX16_findPoints_220 : decode cX16_findPoints 220 = .ok (.iload_n 3, 1) := by decide +kernel
theorem dX16_findPoints_221 : decode cX16_findPoints 221 = .ok (.iastore, 1) := by decide +kernel
theorem dX16_findPoints_222 : decode cX16_findPoints 222 = .ok (.aload_n 0, 1) := by decide +kernel
theorem dX16_findPoints_223 : decode cX16_findPoints 223 = .ok (.dup, 1) := by decide +kernel
theorem dX16_findPoints_224 : decode cX16_findPoints 224 = .ok (.getfield 143, 3) := by decide +kernel
theorem dX16_findPoints_227 : decode cX16_findPoints 227 = .ok (.iconst 1, 1) := by decide +kernel
theorem dX16_findPoints_228 : decode cX16_findPoints 228 = .ok (.iadd, 1) := by decide +kernel
theorem dX16_findPoints_229 : decode cX16_findPoints 229 = .ok (.putfield 143, 3) := by decide +kernel
theorem dX16_findPoints_240 : decode cX16_findPoints 240 = .ok (.iinc 1 1, 3) := by decide +kernel
theorem dX16_findPoints_243 : decode cX16_findPoints 243 = .ok (.goto (-95), 3) := by decide +kernel
theorem dX16_findPoints_246 : decode cX16_findPoints 246 = .ok (.return_, 1) := by decide +kernel
theorem dX16_sideFrom_0 : decode cX16_sideFrom 0 = .ok (.iload_n 1, 1) := by decide +kernel
theorem dX16_sideFrom_1 : decode cX16_sideFrom 1 = .ok (.iconst 2, 1) := by decide +kernel
theorem dX16_sideFrom_2 : decode cX16_sideFrom 2 = .ok (.irem, 1) := by decide +kernel
theorem dX16_sideFrom_3 : decode cX16_sideFrom 3 = .ok (.ifCond .ne 14, 3) := by decide +kernel
theorem dX16_sideFrom_17 : decode cX16_sideFrom 17 = .ok (.aload_n 0, 1) := by decide +kernel
theorem dX16_sideFrom_18 : decode cX16_sideFrom 18 = .ok (.getfield 71, 3) := by decide +kernel
theorem dX16_sideFrom_21 : decode cX16_sideFrom 21 = .ok (.iload_n 1, 1) := by decide +kernel
theorem dX16_sideFrom_22 : decode cX16_sideFrom 22 = .ok (.iconst 2, 1) := by decide +kernel
theorem dX16_sideFrom_23 : decode cX16_sideFrom 23 = .ok (.idiv, 1) := by decide +kernel
theorem dX16_sideFrom_24 : decode cX16_sideFrom 24 = .ok (.iaload, 1) := by decide +kernel
theorem dX16_sideFrom_25 : decode cX16_sideFrom 25 = .ok (.ireturn, 1) := by decide +kernel
theorem dX16_sideFrom_6 : decode cX16_sideFrom 6 = .ok (.aload_n 0, 1) := by decide +kernel
theorem dX16_sideFrom_7 : decode cX16_sideFrom 7 = .ok (.getfield 68, 3) := by decide +kernel
theorem dX16_sideFrom_10 : decode cX16_sideFrom 10 = .ok (.iload_n 1, 1) := by decide +kernel
theorem dX16_sideFrom_11 : decode cX16_sideFrom 11 = .ok (.iconst 2, 1) := by decide +kernel
theorem dX16_sideFrom_12 : decode cX16_sideFrom 12 = .ok (.idiv, 1) := by decide +kernel
theorem dX16_sideFrom_13 : decode cX16_sideFrom 13 = .ok (.iaload, 1) := by decide +kernel
theorem dX16_sideFrom_14 : decode cX16_sideFrom 14 = .ok (.goto 11, 3) := by decide +kernel
theorem dX16_sideTo_0 : decode cX16_sideTo 0 = .ok (.iload_n 1, 1) := by decide +kernel
theorem dX16_sideTo_1 : decode cX16_sideTo 1 = .ok (.iconst 2, 1) := by decide +kernel
theorem dX16_sideTo_2 : decode cX16_sideTo 2 = .ok (.irem, 1) := by decide +kernel
theorem dX16_sideTo_3 : decode cX16_sideTo 3 = .ok (.ifCond .ne 14, 3) := by decide +kernel
theorem dX16_sideTo_17 : decode cX16_sideTo 17 = .ok (.aload_n 0, 1) := by decide +kernel
theorem dX16_sideTo_18 : decode cX16_sideTo 18 = .ok (.getfield 68, 3) := by decide +kernel
theorem dX16_sideTo_21 : decode cX16_sideTo 21 = .ok (.iload_n 1, 1) := by decide +kernel
theorem dX16_sideTo_22 : decode cX16_sideTo 22 = .ok (.iconst 2, 1) := by decide +kernel
theorem dX16_sideTo_23 : decode cX16_sideTo 23 = .ok (.idiv, 1) := by decide +kernel
theorem dX16_sideTo_24 : decode cX16_sideTo 24 = .ok (.iaload, 1) := by decide +kernel
theorem dX16_sideTo_25 : decode cX16_sideTo 25 = .ok (.ireturn, 1) := by decide +kernel
theorem dX16_sideTo_6 : decode cX16_sideTo 6 = .ok (.aload_n 0, 1) := by decide +kernel
theorem dX16_sideTo_7 : decode cX16_sideTo 7 = .ok (.getfield 71, 3) := by decide +kernel
theorem dX16_sideTo_10 : decode cX16_sideTo 10 = .ok (.iload_n 1, 1) := by decide +kernel
theorem dX16_sideTo_11 : decode cX16_sideTo 11 = .ok (.iconst 2, 1) := by decide +kernel
theorem dX16_sideTo_12 : decode cX16_sideTo 12 = .ok (.idiv, 1) := by decide +kernel
theorem dX16_sideTo_13 : decode cX16_sideTo 13 = .ok (.iaload, 1) := by decide +kernel
theorem dX16_sideTo_14 : decode cX16_sideTo 14 = .ok (.goto 11, 3) := by decide +kernel
theorem dX16_sideWay_0 : decode cX16_sideWay 0 = .ok (.aload_n 0, 1) := by decide +kernel
theorem dX16_sideWay_1 : decode cX16_sideWay 1 = .ok (.getfield 16, 3) := by decide +kernel
theorem dX16_sideWay_4 : decode cX16_sideWay 4 = .ok (.aload_n 0, 1) := by decide +kernel
theorem dX16_sideWay_5 : decode cX16_sideWay 5 = .ok (.getfield 65, 3) := by decide +kernel
theorem dX16_sideWay_8 : decode cX16_sideWay 8 = .ok (.iload_n 1, 1) := by decide +kernel
theorem dX16_sideWay_9 : decode cX16_sideWay 9 = .ok (.iconst 2, 1) := by decide +kernel
theorem dX16_sideWay_10 : decode cX16_sideWay 10 = .ok (.idiv, 1) := by decide +kernel
theorem dX16_sideWay_11 : decode cX16_sideWay 11 = .ok (.iaload, 1) := by decide +kernel
theorem dX16_sideWay_12 : decode cX16_sideWay 12 = .ok (.baload, 1) := by decide +kernel
theorem dX16_sideWay_13 : decode cX16_sideWay 13 = .ok (.ifCond .eq 7, 3) := by decide +kernel
theorem dX16_sideWay_20 : decode cX16_sideWay 20 = .ok (.iconst 1, 1) := by decide +kernel
theorem dX16_sideWay_21 : decode cX16_sideWay 21 = .ok (.iconst 2, 1) := by decide +kernel
theorem dX16_sideWay_22 : decode cX16_sideWay 22 = .ok (.iload_n 1, 1) := by decide +kernel
theorem dX16_sideWay_23 : decode cX16_sideWay 23 = .ok (.iconst 2, 1) := by decide +kernel
theorem dX16_sideWay_24 : decode cX16_sideWay 24 = .ok (.irem, 1) := by decide +kernel
theorem dX16_sideWay_25 : decode cX16_sideWay 25 = .ok (.imul, 1) := by decide +kernel
theorem dX16_sideWay_26 : decode cX16_sideWay 26 = .ok (.iadd, 1) := by decide +kernel
theorem dX16_sideWay_27 : decode cX16_sideWay 27 = .ok (.ireturn, 1) := by decide +kernel
theorem dX16_sideWay_16 : decode cX16_sideWay 16 = .ok (.iconst 0, 1) := by decide +kernel
theorem dX16_sideWay_17 : decode cX16_sideWay 17 = .ok (.goto 4, 3) := by decide +kernel
theorem dX16_sideLength_0 : decode cX16_sideLength 0 = .ok (.aload_n 0, 1) := by decide +kernel
theorem dX16_sideLength_1 : decode cX16_sideLength 1 = .ok (.getfield 68, 3) := by decide +kernel
theorem dX16_sideLength_4 : decode cX16_sideLength 4 = .ok (.iload_n 1, 1) := by decide +kernel
theorem dX16_sideLength_5 : decode cX16_sideLength 5 = .ok (.iconst 2, 1) := by decide +kernel
theorem dX16_sideLength_6 : decode cX16_sideLength 6 = .ok (.idiv, 1) := by decide +kernel
theorem dX16_sideLength_7 : decode cX16_sideLength 7 = .ok (.iaload, 1) := by decide +kernel
theorem dX16_sideLength_8 : decode cX16_sideLength 8 = .ok (.istore_n 2, 1) := by decide +kernel
theorem dX16_sideLength_9 : decode cX16_sideLength 9 = .ok (.aload_n 0, 1) := by decide +kernel
theorem dX16_sideLength_10 : decode cX16_sideLength 10 = .ok (.getfield 71, 3) := by decide +kernel
theorem dX16_sideLength_13 : decode cX16_sideLength 13 = .ok (.iload_n 1, 1) := by decide +kernel
theorem dX16_sideLength_14 : decode cX16_sideLength 14 = .ok (.iconst 2, 1) := by decide +kernel
theorem dX16_sideLength_15 : decode cX16_sideLength 15 = .ok (.idiv, 1) := by decide +kernel
theorem dX16_sideLength_16 : decode cX16_sideLength 16 = .ok (.iaload, 1) := by decide +kernel
theorem dX16_sideLength_17 : decode cX16_sideLength 17 = .ok (.istore_n 3, 1) := by decide +kernel
theorem dX16_sideLength_18 : decode cX16_sideLength 18 = .ok (.aload_n 0, 1) := by decide +kernel
theorem dX16_sideLength_19 : decode cX16_sideLength 19 = .ok (.getfield 59, 3) := by decide +kernel
theorem dX16_sideLength_22 : decode cX16_sideLength 22 = .ok (.iload_n 3, 1) := by decide +kernel
theorem dX16_sideLength_23 : decode cX16_sideLength 23 = .ok (.iaload, 1) := by decide +kernel
theorem dX16_sideLength_24 : decode cX16_sideLength 24 = .ok (.aload_n 0, 1) := by decide +kernel
theorem dX16_sideLength_25 : decode cX16_sideLength 25 = .ok (.getfield 59, 3) := by decide +kernel
theorem dX16_sideLength_28 : decode cX16_sideLength 28 = .ok (.iload_n 2, 1) := by decide +kernel
theorem dX16_sideLength_29 : decode cX16_sideLength 29 = .ok (.iaload, 1) := by decide +kernel
theorem dX16_sideLength_30 : decode cX16_sideLength 30 = .ok (.isub, 1) := by decide +kernel
theorem dX16_sideLength_31 : decode cX16_sideLength 31 = .ok (.aload_n 0, 1) := by decide +kernel
theorem dX16_sideLength_32 : decode cX16_sideLength 32 = .ok (.getfield 62, 3) := by decide +kernel
theorem dX16_sideLength_35 : decode cX16_sideLength 35 = .ok (.iload_n 3, 1) := by decide +kernel
theorem dX16_sideLength_36 : decode cX16_sideLength 36 = .ok (.iaload, 1) := by decide +kernel
theorem dX16_sideLength_37 : decode cX16_sideLength 37 = .ok (.iadd, 1) := by decide +kernel
theorem dX16_sideLength_38 : decode cX16_sideLength 38 = .ok (.aload_n 0, 1) := by decide +kernel
theorem dX16_sideLength_39 : decode cX16_sideLength 39 = .ok (.getfield 62, 3) := by decide +kernel
theorem dX16_sideLength_42 : decode cX16_sideLength 42 = .ok (.iload_n 2, 1) := by decide +kernel
theorem dX16_sideLength_43 : decode cX16_sideLength 43 = .ok (.iaload, 1) := by decide +kernel
theorem dX16_sideLength_44 : decode cX16_sideLength 44 = .ok (.isub, 1) := by decide +kernel
theorem dX16_sideLength_45 : decode cX16_sideLength 45 = .ok (.ireturn, 1) := by decide +kernel
theorem dX16_left_0 : decode cX16_left 0 = .ok (.aload_n 0, 1) := by decide +kernel
theorem dX16_left_1 : decode cX16_left 1 = .ok (.getfield 68, 3) := by decide +kernel
theorem dX16_left_4 : decode cX16_left 4 = .ok (.iload_n 1, 1) := by decide +kernel
theorem dX16_left_5 : decode cX16_left 5 = .ok (.iconst 2, 1) := by decide +kernel
theorem dX16_left_6 : decode cX16_left 6 = .ok (.idiv, 1) := by decide +kernel
theorem dX16_left_7 : decode cX16_left 7 = .ok (.iaload, 1) := by decide +kernel
theorem dX16_left_8 : decode cX16_left 8 = .ok (.istore_n 2, 1) := by decide +kernel
theorem dX16_left_9 : decode cX16_left 9 = .ok (.aload_n 0, 1) := by decide +kernel
theorem dX16_left_10 : decode cX16_left 10 = .ok (.getfield 35, 3) := by decide +kernel
theorem dX16_left_13 : decode cX16_left 13 = .ok (.aload_n 0, 1) := by decide +kernel
theorem dX16_left_14 : decode cX16_left 14 = .ok (.getfield 59, 3) := by decide +kernel
theorem dX16_left_17 : decode cX16_left 17 = .ok (.iload_n 2, 1) := by decide +kernel
theorem dX16_left_18 : decode cX16_left 18 = .ok (.iaload, 1) := by decide +kernel
theorem dX16_left_19 : decode cX16_left 19 = .ok (.invokestatic 146, 3) := by decide +kernel
theorem dX16_left_22 : decode cX16_left 22 = .ok (.istore_n 3, 1) := by decide +kernel
theorem dX16_left_23 : decode cX16_left 23 = .ok (.aload_n 0, 1) := by decide +kernel
theorem dX16_left_24 : decode cX16_left 24 = .ok (.getfield 38, 3) := by decide +kernel
theorem dX16_left_27 : decode cX16_left 27 = .ok (.aload_n 0, 1) := by decide +kernel
theorem dX16_left_28 : decode cX16_left 28 = .ok (.getfield 62, 3) := by decide +kernel
theorem dX16_left_31 : decode cX16_left 31 = .ok (.iload_n 2, 1) := by decide +kernel
theorem dX16_left_32 : decode cX16_left 32 = .ok (.iaload, 1) := by decide +kernel
theorem dX16_left_33 : decode cX16_left 33 = .ok (.invokestatic 146, 3) := by decide +kernel
theorem dX16_left_36 : decode cX16_left 36 = .ok (.istore 4, 2) := by decide +kernel
theorem dX16_left_38 : decode cX16_left 38 = .ok (.aload_n 0, 1) := by decide +kernel
theorem dX16_left_39 : decode cX16_left 39 = .ok (.iload_n 1, 1) := by decide +kernel
theorem dX16_left_40 : decode cX16_left 40 = .ok (.invokevirtual 150, 3) := by decide +kernel
theorem dX16_left_43 : decode cX16_left 43 = .ok (.tableswitch 72 0 2 #[25, 57, 42], 25) := by decide +kernel
theorem dX16_left_115 : decode cX16_left 115 = .ok (.aload_n 0, 1) := by decide +kernel
theorem dX16_left_116 : decode cX16_left 116 = .ok (.getfield 41, 3) := by decide +kernel
theorem dX16_left_119 : decode cX16_left 119 = .ok (.bipush 42, 2) := by decide +kernel
theorem dX16_left_121 : decode cX16_left 121 = .ok (.iload 4, 2) := by decide +kernel
theorem dX16_left_123 : decode cX16_left 123 = .ok (.iconst 1, 1) := by decide +kernel
theorem dX16_left_124 : decode cX16_left 124 = .ok (.iadd, 1) := by decide +kernel
theorem dX16_left_125 : decode cX16_left 125 = .ok (.imul, 1) := by decide +kernel
theorem dX16_left_126 : decode cX16_left 126 = .ok (.iload_n 3, 1) := by decide +kernel
theorem dX16_left_127 : decode cX16_left 127 = .ok (.iadd, 1) := by decide +kernel
theorem dX16_left_128 : decode cX16_left 128 = .ok (.iconst 1, 1) := by decide +kernel
theorem dX16_left_129 : decode cX16_left 129 = .ok (.iadd, 1) := by decide +kernel
theorem dX16_left_130 : decode cX16_left 130 = .ok (.iaload, 1) := by decide +kernel
theorem dX16_left_131 : decode cX16_left 131 = .ok (.ireturn, 1) := by decide +kernel
theorem dX16_left_68 : decode cX16_left 68 = .ok (.aload_n 0, 1) := by decide +kernel
theorem dX16_left_69 : decode cX16_left 69 = .ok (.getfield 41, 3) := by decide +kernel
theorem dX16_left_72 : decode cX16_left 72 = .ok (.bipush 42, 2) := by decide +kernel
theorem dX16_left_74 : decode cX16_left 74 = .ok (.iload 4, 2) := by decide +kernel
theorem dX16_left_76 : decode cX16_left 76 = .ok (.iconst 1, 1) := by decide +kernel
theorem dX16_left_77 : decode cX16_left 77 = .ok (.iadd, 1) := by decide +kernel
theorem dX16_left_78 : decode cX16_left 78 = .ok (.imul, 1) := by decide +kernel
theorem dX16_left_79 : decode cX16_left 79 = .ok (.iload_n 3, 1) := by decide +kernel
theorem dX16_left_80 : decode cX16_left 80 = .ok (.iadd, 1) := by decide +kernel
theorem dX16_left_81 : decode cX16_left 81 = .ok (.iconst 1, 1) := by decide +kernel
theorem dX16_left_82 : decode cX16_left 82 = .ok (.iadd, 1) := by decide +kernel
theorem dX16_left_83 : decode cX16_left 83 = .ok (.iaload, 1) := by decide +kernel
theorem dX16_left_84 : decode cX16_left 84 = .ok (.ireturn, 1) := by decide +kernel
theorem dX16_left_100 : decode cX16_left 100 = .ok (.aload_n 0, 1) := by decide +kernel
theorem dX16_left_101 : decode cX16_left 101 = .ok (.getfield 41, 3) := by decide +kernel
theorem dX16_left_104 : decode cX16_left 104 = .ok (.bipush 42, 2) := by decide +kernel
theorem dX16_left_106 : decode cX16_left 106 = .ok (.iload 4, 2) := by decide +kernel
theorem dX16_left_108 : decode cX16_left 108 = .ok (.iconst 1, 1) := by decide +kernel
theorem dX16_left_109 : decode cX16_left 109 = .ok (.iadd, 1) := by decide +kernel
theorem dX16_left_110 : decode cX16_left 110 = .ok (.imul, 1) := by decide +kernel
theorem dX16_left_111 : decode cX16_left 111 = .ok (.iload_n 3, 1) := by decide +kernel
theorem dX16_left_112 : decode cX16_left 112 = .ok (.iadd, 1) := by decide +kernel
theorem dX16_left_113 : decode cX16_left 113 = .ok (.iaload, 1) := by decide +kernel
theorem dX16_left_114 : decode cX16_left 114 = .ok (.ireturn, 1) := by decide +kernel
theorem dX16_left_85 : decode cX16_left 85 = .ok (.aload_n 0, 1) := by decide +kernel
theorem dX16_left_86 : decode cX16_left 86 = .ok (.getfield 41, 3) := by decide +kernel
theorem dX16_left_89 : decode cX16_left 89 = .ok (.bipush 42, 2) := by decide +kernel
theorem dX16_left_91 : decode cX16_left 91 = .ok (.iload 4, 2) := by decide +kernel
theorem dX16_left_93 : decode cX16_left 93 = .ok (.imul, 1) := by decide +kernel
theorem dX16_left_94 : decode cX16_left 94 = .ok (.iload_n 3, 1) := by decide +kernel
theorem dX16_left_95 : decode cX16_left 95 = .ok (.iadd, 1) := by decide +kernel
theorem dX16_left_96 : decode cX16_left 96 = .ok (.iconst 1, 1) := by decide +kernel
theorem dX16_left_97 : decode cX16_left 97 = .ok (.iadd, 1) := by decide +kernel
theorem dX16_left_98 : decode cX16_left 98 = .ok (.iaload, 1) := by decide +kernel
theorem dX16_left_99 : decode cX16_left 99 = .ok (.ireturn, 1) := by decide +kernel
theorem dX16_right_0 : decode cX16_right 0 = .ok (.aload_n 0, 1) := by decide +kernel
theorem dX16_right_1 : decode cX16_right 1 = .ok (.iload_n 1, 1) := by decide +kernel
theorem dX16_right_2 : decode cX16_right 2 = .ok (.iconst 2, 1) := by decide +kernel
theorem dX16_right_3 : decode cX16_right 3 = .ok (.irem, 1) := by decide +kernel
theorem dX16_right_4 : decode cX16_right 4 = .ok (.ifCond .ne 9, 3) := by decide +kernel
theorem dX16_right_13 : decode cX16_right 13 = .ok (.iload_n 1, 1) := by decide +kernel
theorem dX16_right_14 : decode cX16_right 14 = .ok (.iconst 1, 1) := by decide +kernel
theorem dX16_right_15 : decode cX16_right 15 = .ok (.isub, 1) := by decide +kernel
theorem dX16_right_16 : decode cX16_right 16 = .ok (.invokevirtual 153, 3) := by decide +kernel
theorem dX16_right_19 : decode cX16_right 19 = .ok (.ireturn, 1) := by decide +kernel
theorem dX16_right_7 : decode cX16_right 7 = .ok (.iload_n 1, 1) := by decide +kernel
theorem dX16_right_8 : decode cX16_right 8 = .ok (.iconst 1, 1) := by decide +kernel
theorem dX16_right_9 : decode cX16_right 9 = .ok (.iadd, 1) := by decide +kernel
theorem dX16_right_10 : decode cX16_right 10 = .ok (.goto 6, 3) := by decide +kernel
theorem dX16_leaving_0 : decode cX16_leaving 0 = .ok (.iconst (-1), 1) := by decide +kernel
theorem dX16_leaving_1 : decode cX16_leaving 1 = .ok (.istore_n 3, 1) := by decide +kernel
theorem dX16_leaving_2 : decode cX16_leaving 2 = .ok (.iconst 0, 1) := by decide +kernel
theorem dX16_leaving_3 : decode cX16_leaving 3 = .ok (.istore 4, 2) := by decide +kernel
theorem dX16_leaving_5 : decode cX16_leaving 5 = .ok (.iload 4, 2) := by decide +kernel
theorem dX16_leaving_7 : decode cX16_leaving 7 = .ok (.iconst 2, 1) := by decide +kernel
theorem dX16_leaving_8 : decode cX16_leaving 8 = .ok (.aload_n 0, 1) := by decide +kernel
theorem dX16_leaving_9 : decode cX16_leaving 9 = .ok (.getfield 143, 3) := by decide +kernel
theorem dX16_leaving_12 : decode cX16_leaving 12 = .ok (.imul, 1) := by decide +kernel
theorem dX16_leaving_13 : decode cX16_leaving 13 = .ok (.if_icmp .ge 36, 3) := by decide +kernel
theorem dX16_leaving_16 : decode cX16_leaving 16 = .ok (.aload_n 0, 1) := by decide +kernel
theorem dX16_leaving_17 : decode cX16_leaving 17 = .ok (.iload 4, 2) := by decide +kernel
theorem dX16_leaving_19 : decode cX16_leaving 19 = .ok (.invokevirtual 156, 3) := by decide +kernel
theorem dX16_leaving_22 : decode cX16_leaving 22 = .ok (.iload_n 1, 1) := by decide +kernel
theorem dX16_leaving_23 : decode cX16_leaving 23 = .ok (.if_icmp .ne 18, 3) := by decide +kernel
theorem dX16_leaving_41 : decode cX16_leaving 41 = .ok (.iload_n 3, 1) := by decide +kernel
theorem dX16_leaving_42 : decode cX16_leaving 42 = .ok (.istore_n 3, 1) := by decide +kernel
theorem dX16_leaving_43 : decode cX16_leaving 43 = .ok (.iinc 4 1, 3) := by decide +kernel
theorem dX16_leaving_46 : decode cX16_leaving 46 = .ok (.goto (-41), 3) := by decide +kernel
theorem dX16_leaving_26 : decode cX16_leaving 26 = .ok (.aload_n 0, 1) := by decide +kernel
theorem dX16_leaving_27 : decode cX16_leaving 27 = .ok (.iload 4, 2) := by decide +kernel
theorem dX16_leaving_29 : decode cX16_leaving 29 = .ok (.invokevirtual 150, 3) := by decide +kernel
theorem dX16_leaving_32 : decode cX16_leaving 32 = .ok (.iload_n 2, 1) := by decide +kernel
theorem dX16_leaving_33 : decode cX16_leaving 33 = .ok (.if_icmp .ne 8, 3) := by decide +kernel
theorem dX16_leaving_36 : decode cX16_leaving 36 = .ok (.iload 4, 2) := by decide +kernel
theorem dX16_leaving_38 : decode cX16_leaving 38 = .ok (.goto 4, 3) := by decide +kernel
theorem dX16_leaving_49 : decode cX16_leaving 49 = .ok (.iload_n 3, 1) := by decide +kernel
theorem dX16_leaving_50 : decode cX16_leaving 50 = .ok (.ireturn, 1) := by decide +kernel
theorem dX16_next_0 : decode cX16_next 0 = .ok (.iconst (-1), 1) := by decide +kernel
theorem dX16_next_1 : decode cX16_next 1 = .ok (.istore_n 2, 1) := by decide +kernel
theorem dX16_next_2 : decode cX16_next 2 = .ok (.iconst 1, 1) := by decide +kernel
theorem dX16_next_3 : decode cX16_next 3 = .ok (.istore_n 3, 1) := by decide +kernel
theorem dX16_next_4 : decode cX16_next 4 = .ok (.iload_n 3, 1) := by decide +kernel
theorem dX16_next_5 : decode cX16_next 5 = .ok (.bipush (-3), 2) := by decide +kernel
theorem dX16_next_7 : decode cX16_next 7 = .ok (.if_icmp .le 34, 3) := by decide +kernel
theorem dX16_next_10 : decode cX16_next 10 = .ok (.iload_n 2, 1) := by decide +kernel
theorem dX16_next_11 : decode cX16_next 11 = .ok (.ifCond .ge 30, 3) := by decide +kernel
theorem dX16_next_14 : decode cX16_next 14 = .ok (.aload_n 0, 1) := by decide +kernel
theorem dX16_next_15 : decode cX16_next 15 = .ok (.aload_n 0, 1) := by decide +kernel
theorem dX16_next_16 : decode cX16_next 16 = .ok (.iload_n 1, 1) := by decide +kernel
theorem dX16_next_17 : decode cX16_next 17 = .ok (.invokevirtual 159, 3) := by decide +kernel
theorem dX16_next_20 : decode cX16_next 20 = .ok (.aload_n 0, 1) := by decide +kernel
theorem dX16_next_21 : decode cX16_next 21 = .ok (.iload_n 1, 1) := by decide +kernel
theorem dX16_next_22 : decode cX16_next 22 = .ok (.invokevirtual 150, 3) := by decide +kernel
theorem dX16_next_25 : decode cX16_next 25 = .ok (.iload_n 3, 1) := by decide +kernel
theorem dX16_next_26 : decode cX16_next 26 = .ok (.iadd, 1) := by decide +kernel
theorem dX16_next_27 : decode cX16_next 27 = .ok (.iconst 4, 1) := by decide +kernel
theorem dX16_next_28 : decode cX16_next 28 = .ok (.iadd, 1) := by decide +kernel
theorem dX16_next_29 : decode cX16_next 29 = .ok (.iconst 4, 1) := by decide +kernel
theorem dX16_next_30 : decode cX16_next 30 = .ok (.irem, 1) := by decide +kernel
theorem dX16_next_31 : decode cX16_next 31 = .ok (.invokevirtual 162, 3) := by decide +kernel
theorem dX16_next_34 : decode cX16_next 34 = .ok (.istore_n 2, 1) := by decide +kernel
theorem dX16_next_35 : decode cX16_next 35 = .ok (.iinc 3 (-1), 3) := by decide +kernel
theorem dX16_next_38 : decode cX16_next 38 = .ok (.goto (-34), 3) := by decide +kernel
theorem dX16_next_41 : decode cX16_next 41 = .ok (.iload_n 2, 1) := by decide +kernel
theorem dX16_next_42 : decode cX16_next 42 = .ok (.ireturn, 1) := by decide +kernel
theorem dX16_findRings_0 : decode cX16_findRings 0 = .ok (.aload_n 0, 1) := by decide +kernel
theorem dX16_findRings_1 : decode cX16_findRings 1 = .ok (.iconst 0, 1) := by decide +kernel
theorem dX16_findRings_2 : decode cX16_findRings 2 = .ok (.putfield 165, 3) := by decide +kernel
theorem dX16_findRings_5 : decode cX16_findRings 5 = .ok (.iconst 0, 1) := by decide +kernel
theorem dX16_findRings_6 : decode cX16_findRings 6 = .ok (.istore_n 1, 1) := by decide +kernel
theorem dX16_findRings_7 : decode cX16_findRings 7 = .ok (.iload_n 1, 1) := by decide +kernel
theorem dX16_findRings_8 : decode cX16_findRings 8 = .ok (.iconst 2, 1) := by decide +kernel
theorem dX16_findRings_9 : decode cX16_findRings 9 = .ok (.aload_n 0, 1) := by decide +kernel
theorem dX16_findRings_10 : decode cX16_findRings 10 = .ok (.getfield 143, 3) := by decide +kernel
theorem dX16_findRings_13 : decode cX16_findRings 13 = .ok (.imul, 1) := by decide +kernel
theorem dX16_findRings_14 : decode cX16_findRings 14 = .ok (.if_icmp .ge 16, 3) := by decide +kernel
theorem dX16_findRings_17 : decode cX16_findRings 17 = .ok (.aload_n 0, 1) := by decide +kernel
theorem dX16_findRings_18 : decode cX16_findRings 18 = .ok (.getfield 74, 3) := by decide +kernel
theorem dX16_findRings_21 : decode cX16_findRings 21 = .ok (.iload_n 1, 1) := by decide +kernel
theorem dX16_findRings_22 : decode cX16_findRings 22 = .ok (.iconst 0, 1) := by decide +kernel
theorem dX16_findRings_23 : decode cX16_findRings 23 = .ok (.bastore, 1) := by decide +kernel
theorem dX16_findRings_24 : decode cX16_findRings 24 = .ok (.iinc 1 1, 3) := by decide +kernel
theorem dX16_findRings_27 : decode cX16_findRings 27 = .ok (.goto (-20), 3) := by decide +kernel
theorem dX16_findRings_30 : decode cX16_findRings 30 = .ok (.iconst 0, 1) := by decide +kernel
theorem dX16_findRings_31 : decode cX16_findRings 31 = .ok (.istore_n 1, 1) := by decide +kernel
theorem dX16_findRings_32 : decode cX16_findRings 32 = .ok (.iload_n 1, 1) := by decide +kernel
theorem dX16_findRings_33 : decode cX16_findRings 33 = .ok (.aload_n 0, 1) := by decide +kernel
theorem dX16_findRings_34 : decode cX16_findRings 34 = .ok (.getfield 129, 3) := by decide +kernel
theorem dX16_findRings_37 : decode cX16_findRings 37 = .ok (.if_icmp .ge 110, 3) := by decide +kernel
theorem dX16_findRings_40 : decode cX16_findRings 40 = .ok (.iconst 0, 1) := by decide +kernel
theorem dX16_findRings_41 : decode cX16_findRings 41 = .ok (.istore_n 2, 1) := by decide +kernel
theorem dX16_findRings_42 : decode cX16_findRings 42 = .ok (.iload_n 2, 1) := by decide +kernel
theorem dX16_findRings_43 : decode cX16_findRings 43 = .ok (.iconst 4, 1) := by decide +kernel
theorem dX16_findRings_44 : decode cX16_findRings 44 = .ok (.if_icmp .ge 97, 3) := by decide +kernel
theorem dX16_findRings_47 : decode cX16_findRings 47 = .ok (.aload_n 0, 1) := by decide +kernel
theorem dX16_findRings_48 : decode cX16_findRings 48 = .ok (.iload_n 1, 1) := by decide +kernel
theorem dX16_findRings_49 : decode cX16_findRings 49 = .ok (.iload_n 2, 1) := by decide +kernel
theorem dX16_findRings_50 : decode cX16_findRings 50 = .ok (.invokevirtual 162, 3) := by decide +kernel
theorem dX16_findRings_53 : decode cX16_findRings 53 = .ok (.istore_n 3, 1) := by decide +kernel
theorem dX16_findRings_54 : decode cX16_findRings 54 = .ok (.iload_n 3, 1) := by decide +kernel
theorem dX16_findRings_55 : decode cX16_findRings 55 = .ok (.ifCond .lt 80, 3) := by decide +kernel
theorem dX16_findRings_135 : decode cX16_findRings 135 = .ok (.iinc 2 1, 3) := by decide +kernel
theorem dX16_findRings_138 : decode cX16_findRings 138 = .ok (.goto (-96), 3) := by decide +kernel
theorem dX16_findRings_58 : decode cX16_findRings 58 = .ok (.aload_n 0, 1) := by decide +kernel
theorem dX16_findRings_59 : decode cX16_findRings 59 = .ok (.getfield 74, 3) := by decide +kernel
theorem dX16_findRings_62 : decode cX16_findRings 62 = .ok (.iload_n 3, 1) := by decide +kernel
theorem dX16_findRings_63 : decode cX16_findRings 63 = .ok (.baload, 1) := by decide +kernel
theorem dX16_findRings_64 : decode cX16_findRings 64 = .ok (.ifCond .ne 71, 3) := by decide +kernel
theorem dX16_findRings_67 : decode cX16_findRings 67 = .ok (.aload_n 0, 1) := by decide +kernel
theorem dX16_findRings_68 : decode cX16_findRings 68 = .ok (.getfield 77, 3) := by decide +kernel
theorem dX16_findRings_71 : decode cX16_findRings 71 = .ok (.aload_n 0, 1) := by decide +kernel
theorem dX16_findRings_72 : decode cX16_findRings 72 = .ok (.getfield 165, 3) := by decide +kernel
theorem dX16_findRings_75 : decode cX16_findRings 75 = .ok (.iload_n 3, 1) := by decide +kernel
theorem dX16_findRings_76 : decode cX16_findRings 76 = .ok (.iastore, 1) := by decide +kernel
theorem dX16_findRings_77 : decode cX16_findRings 77 = .ok (.aload_n 0, 1) := by decide +kernel
theorem dX16_findRings_78 : decode cX16_findRings 78 = .ok (.getfield 80, 3) := by decide +kernel
theorem dX16_findRings_81 : decode cX16_findRings 81 = .ok (.aload_n 0, 1) := by decide +kernel
theorem dX16_findRings_82 : decode cX16_findRings 82 = .ok (.getfield 165, 3) := by decide +kernel
theorem dX16_findRings_85 : decode cX16_findRings 85 = .ok (.iconst 0, 1) := by decide +kernel
theorem dX16_findRings_86 : decode cX16_findRings 86 = .ok (.iastore, 1) := by decide +kernel
theorem dX16_findRings_87 : decode cX16_findRings 87 = .ok (.aload_n 0, 1) := by decide +kernel
theorem dX16_findRings_88 : decode cX16_findRings 88 = .ok (.getfield 74, 3) := by decide +kernel
theorem dX16_findRings_91 : decode cX16_findRings 91 = .ok (.iload_n 3, 1) := by decide +kernel
theorem dX16_findRings_92 : decode cX16_findRings 92 = .ok (.baload, 1) := by decide +kernel
theorem dX16_findRings_93 : decode cX16_findRings 93 = .ok (.ifCond .ne 32, 3) := by decide +kernel
theorem dX16_findRings_96 : decode cX16_findRings 96 = .ok (.aload_n 0, 1) := by decide +kernel
theorem dX16_findRings_97 : decode cX16_findRings 97 = .ok (.getfield 74, 3) := by decide +kernel
theorem dX16_findRings_100 : decode cX16_findRings 100 = .ok (.iload_n 3, 1) := by decide +kernel
theorem dX16_findRings_101 : decode cX16_findRings 101 = .ok (.iconst 1, 1) := by decide +kernel
theorem dX16_findRings_102 : decode cX16_findRings 102 = .ok (.bastore, 1) := by decide +kernel
theorem dX16_findRings_103 : decode cX16_findRings 103 = .ok (.aload_n 0, 1) := by decide +kernel
theorem dX16_findRings_104 : decode cX16_findRings 104 = .ok (.getfield 80, 3) := by decide +kernel
theorem dX16_findRings_107 : decode cX16_findRings 107 = .ok (.aload_n 0, 1) := by decide +kernel
theorem dX16_findRings_108 : decode cX16_findRings 108 = .ok (.getfield 165, 3) := by decide +kernel
theorem dX16_findRings_111 : decode cX16_findRings 111 = .ok (.dup2, 1) := by decide +kernel
theorem dX16_findRings_112 : decode cX16_findRings 112 = .ok (.iaload, 1) := by decide +kernel
theorem dX16_findRings_113 : decode cX16_findRings 113 = .ok (.iconst 1, 1) := by decide +kernel
theorem dX16_findRings_114 : decode cX16_findRings 114 = .ok (.iadd, 1) := by decide +kernel
theorem dX16_findRings_115 : decode cX16_findRings 115 = .ok (.iastore, 1) := by decide +kernel
theorem dX16_findRings_116 : decode cX16_findRings 116 = .ok (.aload_n 0, 1) := by decide +kernel
theorem dX16_findRings_117 : decode cX16_findRings 117 = .ok (.iload_n 3, 1) := by decide +kernel
theorem dX16_findRings_118 : decode cX16_findRings 118 = .ok (.invokevirtual 168, 3) := by decide +kernel
theorem dX16_findRings_121 : decode cX16_findRings 121 = .ok (.istore_n 3, 1) := by decide +kernel
theorem dX16_findRings_122 : decode cX16_findRings 122 = .ok (.goto (-35), 3) := by decide +kernel
theorem dX16_findRings_125 : decode cX16_findRings 125 = .ok (.aload_n 0, 1) := by decide +kernel
theorem dX16_findRings_126 : decode cX16_findRings 126 = .ok (.dup, 1) := by decide +kernel
theorem dX16_findRings_127 : decode cX16_findRings 127 = .ok (.getfield 165, 3) := by decide +kernel
theorem dX16_findRings_130 : decode cX16_findRings 130 = .ok (.iconst 1, 1) := by decide +kernel
theorem dX16_findRings_131 : decode cX16_findRings 131 = .ok (.iadd, 1) := by decide +kernel
theorem dX16_findRings_132 : decode cX16_findRings 132 = .ok (.putfield 165, 3) := by decide +kernel
theorem dX16_findRings_141 : decode cX16_findRings 141 = .ok (.iinc 1 1, 3) := by decide +kernel
theorem dX16_findRings_144 : decode cX16_findRings 144 = .ok (.goto (-112), 3) := by decide +kernel
theorem dX16_findRings_147 : decode cX16_findRings 147 = .ok (.return_, 1) := by decide +kernel
theorem dX16_number_0 : decode cX16_number 0 = .ok (.aload_n 0, 1) := by decide +kernel
theorem dX16_number_1 : decode cX16_number 1 = .ok (.iconst 0, 1) := by decide +kernel
theorem dX16_number_2 : decode cX16_number 2 = .ok (.putfield 171, 3) := by decide +kernel
theorem dX16_number_5 : decode cX16_number 5 = .ok (.aload_n 0, 1) := by decide +kernel
theorem dX16_number_6 : decode cX16_number 6 = .ok (.getfield 41, 3) := by decide +kernel
theorem dX16_number_9 : decode cX16_number 9 = .ok (.iconst 0, 1) := by decide +kernel
theorem dX16_number_10 : decode cX16_number 10 = .ok (.iaload, 1) := by decide +kernel
theorem dX16_number_11 : decode cX16_number 11 = .ok (.istore_n 1, 1) := by decide +kernel
theorem dX16_number_12 : decode cX16_number 12 = .ok (.iconst 0, 1) := by decide +kernel
theorem dX16_number_13 : decode cX16_number 13 = .ok (.istore_n 2, 1) := by decide +kernel
theorem dX16_number_14 : decode cX16_number 14 = .ok (.iload_n 2, 1) := by decide +kernel
theorem dX16_number_15 : decode cX16_number 15 = .ok (.sipush 1764, 3) := by decide +kernel
theorem dX16_number_18 : decode cX16_number 18 = .ok (.if_icmp .ge 17, 3) := by decide +kernel
theorem dX16_number_21 : decode cX16_number 21 = .ok (.aload_n 0, 1) := by decide +kernel
theorem dX16_number_22 : decode cX16_number 22 = .ok (.getfield 83, 3) := by decide +kernel
theorem dX16_number_25 : decode cX16_number 25 = .ok (.iload_n 2, 1) := by decide +kernel
theorem dX16_number_26 : decode cX16_number 26 = .ok (.bipush (-2), 2) := by decide +kernel
theorem dX16_number_28 : decode cX16_number 28 = .ok (.iastore, 1) := by decide +kernel
theorem dX16_number_29 : decode cX16_number 29 = .ok (.iinc 2 1, 3) := by decide +kernel
theorem dX16_number_32 : decode cX16_number 32 = .ok (.goto (-18), 3) := by decide +kernel
theorem dX16_number_35 : decode cX16_number 35 = .ok (.aload_n 0, 1) := by decide +kernel
theorem dX16_number_36 : decode cX16_number 36 = .ok (.getfield 83, 3) := by decide +kernel
theorem dX16_number_39 : decode cX16_number 39 = .ok (.iload_n 1, 1) := by decide +kernel
theorem dX16_number_40 : decode cX16_number 40 = .ok (.iconst (-1), 1) := by decide +kernel
theorem dX16_number_41 : decode cX16_number 41 = .ok (.iastore, 1) := by decide +kernel
theorem dX16_number_42 : decode cX16_number 42 = .ok (.iconst 0, 1) := by decide +kernel
theorem dX16_number_43 : decode cX16_number 43 = .ok (.istore_n 2, 1) := by decide +kernel
theorem dX16_number_44 : decode cX16_number 44 = .ok (.iload_n 2, 1) := by decide +kernel
theorem dX16_number_45 : decode cX16_number 45 = .ok (.aload_n 0, 1) := by decide +kernel
theorem dX16_number_46 : decode cX16_number 46 = .ok (.getfield 165, 3) := by decide +kernel
theorem dX16_number_49 : decode cX16_number 49 = .ok (.if_icmp .ge 51, 3) := by decide +kernel
theorem dX16_number_52 : decode cX16_number 52 = .ok (.aload_n 0, 1) := by decide +kernel
theorem dX16_number_53 : decode cX16_number 53 = .ok (.aload_n 0, 1) := by decide +kernel
theorem dX16_number_54 : decode cX16_number 54 = .ok (.getfield 77, 3) := by decide +kernel
theorem dX16_number_57 : decode cX16_number 57 = .ok (.iload_n 2, 1) := by decide +kernel
theorem dX16_number_58 : decode cX16_number 58 = .ok (.iaload, 1) := by decide +kernel
theorem dX16_number_59 : decode cX16_number 59 = .ok (.invokevirtual 153, 3) := by decide +kernel
theorem dX16_number_62 : decode cX16_number 62 = .ok (.istore_n 3, 1) := by decide +kernel
theorem dX16_number_63 : decode cX16_number 63 = .ok (.aload_n 0, 1) := by decide +kernel
theorem dX16_number_64 : decode cX16_number 64 = .ok (.getfield 83, 3) := by decide +kernel
theorem dX16_number_67 : decode cX16_number 67 = .ok (.iload_n 3, 1) := by decide +kernel
theorem dX16_number_68 : decode cX16_number 68 = .ok (.iaload, 1) := by decide +kernel
theorem dX16_number_69 : decode cX16_number 69 = .ok (.bipush (-2), 2) := by decide +kernel
theorem dX16_number_71 : decode cX16_number 71 = .ok (.if_icmp .ne 23, 3) := by decide +kernel
theorem dX16_number_94 : decode cX16_number 94 = .ok (.iinc 2 1, 3) := by decide +kernel
theorem dX16_number_97 : decode cX16_number 97 = .ok (.goto (-53), 3) := by decide +kernel
theorem dX16_number_74 : decode cX16_number 74 = .ok (.aload_n 0, 1) := by decide +kernel
theorem dX16_number_75 : decode cX16_number 75 = .ok (.getfield 83, 3) := by decide +kernel
theorem dX16_number_78 : decode cX16_number 78 = .ok (.iload_n 3, 1) := by decide +kernel
theorem dX16_number_79 : decode cX16_number 79 = .ok (.aload_n 0, 1) := by decide +kernel
theorem dX16_number_80 : decode cX16_number 80 = .ok (.getfield 171, 3) := by decide +kernel
theorem dX16_number_83 : decode cX16_number 83 = .ok (.iastore, 1) := by decide +kernel
theorem dX16_number_84 : decode cX16_number 84 = .ok (.aload_n 0, 1) := by decide +kernel
theorem dX16_number_85 : decode cX16_number 85 = .ok (.dup, 1) := by decide +kernel
theorem dX16_number_86 : decode cX16_number 86 = .ok (.getfield 171, 3) := by decide +kernel
theorem dX16_number_89 : decode cX16_number 89 = .ok (.iconst 1, 1) := by decide +kernel
theorem dX16_number_90 : decode cX16_number 90 = .ok (.iadd, 1) := by decide +kernel
theorem dX16_number_91 : decode cX16_number 91 = .ok (.putfield 171, 3) := by decide +kernel
theorem dX16_number_100 : decode cX16_number 100 = .ok (.iconst 0, 1) := by decide +kernel
theorem dX16_number_101 : decode cX16_number 101 = .ok (.istore_n 2, 1) := by decide +kernel
theorem dX16_number_102 : decode cX16_number 102 = .ok (.iload_n 2, 1) := by decide +kernel
theorem dX16_number_103 : decode cX16_number 103 = .ok (.aload_n 0, 1) := by decide +kernel
theorem dX16_number_104 : decode cX16_number 104 = .ok (.getfield 115, 3) := by decide +kernel
theorem dX16_number_107 : decode cX16_number 107 = .ok (.if_icmp .gt 52, 3) := by decide +kernel
theorem dX16_number_110 : decode cX16_number 110 = .ok (.iconst 0, 1) := by decide +kernel
theorem dX16_number_111 : decode cX16_number 111 = .ok (.istore_n 3, 1) := by decide +kernel
theorem dX16_number_112 : decode cX16_number 112 = .ok (.iload_n 3, 1) := by decide +kernel
theorem dX16_number_113 : decode cX16_number 113 = .ok (.aload_n 0, 1) := by decide +kernel
theorem dX16_number_114 : decode cX16_number 114 = .ok (.getfield 118, 3) := by decide +kernel
theorem dX16_number_117 : decode cX16_number 117 = .ok (.if_icmp .gt 36, 3) := by decide +kernel
theorem dX16_number_120 : decode cX16_number 120 = .ok (.aload_n 0, 1) := by decide +kernel
theorem dX16_number_121 : decode cX16_number 121 = .ok (.getfield 41, 3) := by decide +kernel
theorem dX16_number_124 : decode cX16_number 124 = .ok (.bipush 42, 2) := by decide +kernel
theorem dX16_number_126 : decode cX16_number 126 = .ok (.iload_n 2, 1) := by decide +kernel
theorem dX16_number_127 : decode cX16_number 127 = .ok (.imul, 1) := by decide +kernel
theorem dX16_number_128 : decode cX16_number 128 = .ok (.iload_n 3, 1) := by decide +kernel
theorem dX16_number_129 : decode cX16_number 129 = .ok (.iadd, 1) := by decide +kernel
theorem dX16_number_130 : decode cX16_number 130 = .ok (.aload_n 0, 1) := by decide +kernel
theorem dX16_number_131 : decode cX16_number 131 = .ok (.getfield 83, 3) := by decide +kernel
theorem dX16_number_134 : decode cX16_number 134 = .ok (.aload_n 0, 1) := by decide +kernel
theorem dX16_number_135 : decode cX16_number 135 = .ok (.getfield 41, 3) := by decide +kernel
theorem dX16_number_138 : decode cX16_number 138 = .ok (.bipush 42, 2) := by decide +kernel
theorem dX16_number_140 : decode cX16_number 140 = .ok (.iload_n 2, 1) := by decide +kernel
theorem dX16_number_141 : decode cX16_number 141 = .ok (.imul, 1) := by decide +kernel
theorem dX16_number_142 : decode cX16_number 142 = .ok (.iload_n 3, 1) := by decide +kernel
theorem dX16_number_143 : decode cX16_number 143 = .ok (.iadd, 1) := by decide +kernel
theorem dX16_number_144 : decode cX16_number 144 = .ok (.iaload, 1) := by decide +kernel
theorem dX16_number_145 : decode cX16_number 145 = .ok (.iaload, 1) := by decide +kernel
theorem dX16_number_146 : decode cX16_number 146 = .ok (.iastore, 1) := by decide +kernel
theorem dX16_number_147 : decode cX16_number 147 = .ok (.iinc 3 1, 3) := by decide +kernel
theorem dX16_number_150 : decode cX16_number 150 = .ok (.goto (-38), 3) := by decide +kernel
theorem dX16_number_153 : decode cX16_number 153 = .ok (.iinc 2 1, 3) := by decide +kernel
theorem dX16_number_156 : decode cX16_number 156 = .ok (.goto (-54), 3) := by decide +kernel
theorem dX16_number_159 : decode cX16_number 159 = .ok (.return_, 1) := by decide +kernel
theorem dX16_turn_0 : decode cX16_turn 0 = .ok (.aload_n 0, 1) := by decide +kernel
theorem dX16_turn_1 : decode cX16_turn 1 = .ok (.getfield 44, 3) := by decide +kernel
theorem dX16_turn_4 : decode cX16_turn 4 = .ok (.astore_n 1, 1) := by decide +kernel
theorem dX16_turn_5 : decode cX16_turn 5 = .ok (.aload_n 0, 1) := by decide +kernel
theorem dX16_turn_6 : decode cX16_turn 6 = .ok (.aload_n 0, 1) := by decide +kernel
theorem dX16_turn_7 : decode cX16_turn 7 = .ok (.getfield 35, 3) := by decide +kernel
theorem dX16_turn_10 : decode cX16_turn 10 = .ok (.putfield 44, 3) := by decide +kernel
theorem dX16_turn_13 : decode cX16_turn 13 = .ok (.aload_n 0, 1) := by decide +kernel
theorem dX16_turn_14 : decode cX16_turn 14 = .ok (.aload_n 1, 1) := by decide +kernel
theorem dX16_turn_15 : decode cX16_turn 15 = .ok (.putfield 35, 3) := by decide +kernel
theorem dX16_turn_18 : decode cX16_turn 18 = .ok (.aload_n 0, 1) := by decide +kernel
theorem dX16_turn_19 : decode cX16_turn 19 = .ok (.getfield 47, 3) := by decide +kernel
theorem dX16_turn_22 : decode cX16_turn 22 = .ok (.astore_n 1, 1) := by decide +kernel
theorem dX16_turn_23 : decode cX16_turn 23 = .ok (.aload_n 0, 1) := by decide +kernel
theorem dX16_turn_24 : decode cX16_turn 24 = .ok (.aload_n 0, 1) := by decide +kernel
theorem dX16_turn_25 : decode cX16_turn 25 = .ok (.getfield 38, 3) := by decide +kernel
theorem dX16_turn_28 : decode cX16_turn 28 = .ok (.putfield 47, 3) := by decide +kernel
theorem dX16_turn_31 : decode cX16_turn 31 = .ok (.aload_n 0, 1) := by decide +kernel
theorem dX16_turn_32 : decode cX16_turn 32 = .ok (.aload_n 1, 1) := by decide +kernel
theorem dX16_turn_33 : decode cX16_turn 33 = .ok (.putfield 38, 3) := by decide +kernel
theorem dX16_turn_36 : decode cX16_turn 36 = .ok (.aload_n 0, 1) := by decide +kernel
theorem dX16_turn_37 : decode cX16_turn 37 = .ok (.getfield 50, 3) := by decide +kernel
theorem dX16_turn_40 : decode cX16_turn 40 = .ok (.astore_n 1, 1) := by decide +kernel
theorem dX16_turn_41 : decode cX16_turn 41 = .ok (.aload_n 0, 1) := by decide +kernel
theorem dX16_turn_42 : decode cX16_turn 42 = .ok (.aload_n 0, 1) := by decide +kernel
theorem dX16_turn_43 : decode cX16_turn 43 = .ok (.getfield 41, 3) := by decide +kernel
theorem dX16_turn_46 : decode cX16_turn 46 = .ok (.putfield 50, 3) := by decide +kernel
theorem dX16_turn_49 : decode cX16_turn 49 = .ok (.aload_n 0, 1) := by decide +kernel
theorem dX16_turn_50 : decode cX16_turn 50 = .ok (.aload_n 1, 1) := by decide +kernel
theorem dX16_turn_51 : decode cX16_turn 51 = .ok (.putfield 41, 3) := by decide +kernel
theorem dX16_turn_54 : decode cX16_turn 54 = .ok (.aload_n 0, 1) := by decide +kernel
theorem dX16_turn_55 : decode cX16_turn 55 = .ok (.getfield 56, 3) := by decide +kernel
theorem dX16_turn_58 : decode cX16_turn 58 = .ok (.astore_n 1, 1) := by decide +kernel
theorem dX16_turn_59 : decode cX16_turn 59 = .ok (.aload_n 0, 1) := by decide +kernel
theorem dX16_turn_60 : decode cX16_turn 60 = .ok (.aload_n 0, 1) := by decide +kernel
theorem dX16_turn_61 : decode cX16_turn 61 = .ok (.getfield 53, 3) := by decide +kernel
theorem dX16_turn_64 : decode cX16_turn 64 = .ok (.putfield 56, 3) := by decide +kernel
theorem dX16_turn_67 : decode cX16_turn 67 = .ok (.aload_n 0, 1) := by decide +kernel
theorem dX16_turn_68 : decode cX16_turn 68 = .ok (.aload_n 1, 1) := by decide +kernel
theorem dX16_turn_69 : decode cX16_turn 69 = .ok (.putfield 53, 3) := by decide +kernel
theorem dX16_turn_72 : decode cX16_turn 72 = .ok (.aload_n 0, 1) := by decide +kernel
theorem dX16_turn_73 : decode cX16_turn 73 = .ok (.aload_n 0, 1) := by decide +kernel
theorem dX16_turn_74 : decode cX16_turn 74 = .ok (.getfield 118, 3) := by decide +kernel
theorem dX16_turn_77 : decode cX16_turn 77 = .ok (.putfield 174, 3) := by decide +kernel
theorem dX16_turn_80 : decode cX16_turn 80 = .ok (.aload_n 0, 1) := by decide +kernel
theorem dX16_turn_81 : decode cX16_turn 81 = .ok (.aload_n 0, 1) := by decide +kernel
theorem dX16_turn_82 : decode cX16_turn 82 = .ok (.getfield 115, 3) := by decide +kernel
theorem dX16_turn_85 : decode cX16_turn 85 = .ok (.putfield 177, 3) := by decide +kernel
theorem dX16_turn_88 : decode cX16_turn 88 = .ok (.aload_n 0, 1) := by decide +kernel
theorem dX16_turn_89 : decode cX16_turn 89 = .ok (.aload_n 0, 1) := by decide +kernel
theorem dX16_turn_90 : decode cX16_turn 90 = .ok (.getfield 171, 3) := by decide +kernel
theorem dX16_turn_93 : decode cX16_turn 93 = .ok (.putfield 180, 3) := by decide +kernel
theorem dX16_turn_96 : decode cX16_turn 96 = .ok (.aload_n 0, 1) := by decide +kernel
theorem dX16_turn_97 : decode cX16_turn 97 = .ok (.aload_n 0, 1) := by decide +kernel
theorem dX16_turn_98 : decode cX16_turn 98 = .ok (.getfield 183, 3) := by decide +kernel
theorem dX16_turn_101 : decode cX16_turn 101 = .ok (.putfield 186, 3) := by decide +kernel
theorem dX16_turn_104 : decode cX16_turn 104 = .ok (.return_, 1) := by decide +kernel
theorem dX16_shared_0 : decode cX16_shared 0 = .ok (.iload_n 0, 1) := by decide +kernel
theorem dX16_shared_1 : decode cX16_shared 1 = .ok (.iload_n 2, 1) := by decide +kernel
theorem dX16_shared_2 : decode cX16_shared 2 = .ok (.if_icmp .le 7, 3) := by decide +kernel
theorem dX16_shared_9 : decode cX16_shared 9 = .ok (.iload_n 2, 1) := by decide +kernel
theorem dX16_shared_10 : decode cX16_shared 10 = .ok (.istore 4, 2) := by decide +kernel
theorem dX16_shared_12 : decode cX16_shared 12 = .ok (.iload_n 1, 1) := by decide +kernel
theorem dX16_shared_13 : decode cX16_shared 13 = .ok (.iload_n 3, 1) := by decide +kernel
theorem dX16_shared_14 : decode cX16_shared 14 = .ok (.if_icmp .ge 7, 3) := by decide +kernel
theorem dX16_shared_21 : decode cX16_shared 21 = .ok (.iload_n 3, 1) := by decide +kernel
theorem dX16_shared_22 : decode cX16_shared 22 = .ok (.istore 5, 2) := by decide +kernel
theorem dX16_shared_24 : decode cX16_shared 24 = .ok (.iload 5, 2) := by decide +kernel
theorem dX16_shared_26 : decode cX16_shared 26 = .ok (.iload 4, 2) := by decide +kernel
theorem dX16_shared_28 : decode cX16_shared 28 = .ok (.if_icmp .le 11, 3) := by decide +kernel
theorem dX16_shared_39 : decode cX16_shared 39 = .ok (.iconst 0, 1) := by decide +kernel
theorem dX16_shared_40 : decode cX16_shared 40 = .ok (.ireturn, 1) := by decide +kernel
theorem dX16_shared_31 : decode cX16_shared 31 = .ok (.iload 5, 2) := by decide +kernel
theorem dX16_shared_33 : decode cX16_shared 33 = .ok (.iload 4, 2) := by decide +kernel
theorem dX16_shared_35 : decode cX16_shared 35 = .ok (.isub, 1) := by decide +kernel
theorem dX16_shared_36 : decode cX16_shared 36 = .ok (.goto 4, 3) := by decide +kernel
theorem dX16_shared_17 : decode cX16_shared 17 = .ok (.iload_n 1, 1) := by decide +kernel
theorem dX16_shared_18 : decode cX16_shared 18 = .ok (.goto 4, 3) := by decide +kernel
theorem dX16_shared_5 : decode cX16_shared 5 = .ok (.iload_n 0, 1) := by decide +kernel
theorem dX16_shared_6 : decode cX16_shared 6 = .ok (.goto 4, 3) := by decide +kernel
theorem dX16_common_0 : decode cX16_common 0 = .ok (.iconst 0, 1) := by decide +kernel
theorem dX16_common_1 : decode cX16_common 1 = .ok (.istore_n 3, 1) := by decide +kernel
theorem dX16_common_2 : decode cX16_common 2 = .ok (.iconst 1, 1) := by decide +kernel
theorem dX16_common_3 : decode cX16_common 3 = .ok (.istore 4, 2) := by decide +kernel
theorem dX16_common_5 : decode cX16_common 5 = .ok (.iload 4, 2) := by decide +kernel
theorem dX16_common_7 : decode cX16_common 7 = .ok (.aload_n 0, 1) := by decide +kernel
theorem dX16_common_8 : decode cX16_common 8 = .ok (.getfield 115, 3) := by decide +kernel
theorem dX16_common_11 : decode cX16_common 11 = .ok (.if_icmp .ge 184, 3) := by decide +kernel
theorem dX16_common_14 : decode cX16_common 14 = .ok (.iconst 1, 1) := by decide +kernel
theorem dX16_common_15 : decode cX16_common 15 = .ok (.istore 5, 2) := by decide +kernel
theorem dX16_common_17 : decode cX16_common 17 = .ok (.iload 5, 2) := by decide +kernel
theorem dX16_common_19 : decode cX16_common 19 = .ok (.aload_n 0, 1) := by decide +kernel
theorem dX16_common_20 : decode cX16_common 20 = .ok (.getfield 118, 3) := by decide +kernel
theorem dX16_common_23 : decode cX16_common 23 = .ok (.if_icmp .ge 166, 3) := by decide +kernel
theorem dX16_common_26 : decode cX16_common 26 = .ok (.iconst 1, 1) := by decide +kernel
theorem dX16_common_27 : decode cX16_common 27 = .ok (.istore 6, 2) := by decide +kernel
theorem dX16_common_29 : decode cX16_common 29 = .ok (.iload 6, 2) := by decide +kernel
theorem dX16_common_31 : decode cX16_common 31 = .ok (.aload_n 0, 1) := by decide +kernel
theorem dX16_common_32 : decode cX16_common 32 = .ok (.getfield 177, 3) := by decide +kernel
theorem dX16_common_35 : decode cX16_common 35 = .ok (.if_icmp .ge 148, 3) := by decide +kernel
theorem dX16_common_38 : decode cX16_common 38 = .ok (.aload_n 0, 1) := by decide +kernel
theorem dX16_common_39 : decode cX16_common 39 = .ok (.getfield 41, 3) := by decide +kernel
theorem dX16_common_42 : decode cX16_common 42 = .ok (.bipush 42, 2) := by decide +kernel
theorem dX16_common_44 : decode cX16_common 44 = .ok (.iload 4, 2) := by decide +kernel
theorem dX16_common_46 : decode cX16_common 46 = .ok (.imul, 1) := by decide +kernel
theorem dX16_common_47 : decode cX16_common 47 = .ok (.iload 5, 2) := by decide +kernel
theorem dX16_common_49 : decode cX16_common 49 = .ok (.iadd, 1) := by decide +kernel
theorem dX16_common_50 : decode cX16_common 50 = .ok (.iaload, 1) := by decide +kernel
theorem dX16_common_51 : decode cX16_common 51 = .ok (.iload_n 2, 1) := by decide +kernel
theorem dX16_common_52 : decode cX16_common 52 = .ok (.if_icmp .ne 131, 3) := by decide +kernel
theorem dX16_common_55 : decode cX16_common 55 = .ok (.aload_n 0, 1) := by decide +kernel
theorem dX16_common_56 : decode cX16_common 56 = .ok (.getfield 38, 3) := by decide +kernel
theorem dX16_common_59 : decode cX16_common 59 = .ok (.iload 4, 2) := by decide +kernel
theorem dX16_common_61 : decode cX16_common 61 = .ok (.iconst 1, 1) := by decide +kernel
theorem dX16_common_62 : decode cX16_common 62 = .ok (.isub, 1) := by decide +kernel
theorem dX16_common_63 : decode cX16_common 63 = .ok (.iaload, 1) := by decide +kernel
theorem dX16_common_64 : decode cX16_common 64 = .ok (.aload_n 0, 1) := by decide +kernel
theorem dX16_common_65 : decode cX16_common 65 = .ok (.getfield 38, 3) := by decide +kernel
theorem dX16_common_68 : decode cX16_common 68 = .ok (.iload 4, 2) := by decide +kernel
theorem dX16_common_70 : decode cX16_common 70 = .ok (.iaload, 1) := by decide +kernel
theorem dX16_common_71 : decode cX16_common 71 = .ok (.aload_n 0, 1) := by decide +kernel
theorem dX16_common_72 : decode cX16_common 72 = .ok (.getfield 47, 3) := by decide +kernel
theorem dX16_common_75 : decode cX16_common 75 = .ok (.iload 6, 2) := by decide +kernel
theorem dX16_common_77 : decode cX16_common 77 = .ok (.iconst 1, 1) := by decide +kernel
theorem dX16_common_78 : decode cX16_common 78 = .ok (.isub, 1) := by decide +kernel
theorem dX16_common_79 : decode cX16_common 79 = .ok (.iaload, 1) := by decide +kernel
theorem dX16_common_80 : decode cX16_common 80 = .ok (.aload_n 0, 1) := by decide +kernel
theorem dX16_common_81 : decode cX16_common 81 = .ok (.getfield 47, 3) := by decide +kernel
theorem dX16_common_84 : decode cX16_common 84 = .ok (.iload 6, 2) := by decide +kernel
theorem dX16_common_86 : decode cX16_common 86 = .ok (.iaload, 1) := by decide +kernel
theorem dX16_common_87 : decode cX16_common 87 = .ok (.invokestatic 214, 3) := by decide +kernel
theorem dX16_common_90 : decode cX16_common 90 = .ok (.istore 7, 2) := by decide +kernel
theorem dX16_common_92 : decode cX16_common 92 = .ok (.iconst 1, 1) := by decide +kernel
theorem dX16_common_93 : decode cX16_common 93 = .ok (.istore 8, 2) := by decide +kernel
theorem dX16_common_95 : decode cX16_common 95 = .ok (.iload 8, 2) := by decide +kernel
theorem dX16_common_97 : decode cX16_common 97 = .ok (.aload_n 0, 1) := by decide +kernel
theorem dX16_common_98 : decode cX16_common 98 = .ok (.getfield 174, 3) := by decide +kernel
theorem dX16_common_101 : decode cX16_common 101 = .ok (.if_icmp .ge 76, 3) := by decide +kernel
theorem dX16_common_104 : decode cX16_common 104 = .ok (.iload 7, 2) := by decide +kernel
theorem dX16_common_106 : decode cX16_common 106 = .ok (.ifCond .le 71, 3) := by decide +kernel
theorem dX16_common_109 : decode cX16_common 109 = .ok (.iload_n 3, 1) := by decide +kernel
theorem dX16_common_110 : decode cX16_common 110 = .ok (.aload_n 0, 1) := by decide +kernel
theorem dX16_common_111 : decode cX16_common 111 = .ok (.getfield 50, 3) := by decide +kernel
theorem dX16_common_114 : decode cX16_common 114 = .ok (.bipush 42, 2) := by decide +kernel
theorem dX16_common_116 : decode cX16_common 116 = .ok (.iload 6, 2) := by decide +kernel
theorem dX16_common_118 : decode cX16_common 118 = .ok (.imul, 1) := by decide +kernel
theorem dX16_common_119 : decode cX16_common 119 = .ok (.iload 8, 2) := by decide +kernel
theorem dX16_common_121 : decode cX16_common 121 = .ok (.iadd, 1) := by decide +kernel
theorem dX16_common_122 : decode cX16_common 122 = .ok (.iaload, 1) := by decide +kernel
theorem dX16_common_123 : decode cX16_common 123 = .ok (.iload_n 1, 1) := by decide +kernel
theorem dX16_common_124 : decode cX16_common 124 = .ok (.if_icmp .ne 44, 3) := by decide +kernel
theorem dX16_common_168 : decode cX16_common 168 = .ok (.iconst 0, 1) := by decide +kernel
theorem dX16_common_169 : decode cX16_common 169 = .ok (.iadd, 1) := by decide +kernel
theorem dX16_common_170 : decode cX16_common 170 = .ok (.istore_n 3, 1) := by decide +kernel
theorem dX16_common_171 : decode cX16_common 171 = .ok (.iinc 8 1, 3) := by decide +kernel
theorem dX16_common_174 : decode cX16_common 174 = .ok (.goto (-79), 3) := by decide +kernel
theorem dX16_common_127 : decode cX16_common 127 = .ok (.iload 7, 2) := by decide +kernel
theorem dX16_common_129 : decode cX16_common 129 = .ok (.aload_n 0, 1) := by decide +kernel
theorem dX16_common_130 : decode cX16_common 130 = .ok (.getfield 35, 3) := by decide +kernel
theorem dX16_common_133 : decode cX16_common 133 = .ok (.iload 5, 2) := by decide +kernel
theorem dX16_common_135 : decode cX16_common 135 = .ok (.iconst 1, 1) := by decide +kernel
theorem dX16_common_136 : decode cX16_common 136 = .ok (.isub, 1) := by decide +kernel
theorem dX16_common_137 : decode cX16_common 137 = .ok (.iaload, 1) := by decide +kernel
theorem dX16_common_138 : decode cX16_common 138 = .ok (.aload_n 0, 1) := by decide +kernel
theorem dX16_common_139 : decode cX16_common 139 = .ok (.getfield 35, 3) := by decide +kernel
theorem dX16_common_142 : decode cX16_common 142 = .ok (.iload 5, 2) := by decide +kernel
theorem dX16_common_144 : decode cX16_common 144 = .ok (.iaload, 1) := by decide +kernel
theorem dX16_common_145 : decode cX16_common 145 = .ok (.aload_n 0, 1) := by decide +kernel
theorem dX16_common_146 : decode cX16_common 146 = .ok (.getfield 44, 3) := by decide +kernel
theorem dX16_common_149 : decode cX16_common 149 = .ok (.iload 8, 2) := by decide +kernel
theorem dX16_common_151 : decode cX16_common 151 = .ok (.iconst 1, 1) := by decide +kernel
theorem dX16_common_152 : decode cX16_common 152 = .ok (.isub, 1) := by decide +kernel
theorem dX16_common_153 : decode cX16_common 153 = .ok (.iaload, 1) := by decide +kernel
theorem dX16_common_154 : decode cX16_common 154 = .ok (.aload_n 0, 1) := by decide +kernel
theorem dX16_common_155 : decode cX16_common 155 = .ok (.getfield 44, 3) := by decide +kernel
theorem dX16_common_158 : decode cX16_common 158 = .ok (.iload 8, 2) := by decide +kernel
theorem dX16_common_160 : decode cX16_common 160 = .ok (.iaload, 1) := by decide +kernel
theorem dX16_common_161 : decode cX16_common 161 = .ok (.invokestatic 214, 3) := by decide +kernel
theorem dX16_common_164 : decode cX16_common 164 = .ok (.imul, 1) := by decide +kernel
theorem dX16_common_165 : decode cX16_common 165 = .ok (.goto 4, 3) := by decide +kernel
theorem dX16_common_177 : decode cX16_common 177 = .ok (.iinc 6 1, 3) := by decide +kernel
theorem dX16_common_180 : decode cX16_common 180 = .ok (.goto (-151), 3) := by decide +kernel
theorem dX16_common_183 : decode cX16_common 183 = .ok (.iinc 5 1, 3) := by decide +kernel
theorem dX16_common_186 : decode cX16_common 186 = .ok (.goto (-169), 3) := by decide +kernel
theorem dX16_common_189 : decode cX16_common 189 = .ok (.iinc 4 1, 3) := by decide +kernel
theorem dX16_common_192 : decode cX16_common 192 = .ok (.goto (-187), 3) := by decide +kernel
theorem dX16_common_195 : decode cX16_common 195 = .ok (.iload_n 3, 1) := by decide +kernel
theorem dX16_common_196 : decode cX16_common 196 = .ok (.ireturn, 1) := by decide +kernel
theorem dX16_carry_0 : decode cX16_carry 0 = .ok (.iconst 0, 1) := by decide +kernel
theorem dX16_carry_1 : decode cX16_carry 1 = .ok (.istore_n 1, 1) := by decide +kernel
theorem dX16_carry_2 : decode cX16_carry 2 = .ok (.iload_n 1, 1) := by decide +kernel
theorem dX16_carry_3 : decode cX16_carry 3 = .ok (.aload_n 0, 1) := by decide +kernel
theorem dX16_carry_4 : decode cX16_carry 4 = .ok (.getfield 171, 3) := by decide +kernel
theorem dX16_carry_7 : decode cX16_carry 7 = .ok (.if_icmp .ge 16, 3) := by decide +kernel
theorem dX16_carry_10 : decode cX16_carry 10 = .ok (.aload_n 0, 1) := by decide +kernel
theorem dX16_carry_11 : decode cX16_carry 11 = .ok (.getfield 86, 3) := by decide +kernel
theorem dX16_carry_14 : decode cX16_carry 14 = .ok (.iload_n 1, 1) := by decide +kernel
theorem dX16_carry_15 : decode cX16_carry 15 = .ok (.iconst 0, 1) := by decide +kernel
theorem dX16_carry_16 : decode cX16_carry 16 = .ok (.iastore, 1) := by decide +kernel
theorem dX16_carry_17 : decode cX16_carry 17 = .ok (.iinc 1 1, 3) := by decide +kernel
theorem dX16_carry_20 : decode cX16_carry 20 = .ok (.goto (-18), 3) := by decide +kernel
theorem dX16_carry_23 : decode cX16_carry 23 = .ok (.iconst 0, 1) := by decide +kernel
theorem dX16_carry_24 : decode cX16_carry 24 = .ok (.istore_n 1, 1) := by decide +kernel
theorem dX16_carry_25 : decode cX16_carry 25 = .ok (.iload_n 1, 1) := by decide +kernel
theorem dX16_carry_26 : decode cX16_carry 26 = .ok (.aload_n 0, 1) := by decide +kernel
theorem dX16_carry_27 : decode cX16_carry 27 = .ok (.getfield 180, 3) := by decide +kernel
theorem dX16_carry_30 : decode cX16_carry 30 = .ok (.if_icmp .ge 108, 3) := by decide +kernel
theorem dX16_carry_33 : decode cX16_carry 33 = .ok (.iconst (-1), 1) := by decide +kernel
theorem dX16_carry_34 : decode cX16_carry 34 = .ok (.istore_n 2, 1) := by decide +kernel
theorem dX16_carry_35 : decode cX16_carry 35 = .ok (.iconst 0, 1) := by decide +kernel
theorem dX16_carry_36 : decode cX16_carry 36 = .ok (.istore_n 3, 1) := by decide +kernel
theorem dX16_carry_37 : decode cX16_carry 37 = .ok (.iconst 0, 1) := by decide +kernel
theorem dX16_carry_38 : decode cX16_carry 38 = .ok (.istore 4, 2) := by decide +kernel
theorem dX16_carry_40 : decode cX16_carry 40 = .ok (.iload 4, 2) := by decide +kernel
theorem dX16_carry_42 : decode cX16_carry 42 = .ok (.aload_n 0, 1) := by decide +kernel
theorem dX16_carry_43 : decode cX16_carry 43 = .ok (.getfield 171, 3) := by decide +kernel
theorem dX16_carry_46 : decode cX16_carry 46 = .ok (.if_icmp .ge 53, 3) := by decide +kernel
theorem dX16_carry_49 : decode cX16_carry 49 = .ok (.aload_n 0, 1) := by decide +kernel
theorem dX16_carry_50 : decode cX16_carry 50 = .ok (.getfield 56, 3) := by decide +kernel
theorem dX16_carry_53 : decode cX16_carry 53 = .ok (.iload_n 1, 1) := by decide +kernel
theorem dX16_carry_54 : decode cX16_carry 54 = .ok (.iaload, 1) := by decide +kernel
theorem dX16_carry_55 : decode cX16_carry 55 = .ok (.ifCond .le 44, 3) := by decide +kernel
theorem dX16_carry_58 : decode cX16_carry 58 = .ok (.aload_n 0, 1) := by decide +kernel
theorem dX16_carry_59 : decode cX16_carry 59 = .ok (.iload_n 1, 1) := by decide +kernel
theorem dX16_carry_60 : decode cX16_carry 60 = .ok (.iload 4, 2) := by decide +kernel
theorem dX16_carry_62 : decode cX16_carry 62 = .ok (.invokevirtual 218, 3) := by decide +kernel
theorem dX16_carry_65 : decode cX16_carry 65 = .ok (.istore 5, 2) := by decide +kernel
theorem dX16_carry_67 : decode cX16_carry 67 = .ok (.iload 5, 2) := by decide +kernel
theorem dX16_carry_69 : decode cX16_carry 69 = .ok (.iload_n 3, 1) := by decide +kernel
theorem dX16_carry_70 : decode cX16_carry 70 = .ok (.if_icmp .le 8, 3) := by decide +kernel
theorem dX16_carry_78 : decode cX16_carry 78 = .ok (.iload_n 2, 1) := by decide +kernel
theorem dX16_carry_79 : decode cX16_carry 79 = .ok (.istore_n 2, 1) := by decide +kernel
theorem dX16_carry_80 : decode cX16_carry 80 = .ok (.iload 5, 2) := by decide +kernel
theorem dX16_carry_82 : decode cX16_carry 82 = .ok (.iload_n 3, 1) := by decide +kernel
theorem dX16_carry_83 : decode cX16_carry 83 = .ok (.if_icmp .le 8, 3) := by decide +kernel
theorem dX16_carry_91 : decode cX16_carry 91 = .ok (.iload_n 3, 1) := by decide +kernel
theorem dX16_carry_92 : decode cX16_carry 92 = .ok (.istore_n 3, 1) := by decide +kernel
theorem dX16_carry_93 : decode cX16_carry 93 = .ok (.iinc 4 1, 3) := by decide +kernel
theorem dX16_carry_96 : decode cX16_carry 96 = .ok (.goto (-56), 3) := by decide +kernel
theorem dX16_carry_86 : decode cX16_carry 86 = .ok (.iload 5, 2) := by decide +kernel
theorem dX16_carry_88 : decode cX16_carry 88 = .ok (.goto 4, 3) := by decide +kernel
theorem dX16_carry_73 : decode cX16_carry 73 = .ok (.iload 4, 2) := by decide +kernel
theorem dX16_carry_75 : decode cX16_carry 75 = .ok (.goto 4, 3) := by decide +kernel
theorem dX16_carry_99 : decode cX16_carry 99 = .ok (.iload_n 2, 1) := by decide +kernel
theorem dX16_carry_100 : decode cX16_carry 100 = .ok (.ifCond .lt 32, 3) := by decide +kernel
theorem dX16_carry_132 : decode cX16_carry 132 = .ok (.iinc 1 1, 3) := by decide +kernel
theorem dX16_carry_135 : decode cX16_carry 135 = .ok (.goto (-110), 3) := by decide +kernel
theorem dX16_carry_103 : decode cX16_carry 103 = .ok (.iload_n 3, 1) := by decide +kernel
theorem dX16_carry_104 : decode cX16_carry 104 = .ok (.aload_n 0, 1) := by decide +kernel
theorem dX16_carry_105 : decode cX16_carry 105 = .ok (.getfield 86, 3) := by decide +kernel
theorem dX16_carry_108 : decode cX16_carry 108 = .ok (.iload_n 2, 1) := by decide +kernel
theorem dX16_carry_109 : decode cX16_carry 109 = .ok (.iaload, 1) := by decide +kernel
theorem dX16_carry_110 : decode cX16_carry 110 = .ok (.if_icmp .le 22, 3) := by decide +kernel
theorem dX16_carry_113 : decode cX16_carry 113 = .ok (.aload_n 0, 1) := by decide +kernel
theorem dX16_carry_114 : decode cX16_carry 114 = .ok (.getfield 86, 3) := by decide +kernel
theorem dX16_carry_117 : decode cX16_carry 117 = .ok (.iload_n 2, 1) := by decide +kernel
theorem dX16_carry_118 : decode cX16_carry 118 = .ok (.iload_n 3, 1) := by decide +kernel
theorem dX16_carry_119 : decode cX16_carry 119 = .ok (.iastore, 1) := by decide +kernel
theorem dX16_carry_120 : decode cX16_carry 120 = .ok (.aload_n 0, 1) := by decide +kernel
theorem dX16_carry_121 : decode cX16_carry 121 = .ok (.getfield 53, 3) := by decide +kernel
theorem dX16_carry_124 : decode cX16_carry 124 = .ok (.iload_n 2, 1) := by decide +kernel
theorem dX16_carry_125 : decode cX16_carry 125 = .ok (.aload_n 0, 1) := by decide +kernel
theorem dX16_carry_126 : decode cX16_carry 126 = .ok (.getfield 56, 3) := by decide +kernel
theorem dX16_carry_129 : decode cX16_carry 129 = .ok (.iload_n 1, 1) := by decide +kernel
theorem dX16_carry_130 : decode cX16_carry 130 = .ok (.iaload, 1) := by decide +kernel
theorem dX16_carry_131 : decode cX16_carry 131 = .ok (.iastore, 1) := by decide +kernel
theorem dX16_carry_138 : decode cX16_carry 138 = .ok (.return_, 1) := by decide +kernel
theorem zl_X16_38 : zm_F zk_E RX16 38 16 15 := ⟨RX16, TX16, 40, rfl, zk_i16, by decide, zk_b13 94 (by decide +kernel) rfl⟩
theorem zl_X16_118 : zm_F zk_E RX16 118 16 12 := ⟨RX16, TX16, 40, rfl, zk_i16, by decide, zk_b13 91 (by decide +kernel) rfl⟩
theorem zl_X16_35 : zm_F zk_E RX16 35 16 14 := ⟨RX16, TX16, 40, rfl, zk_i16, by decide, zk_b13 93 (by decide +kernel) rfl⟩
theorem zl_X16_115 : zm_F zk_E RX16 115 16 13 := ⟨RX16, TX16, 40, rfl, zk_i16, by decide, zk_b13 92 (by decide +kernel) rfl⟩
theorem zl_X16_41 : zm_F zk_E RX16 41 16 16 := ⟨RX16, TX16, 40, rfl, zk_i16, by decide, zk_b13 95 (by decide +kernel) rfl⟩
theorem zl_X16_121 : zm_L zk_E RX16 121 yX16_isShut (.code yX16_isShut cX16_isShut 9 (some .boolean)) 3 ∧ Cond.instanceMethod yX16_isShut ∈ zk_E.2.2.1 ∧ Cond.selects yX16_isShut.cls yX16_isShut yX16_isShut ∈ zk_E.2.2.1 := ⟨⟨zk_b17 57 (by decide +kernel) rfl, zk_b1 14 (by decide +kernel) rfl, zk_b17 54 (by decide +kernel) rfl, by decide +kernel, by decide +kernel, by decide +kernel⟩, zk_b17 56 (by decide +kernel) rfl, zk_s11 (q := (yX16_isShut, 40)) 15 (by decide +kernel)⟩
theorem zl_X16_125 : zm_L zk_E RX16 125 yX16_join (.code yX16_join cX16_join 5 (some .boolean)) 2 ∧ Cond.instanceMethod yX16_join ∈ zk_E.2.2.1 ∧ Cond.selects yX16_join.cls yX16_join yX16_join ∈ zk_E.2.2.1 := ⟨⟨zk_b17 61 (by decide +kernel) rfl, zk_b1 14 (by decide +kernel) rfl, zk_b17 58 (by decide +kernel) rfl, by decide +kernel, by decide +kernel, by decide +kernel⟩, zk_b17 60 (by decide +kernel) rfl, zk_s12 (q := (yX16_join, 40)) 0 (by decide +kernel)⟩
theorem zl_X16_129 : zm_F zk_E RX16 129 16 27 := ⟨RX16, TX16, 40, rfl, zk_i16, by decide, zk_b13 109 (by decide +kernel) rfl⟩
theorem zl_X16_59 : zm_F zk_E RX16 59 16 28 := ⟨RX16, TX16, 40, rfl, zk_i16, by decide, zk_b13 110 (by decide +kernel) rfl⟩
theorem zl_X16_62 : zm_F zk_E RX16 62 16 29 := ⟨RX16, TX16, 40, rfl, zk_i16, by decide, zk_b13 111 (by decide +kernel) rfl⟩
theorem zl_X16_132 : zm_L zk_E RX16 132 yX16_pointAt (.code yX16_pointAt cX16_pointAt 4 (some .int)) 2 ∧ Cond.instanceMethod yX16_pointAt ∈ zk_E.2.2.1 ∧ Cond.selects yX16_pointAt.cls yX16_pointAt yX16_pointAt ∈ zk_E.2.2.1 := ⟨⟨zk_b17 73 (by decide +kernel) rfl, zk_b1 14 (by decide +kernel) rfl, zk_b17 70 (by decide +kernel) rfl, by decide +kernel, by decide +kernel, by decide +kernel⟩, zk_b17 72 (by decide +kernel) rfl, zk_s12 (q := (yX16_pointAt, 40)) 3 (by decide +kernel)⟩
theorem zt_16_27 : zm_T zk_E RX16 16 27 .int false := ⟨RX16, TX16, 40, tyX16, rfl, tyX16_ok, nmX16, rfl, rfl, rfl⟩
theorem zl_X16_135 : zm_L zk_E RX16 135 yX16_point (.code yX16_point cX16_point 4 none) 2 ∧ Cond.instanceMethod yX16_point ∈ zk_E.2.2.1 ∧ Cond.selects yX16_point.cls yX16_point yX16_point ∈ zk_E.2.2.1 := ⟨⟨zk_b17 69 (by decide +kernel) rfl, zk_b1 14 (by decide +kernel) rfl, zk_b17 66 (by decide +kernel) rfl, by decide +kernel, by decide +kernel, by decide +kernel⟩, zk_b17 68 (by decide +kernel) rfl, zk_s12 (q := (yX16_point, 40)) 2 (by decide +kernel)⟩
theorem zl_X16_139 : zm_L zk_E RX16 139 yX16_isOn (.code yX16_isOn cX16_isOn 4 (some .boolean)) 3 ∧ Cond.instanceMethod yX16_isOn ∈ zk_E.2.2.1 ∧ Cond.selects yX16_isOn.cls yX16_isOn yX16_isOn ∈ zk_E.2.2.1 := ⟨⟨zk_b17 77 (by decide +kernel) rfl, zk_b1 14 (by decide +kernel) rfl, zk_b17 74 (by decide +kernel) rfl, by decide +kernel, by decide +kernel, by decide +kernel⟩, zk_b17 76 (by decide +kernel) rfl, zk_s12 (q := (yX16_isOn, 40)) 4 (by decide +kernel)⟩
theorem zl_X16_143 : zm_F zk_E RX16 143 16 30 := ⟨RX16, TX16, 40, rfl, zk_i16, by decide, zk_b13 113 (by decide +kernel) rfl⟩
theorem zt_16_30 : zm_T zk_E RX16 16 30 .int false := ⟨RX16, TX16, 40, tyX16, rfl, tyX16_ok, nmX16, rfl, rfl, rfl⟩
theorem zl_X16_65 : zm_F zk_E RX16 65 16 31 := ⟨RX16, TX16, 40, rfl, zk_i16, by decide, zk_b13 114 (by decide +kernel) rfl⟩
theorem zl_X16_68 : zm_F zk_E RX16 68 16 32 := ⟨RX16, TX16, 40, rfl, zk_i16, by decide, zk_b13 115 (by decide +kernel) rfl⟩
theorem zl_X16_71 : zm_F zk_E RX16 71 16 33 := ⟨RX16, TX16, 40, rfl, zk_i16, by decide, zk_b13 116 (by decide +kernel) rfl⟩
theorem zl_X16_146 : zm_L zk_E RX16 146 yX16_indexOf (.code yX16_indexOf cX16_indexOf 3 (some .int)) 2 ∧ Cond.static yX16_indexOf ∈ zk_E.2.2.1 := ⟨⟨zk_b17 112 (by decide +kernel) rfl, zk_b1 14 (by decide +kernel) rfl, zk_b17 110 (by decide +kernel) rfl, by decide +kernel, by decide +kernel, by decide +kernel⟩, zk_b17 111 (by decide +kernel) rfl⟩
theorem zl_X16_150 : zm_L zk_E RX16 150 yX16_sideWay (.code yX16_sideWay cX16_sideWay 2 (some .int)) 1 ∧ Cond.instanceMethod yX16_sideWay ∈ zk_E.2.2.1 ∧ Cond.selects yX16_sideWay.cls yX16_sideWay yX16_sideWay ∈ zk_E.2.2.1 := ⟨⟨zk_b17 93 (by decide +kernel) rfl, zk_b1 14 (by decide +kernel) rfl, zk_b17 90 (by decide +kernel) rfl, by decide +kernel, by decide +kernel, by decide +kernel⟩, zk_b17 92 (by decide +kernel) rfl, zk_s12 (q := (yX16_sideWay, 40)) 8 (by decide +kernel)⟩
theorem zl_X16_153 : zm_L zk_E RX16 153 yX16_left (.code yX16_left cX16_left 5 (some .int)) 1 ∧ Cond.instanceMethod yX16_left ∈ zk_E.2.2.1 ∧ Cond.selects yX16_left.cls yX16_left yX16_left ∈ zk_E.2.2.1 := ⟨⟨zk_b17 109 (by decide +kernel) rfl, zk_b1 14 (by decide +kernel) rfl, zk_b17 106 (by decide +kernel) rfl, by decide +kernel, by decide +kernel, by decide +kernel⟩, zk_b17 108 (by decide +kernel) rfl, zk_s12 (q := (yX16_left, 40)) 12 (by decide +kernel)⟩
theorem zl_X16_156 : zm_L zk_E RX16 156 yX16_sideFrom (.code yX16_sideFrom cX16_sideFrom 2 (some .int)) 1 ∧ Cond.instanceMethod yX16_sideFrom ∈ zk_E.2.2.1 ∧ Cond.selects yX16_sideFrom.cls yX16_sideFrom yX16_sideFrom ∈ zk_E.2.2.1 := ⟨⟨zk_b17 89 (by decide +kernel) rfl, zk_b1 14 (by decide +kernel) rfl, zk_b17 86 (by decide +kernel) rfl, by decide +kernel, by decide +kernel, by decide +kernel⟩, zk_b17 88 (by decide +kernel) rfl, zk_s12 (q := (yX16_sideFrom, 40)) 7 (by decide +kernel)⟩
theorem zl_X16_159 : zm_L zk_E RX16 159 yX16_sideTo (.code yX16_sideTo cX16_sideTo 2 (some .int)) 1 ∧ Cond.instanceMethod yX16_sideTo ∈ zk_E.2.2.1 ∧ Cond.selects yX16_sideTo.cls yX16_sideTo yX16_sideTo ∈ zk_E.2.2.1 := ⟨⟨zk_b17 101 (by decide +kernel) rfl, zk_b1 14 (by decide +kernel) rfl, zk_b17 98 (by decide +kernel) rfl, by decide +kernel, by decide +kernel, by decide +kernel⟩, zk_b17 100 (by decide +kernel) rfl, zk_s12 (q := (yX16_sideTo, 40)) 10 (by decide +kernel)⟩
theorem zl_X16_162 : zm_L zk_E RX16 162 yX16_leaving (.code yX16_leaving cX16_leaving 5 (some .int)) 2 ∧ Cond.instanceMethod yX16_leaving ∈ zk_E.2.2.1 ∧ Cond.selects yX16_leaving.cls yX16_leaving yX16_leaving ∈ zk_E.2.2.1 := ⟨⟨zk_b17 85 (by decide +kernel) rfl, zk_b1 14 (by decide +kernel) rfl, zk_b17 82 (by decide +kernel) rfl, by decide +kernel, by decide +kernel, by decide +kernel⟩, zk_b17 84 (by decide +kernel) rfl, zk_s12 (q := (yX16_leaving, 40)) 6 (by decide +kernel)⟩
theorem zl_X16_165 : zm_F zk_E RX16 165 16 35 := ⟨RX16, TX16, 40, rfl, zk_i16, by decide, zk_b13 118 (by decide +kernel) rfl⟩
theorem zt_16_35 : zm_T zk_E RX16 16 35 .int false := ⟨RX16, TX16, 40, tyX16, rfl, tyX16_ok, nmX16, rfl, rfl, rfl⟩
theorem zl_X16_74 : zm_F zk_E RX16 74 16 34 := ⟨RX16, TX16, 40, rfl, zk_i16, by decide, zk_b13 117 (by decide +kernel) rfl⟩
theorem zl_X16_77 : zm_F zk_E RX16 77 16 36 := ⟨RX16, TX16, 40, rfl, zk_i16, by decide, zk_b13 119 (by decide +kernel) rfl⟩
theorem zl_X16_80 : zm_F zk_E RX16 80 16 37 := ⟨RX16, TX16, 40, rfl, zk_i16, by decide, zk_b13 120 (by decide +kernel) rfl⟩
theorem zl_X16_168 : zm_L zk_E RX16 168 yX16_next (.code yX16_next cX16_next 4 (some .int)) 1 ∧ Cond.instanceMethod yX16_next ∈ zk_E.2.2.1 ∧ Cond.selects yX16_next.cls yX16_next yX16_next ∈ zk_E.2.2.1 := ⟨⟨zk_b17 97 (by decide +kernel) rfl, zk_b1 14 (by decide +kernel) rfl, zk_b17 94 (by decide +kernel) rfl, by decide +kernel, by decide +kernel, by decide +kernel⟩, zk_b17 96 (by decide +kernel) rfl, zk_s12 (q := (yX16_next, 40)) 9 (by decide +kernel)⟩
theorem zl_X16_171 : zm_F zk_E RX16 171 16 17 := ⟨RX16, TX16, 40, rfl, zk_i16, by decide, zk_b13 97 (by decide +kernel) rfl⟩
theorem zt_16_17 : zm_T zk_E RX16 16 17 .int false := ⟨RX16, TX16, 40, tyX16, rfl, tyX16_ok, nmX16, rfl, rfl, rfl⟩
theorem zl_X16_83 : zm_F zk_E RX16 83 16 38 := ⟨RX16, TX16, 40, rfl, zk_i16, by decide, zk_b13 121 (by decide +kernel) rfl⟩
theorem zl_X16_44 : zm_F zk_E RX16 44 16 21 := ⟨RX16, TX16, 40, rfl, zk_i16, by decide, zk_b13 101 (by decide +kernel) rfl⟩
theorem zt_16_21 : zm_T zk_E RX16 16 21 (.array .int) false := ⟨RX16, TX16, 40, tyX16, rfl, tyX16_ok, nmX16, rfl, rfl, rfl⟩
theorem zt_16_14 : zm_T zk_E RX16 16 14 (.array .int) false := ⟨RX16, TX16, 40, tyX16, rfl, tyX16_ok, nmX16, rfl, rfl, rfl⟩
theorem zl_X16_47 : zm_F zk_E RX16 47 16 22 := ⟨RX16, TX16, 40, rfl, zk_i16, by decide, zk_b13 102 (by decide +kernel) rfl⟩
theorem zt_16_22 : zm_T zk_E RX16 16 22 (.array .int) false := ⟨RX16, TX16, 40, tyX16, rfl, tyX16_ok, nmX16, rfl, rfl, rfl⟩
theorem zt_16_15 : zm_T zk_E RX16 16 15 (.array .int) false := ⟨RX16, TX16, 40, tyX16, rfl, tyX16_ok, nmX16, rfl, rfl, rfl⟩
theorem zl_X16_50 : zm_F zk_E RX16 50 16 23 := ⟨RX16, TX16, 40, rfl, zk_i16, by decide, zk_b13 103 (by decide +kernel) rfl⟩
theorem zt_16_23 : zm_T zk_E RX16 16 23 (.array .int) false := ⟨RX16, TX16, 40, tyX16, rfl, tyX16_ok, nmX16, rfl, rfl, rfl⟩
theorem zt_16_16 : zm_T zk_E RX16 16 16 (.array .int) false := ⟨RX16, TX16, 40, tyX16, rfl, tyX16_ok, nmX16, rfl, rfl, rfl⟩
theorem zl_X16_56 : zm_F zk_E RX16 56 16 26 := ⟨RX16, TX16, 40, rfl, zk_i16, by decide, zk_b13 107 (by decide +kernel) rfl⟩
theorem zl_X16_53 : zm_F zk_E RX16 53 16 25 := ⟨RX16, TX16, 40, rfl, zk_i16, by decide, zk_b13 105 (by decide +kernel) rfl⟩
theorem zt_16_26 : zm_T zk_E RX16 16 26 (.array .int) false := ⟨RX16, TX16, 40, tyX16, rfl, tyX16_ok, nmX16, rfl, rfl, rfl⟩
theorem zt_16_25 : zm_T zk_E RX16 16 25 (.array .int) false := ⟨RX16, TX16, 40, tyX16, rfl, tyX16_ok, nmX16, rfl, rfl, rfl⟩
theorem zl_X16_174 : zm_F zk_E RX16 174 16 19 := ⟨RX16, TX16, 40, rfl, zk_i16, by decide, zk_b13 99 (by decide +kernel) rfl⟩
theorem zt_16_19 : zm_T zk_E RX16 16 19 .int false := ⟨RX16, TX16, 40, tyX16, rfl, tyX16_ok, nmX16, rfl, rfl, rfl⟩
theorem zl_X16_177 : zm_F zk_E RX16 177 16 20 := ⟨RX16, TX16, 40, rfl, zk_i16, by decide, zk_b13 100 (by decide +kernel) rfl⟩
theorem zt_16_20 : zm_T zk_E RX16 16 20 .int false := ⟨RX16, TX16, 40, tyX16, rfl, tyX16_ok, nmX16, rfl, rfl, rfl⟩
theorem zl_X16_180 : zm_F zk_E RX16 180 16 24 := ⟨RX16, TX16, 40, rfl, zk_i16, by decide, zk_b13 104 (by decide +kernel) rfl⟩
theorem zt_16_24 : zm_T zk_E RX16 16 24 .int false := ⟨RX16, TX16, 40, tyX16, rfl, tyX16_ok, nmX16, rfl, rfl, rfl⟩
theorem zl_X16_183 : zm_F zk_E RX16 183 16 9 := ⟨RX16, TX16, 40, rfl, zk_i16, by decide, zk_b13 86 (by decide +kernel) rfl⟩
theorem zl_X16_186 : zm_F zk_E RX16 186 16 18 := ⟨RX16, TX16, 40, rfl, zk_i16, by decide, zk_b13 98 (by decide +kernel) rfl⟩
theorem zt_16_18 : zm_T zk_E RX16 16 18 .boolean false := ⟨RX16, TX16, 40, tyX16, rfl, tyX16_ok, nmX16, rfl, rfl, rfl⟩
theorem zl_X16_214 : zm_L zk_E RX16 214 yX16_shared (.code yX16_shared cX16_shared 6 (some .int)) 4 ∧ Cond.static yX16_shared ∈ zk_E.2.2.1 := ⟨⟨zk_b17 123 (by decide +kernel) rfl, zk_b1 14 (by decide +kernel) rfl, zk_b17 121 (by decide +kernel) rfl, by decide +kernel, by decide +kernel, by decide +kernel⟩, zk_b17 122 (by decide +kernel) rfl⟩
theorem zl_X16_86 : zm_F zk_E RX16 86 16 39 := ⟨RX16, TX16, 40, rfl, zk_i16, by decide, zk_b13 122 (by decide +kernel) rfl⟩
theorem zl_X16_218 : zm_L zk_E RX16 218 yX16_common (.code yX16_common cX16_common 9 (some .int)) 2 ∧ Cond.instanceMethod yX16_common ∈ zk_E.2.2.1 ∧ Cond.selects yX16_common.cls yX16_common yX16_common ∈ zk_E.2.2.1 := ⟨⟨zk_b17 120 (by decide +kernel) rfl, zk_b1 14 (by decide +kernel) rfl, zk_b17 117 (by decide +kernel) rfl, by decide +kernel, by decide +kernel, by decide +kernel⟩, zk_b17 119 (by decide +kernel) rfl, zk_s12 (q := (yX16_common, 40)) 14 (by decide +kernel)⟩
def zf_X16_insert_L2 (N : Nat) : Nat → Nat → Int32 → Int32 → Int32 → zm_S → Option ((Int32 × zm_S) ⊕ ((Int32) × zm_S))
  | 0, _, _, _, _, _ => none
  | n + 1, a0, i1, i2, i3, S => if i1 ≤ i3 then some (.inr (i3, S)) else (za_x S 0 a0 i3).bind (fun v1 => if i2 ≤ v1 then some (.inr (i3, S)) else zf_X16_insert_L2 N n a0 i1 i2 (i3 + (1 : Int32)) S)
set_option maxHeartbeats 4000000 in
set_option maxRecDepth 100000 in
theorem zt_X16_insert_L2 {p : Program} {l : Launch} {e : Env} {R : Room} {s : State} {m : MethodId} {args : Array Value} {below : List Frame} {meth : Method} {c : Code} {V : zm_V} {mc ms d rc rs : Nat} (hX : zm_X p R s m args meth c RX16 "insert" cX16_insert 5 zk_E V mc ms) (hr : meth.sig.returnType = (some .int)) (hR : R.frames = d ∧ R.locals = 64 * d) (hd : 1 ≤ d) {N : Nat} {res : (Int32 × zm_S) ⊕ ((Int32) × zm_S)} {out : (Int32 × zm_S)} (a0 : Nat) (i1 : Int32) (i2 : Int32) (hf : ∀ o, res = .inl o → o = out) (hk : ∀ (x3 : Int32) (S' : zm_S), res = .inr (x3, S') → zw p l e R s m args below meth c (vx_MQ below (zm_Qc zk_E V (zo_i out)) (zm_XC zk_E V zo_x) args s mc ms (fun q => V.2.2.2.1 ≤ q)) 5 zk_E V mc ms 20 [(0, .ref a0), (1, .int i1), (2, .int i2), (3, .int x3)] [] S' rc rs) : ∀ (n : Nat) (i3 : Int32) (S : zm_S), zf_X16_insert_L2 N n a0 i1 i2 i3 S = some res → zw p l e R s m args below meth c (vx_MQ below (zm_Qc zk_E V (zo_i out)) (zm_XC zk_E V zo_x) args s mc ms (fun q => V.2.2.2.1 ≤ q)) 5 zk_E V mc ms 2 [(0, .ref a0), (1, .int i1), (2, .int i2), (3, .int i3)] [] S rc rs := by
  intro n
  induction n with
  | zero => intro i3 S h; cases h
  | succ n ih =>
    intro i3 S h
    rw [zf_X16_insert_L2] at h
    refine zw_iload_n hX dX16_insert_2 rfl ?_
    refine zw_iload_n hX dX16_insert_3 rfl ?_
    refine zw_icmp_ge (tgt := 20) hX dX16_insert_4 (by decide) (fun c4 => ?_) (fun c4 => ?_)
    · rw [if_pos c4] at h
      refine zw_sub (lv' := [(0, .ref a0), (1, .int i1), (2, .int i2), (3, .int i3)]) (List.forall_mem_cons.mpr ⟨rfl, (List.forall_mem_cons.mpr ⟨rfl, (List.forall_mem_cons.mpr ⟨rfl, (List.forall_mem_cons.mpr ⟨rfl, zs_nil⟩)⟩)⟩)⟩) ?_
      exact hk _ _ (Option.some.inj h).symm
    · rw [if_neg c4] at h
      refine zw_aload_n hX dX16_insert_7 rfl ?_
      refine zw_iload_n hX dX16_insert_8 rfl ?_
      obtain ⟨v1, g, h⟩ := zb_some h
      refine zw_xi hX dX16_insert_9 g ?_
      refine zw_iload_n hX dX16_insert_10 rfl ?_
      refine zw_icmp_ge (tgt := 20) hX dX16_insert_11 (by decide) (fun c11 => ?_) (fun c11 => ?_)
      · rw [if_pos c11] at h
        refine zw_sub (lv' := [(0, .ref a0), (1, .int i1), (2, .int i2), (3, .int i3)]) (List.forall_mem_cons.mpr ⟨rfl, (List.forall_mem_cons.mpr ⟨rfl, (List.forall_mem_cons.mpr ⟨rfl, (List.forall_mem_cons.mpr ⟨rfl, zs_nil⟩)⟩)⟩)⟩) ?_
        exact hk _ _ (Option.some.inj h).symm
      · rw [if_neg c11] at h
        refine zw_iinc (v := (i3 + (1 : Int32))) hX dX16_insert_14 rfl rfl (by decide) ?_
        refine zw_goto (tgt := 2) hX dX16_insert_17 (by decide) ?_
        refine zw_sub (lv' := [(0, .ref a0), (1, .int i1), (2, .int i2), (3, .int (i3 + (1 : Int32)))]) (List.forall_mem_cons.mpr ⟨rfl, (List.forall_mem_cons.mpr ⟨rfl, (List.forall_mem_cons.mpr ⟨rfl, (List.forall_mem_cons.mpr ⟨rfl, zs_nil⟩)⟩)⟩)⟩) ?_
        exact ih _ _ h
def zf_X16_insert_L37 (N : Nat) : Nat → Nat → Int32 → Int32 → Int32 → Int32 → zm_S → Option ((Int32 × zm_S) ⊕ ((Unit) × zm_S))
  | 0, _, _, _, _, _, _ => none
  | n + 1, a0, i1, i2, i3, i4, S => if i4 ≤ i3 then some (.inr ((), S)) else (za_x S 0 a0 (i4 - (1 : Int32))).bind (fun v4 => (zs_i S a0 i4 v4).bind (fun S5 => zf_X16_insert_L37 N n a0 i1 i2 i3 (i4 + (-1 : Int32)) S5))
set_option maxHeartbeats 4000000 in
set_option maxRecDepth 100000 in
theorem zt_X16_insert_L37 {p : Program} {l : Launch} {e : Env} {R : Room} {s : State} {m : MethodId} {args : Array Value} {below : List Frame} {meth : Method} {c : Code} {V : zm_V} {mc ms d rc rs : Nat} (hX : zm_X p R s m args meth c RX16 "insert" cX16_insert 5 zk_E V mc ms) (hr : meth.sig.returnType = (some .int)) (hR : R.frames = d ∧ R.locals = 64 * d) (hd : 1 ≤ d) {N : Nat} {res : (Int32 × zm_S) ⊕ ((Unit) × zm_S)} {out : (Int32 × zm_S)} (a0 : Nat) (i1 : Int32) (i2 : Int32) (i3 : Int32) (hf : ∀ o, res = .inl o → o = out) (hk : ∀ (S' : zm_S), res = .inr ((), S') → zw p l e R s m args below meth c (vx_MQ below (zm_Qc zk_E V (zo_i out)) (zm_XC zk_E V zo_x) args s mc ms (fun q => V.2.2.2.1 ≤ q)) 5 zk_E V mc ms 59 [(0, .ref a0), (1, .int i1), (2, .int i2), (3, .int i3)] [] S' rc rs) : ∀ (n : Nat) (i4 : Int32) (S : zm_S), zf_X16_insert_L37 N n a0 i1 i2 i3 i4 S = some res → zw p l e R s m args below meth c (vx_MQ below (zm_Qc zk_E V (zo_i out)) (zm_XC zk_E V zo_x) args s mc ms (fun q => V.2.2.2.1 ≤ q)) 5 zk_E V mc ms 37 [(0, .ref a0), (1, .int i1), (2, .int i2), (3, .int i3), (4, .int i4)] [] S rc rs := by
  intro n
  induction n with
  | zero => intro i4 S h; cases h
  | succ n ih =>
    intro i4 S h
    rw [zf_X16_insert_L37] at h
    refine zw_iload hX dX16_insert_37 rfl ?_
    refine zw_iload_n hX dX16_insert_39 rfl ?_
    refine zw_icmp_le (tgt := 59) hX dX16_insert_40 (by decide) (fun c40 => ?_) (fun c40 => ?_)
    · rw [if_pos c40] at h
      refine zw_sub (lv' := [(0, .ref a0), (1, .int i1), (2, .int i2), (3, .int i3)]) (List.forall_mem_cons.mpr ⟨rfl, (List.forall_mem_cons.mpr ⟨rfl, (List.forall_mem_cons.mpr ⟨rfl, (List.forall_mem_cons.mpr ⟨rfl, zs_nil⟩)⟩)⟩)⟩) ?_
      exact hk  _ (Option.some.inj h).symm
    · rw [if_neg c40] at h
      refine zw_aload_n hX dX16_insert_43 rfl ?_
      refine zw_iload hX dX16_insert_44 rfl ?_
      refine zw_aload_n hX dX16_insert_46 rfl ?_
      refine zw_iload hX dX16_insert_47 rfl ?_
      refine zw_iconst (v := (1 : Int32)) hX dX16_insert_49 (by decide) ?_
      refine zw_isub hX dX16_insert_50 ?_
      obtain ⟨v4, g, h⟩ := zb_some h
      refine zw_xi hX dX16_insert_51 g ?_
      obtain ⟨S5, g, h⟩ := zb_some h
      refine zw_si hX dX16_insert_52 g ?_
      refine zw_iinc (v := (i4 + (-1 : Int32))) hX dX16_insert_53 rfl rfl (by decide) ?_
      refine zw_goto (tgt := 37) hX dX16_insert_56 (by decide) ?_
      refine zw_sub (lv' := [(0, .ref a0), (1, .int i1), (2, .int i2), (3, .int i3), (4, .int (i4 + (-1 : Int32)))]) (List.forall_mem_cons.mpr ⟨rfl, (List.forall_mem_cons.mpr ⟨rfl, (List.forall_mem_cons.mpr ⟨rfl, (List.forall_mem_cons.mpr ⟨rfl, (List.forall_mem_cons.mpr ⟨rfl, zs_nil⟩)⟩)⟩)⟩)⟩) ?_
      exact ih _ _ h
def zf_X16_insert_J34 (N : Nat) (a0 : Nat) (i1 : Int32) (i2 : Int32) (i3 : Int32) (S : zm_S) : Option (Int32 × zm_S) := (zf_X16_insert_L37 N N a0 i1 i2 i3 i1 S).bind (fun r => match r with | .inl o => some o | .inr (_, S6) => (zs_i S6 a0 i3 i2).bind (fun S7 => some ((i1 + (1 : Int32)), S7)))
set_option maxHeartbeats 4000000 in
set_option maxRecDepth 100000 in
theorem zt_X16_insert_J34 {p : Program} {l : Launch} {e : Env} {R : Room} {s : State} {m : MethodId} {args : Array Value} {below : List Frame} {meth : Method} {c : Code} {V : zm_V} {mc ms d rc rs : Nat} (hX : zm_X p R s m args meth c RX16 "insert" cX16_insert 5 zk_E V mc ms) (hr : meth.sig.returnType = (some .int)) (hR : R.frames = d ∧ R.locals = 64 * d) (hd : 1 ≤ d) {N : Nat} {a0 : Nat} {i1 : Int32} {i2 : Int32} {i3 : Int32} {out : (Int32 × zm_S)} {S : zm_S} (h : zf_X16_insert_J34 N a0 i1 i2 i3 S = some out) : zw p l e R s m args below meth c (vx_MQ below (zm_Qc zk_E V (zo_i out)) (zm_XC zk_E V zo_x) args s mc ms (fun q => V.2.2.2.1 ≤ q)) 5 zk_E V mc ms 34 [(0, .ref a0), (1, .int i1), (2, .int i2), (3, .int i3)] [] S rc rs := by
  unfold zf_X16_insert_J34 at h
  refine zw_iload_n hX dX16_insert_34 rfl ?_
  refine zw_istore hX dX16_insert_35 (by decide) ?_
  obtain ⟨r, g, h⟩ := zb_some h
  refine zw_sub (lv' := [(0, .ref a0), (1, .int i1), (2, .int i2), (3, .int i3), (4, .int i1)]) (List.forall_mem_cons.mpr ⟨rfl, (List.forall_mem_cons.mpr ⟨rfl, (List.forall_mem_cons.mpr ⟨rfl, (List.forall_mem_cons.mpr ⟨rfl, (List.forall_mem_cons.mpr ⟨rfl, zs_nil⟩)⟩)⟩)⟩)⟩) ?_
  refine zt_X16_insert_L37 hX hr hR hd (res := r) (out := out) a0 i1 i2 i3 ?_ ?_ N _ _ g
  · intro o ho
    subst ho
    exact Option.some.inj h
  · intro  S6 hx
    subst hx
    try dsimp only at h
    refine zw_aload_n hX dX16_insert_59 rfl ?_
    refine zw_iload_n hX dX16_insert_60 rfl ?_
    refine zw_iload_n hX dX16_insert_61 rfl ?_
    obtain ⟨S7, g, h⟩ := zb_some h
    refine zw_si hX dX16_insert_62 g ?_
    refine zw_iload_n hX dX16_insert_63 rfl ?_
    refine zw_iconst (v := (1 : Int32)) hX dX16_insert_64 (by decide) ?_
    refine zw_iadd hX dX16_insert_65 ?_
    obtain rfl := Option.some.inj h
    exact zw_iret hX hr dX16_insert_66 rfl ⟨rfl, rfl⟩
def zf_X16_insert_J20 (N : Nat) (a0 : Nat) (i1 : Int32) (i2 : Int32) (i3 : Int32) (S : zm_S) : Option (Int32 × zm_S) := if i1 ≤ i3 then zf_X16_insert_J34 N a0 i1 i2 i3 S else (za_x S 0 a0 i3).bind (fun v8 => if v8 = i2 then some (i1, S) else zf_X16_insert_J34 N a0 i1 i2 i3 S)
set_option maxHeartbeats 4000000 in
set_option maxRecDepth 100000 in
theorem zt_X16_insert_J20 {p : Program} {l : Launch} {e : Env} {R : Room} {s : State} {m : MethodId} {args : Array Value} {below : List Frame} {meth : Method} {c : Code} {V : zm_V} {mc ms d rc rs : Nat} (hX : zm_X p R s m args meth c RX16 "insert" cX16_insert 5 zk_E V mc ms) (hr : meth.sig.returnType = (some .int)) (hR : R.frames = d ∧ R.locals = 64 * d) (hd : 1 ≤ d) {N : Nat} {a0 : Nat} {i1 : Int32} {i2 : Int32} {i3 : Int32} {out : (Int32 × zm_S)} {S : zm_S} (h : zf_X16_insert_J20 N a0 i1 i2 i3 S = some out) : zw p l e R s m args below meth c (vx_MQ below (zm_Qc zk_E V (zo_i out)) (zm_XC zk_E V zo_x) args s mc ms (fun q => V.2.2.2.1 ≤ q)) 5 zk_E V mc ms 20 [(0, .ref a0), (1, .int i1), (2, .int i2), (3, .int i3)] [] S rc rs := by
  unfold zf_X16_insert_J20 at h
  refine zw_iload_n hX dX16_insert_20 rfl ?_
  refine zw_iload_n hX dX16_insert_21 rfl ?_
  refine zw_icmp_ge (tgt := 34) hX dX16_insert_22 (by decide) (fun c22 => ?_) (fun c22 => ?_)
  · rw [if_pos c22] at h
    refine zw_sub (lv' := [(0, .ref a0), (1, .int i1), (2, .int i2), (3, .int i3)]) (List.forall_mem_cons.mpr ⟨rfl, (List.forall_mem_cons.mpr ⟨rfl, (List.forall_mem_cons.mpr ⟨rfl, (List.forall_mem_cons.mpr ⟨rfl, zs_nil⟩)⟩)⟩)⟩) ?_
    exact zt_X16_insert_J34 hX hr hR hd h
  · rw [if_neg c22] at h
    refine zw_aload_n hX dX16_insert_25 rfl ?_
    refine zw_iload_n hX dX16_insert_26 rfl ?_
    obtain ⟨v8, g, h⟩ := zb_some h
    refine zw_xi hX dX16_insert_27 g ?_
    refine zw_iload_n hX dX16_insert_28 rfl ?_
    refine zw_icmp_ne (tgt := 34) hX dX16_insert_29 (by decide) (fun c29 => ?_) (fun c29 => ?_)
    · rw [if_neg c29] at h
      refine zw_sub (lv' := [(0, .ref a0), (1, .int i1), (2, .int i2), (3, .int i3)]) (List.forall_mem_cons.mpr ⟨rfl, (List.forall_mem_cons.mpr ⟨rfl, (List.forall_mem_cons.mpr ⟨rfl, (List.forall_mem_cons.mpr ⟨rfl, zs_nil⟩)⟩)⟩)⟩) ?_
      exact zt_X16_insert_J34 hX hr hR hd h
    · rw [if_pos c29] at h
      refine zw_iload_n hX dX16_insert_32 rfl ?_
      obtain rfl := Option.some.inj h
      exact zw_iret hX hr dX16_insert_33 rfl ⟨rfl, rfl⟩
def zf_X16_insert (N : Nat) (a0 : Nat) (i1 : Int32) (i2 : Int32) (S : zm_S) : Option (Int32 × zm_S) := (zf_X16_insert_L2 N N a0 i1 i2 (0 : Int32) S).bind (fun r => match r with | .inl o => some o | .inr (v3, S2) => zf_X16_insert_J20 N a0 i1 i2 v3 S2)
set_option maxHeartbeats 4000000 in
set_option maxRecDepth 100000 in
theorem zt_X16_insert {l : Launch} {V : zm_V} {N : Nat} {S : zm_S} {out : (Int32 × zm_S)} {d : Nat} {a0 : Nat} {i1 : Int32} {i2 : Int32} (hd : 1 ≤ d) (h : zf_X16_insert N a0 i1 i2 S = some out) : zm_Met l zk_E V yX16_insert (.code yX16_insert cX16_insert 5 (some .int)) d [.ref a0, .int i1, .int i2] S 0 0 (zo_i out) zo_x := by
  refine zm_of (by decide +kernel) (Nat.le_of_ble_eq_true rfl) ?_
  intro p e R s m args below meth c hRR hX hr hxt
  have hR : R.frames = d ∧ R.locals = 64 * d := by rw [hRR]; exact ⟨rfl, rfl⟩
  have hX : zm_X p R s m args meth c RX16 "insert" cX16_insert 5 zk_E V 0 0 := hX
  unfold zf_X16_insert at h
  refine zw_sub (lv' := [(0, .ref a0), (1, .int i1), (2, .int i2)]) (List.forall_mem_cons.mpr ⟨rfl, (List.forall_mem_cons.mpr ⟨rfl, (List.forall_mem_cons.mpr ⟨rfl, zs_nil⟩)⟩)⟩) ?_
  refine zw_iconst (v := (0 : Int32)) hX dX16_insert_0 (by decide) ?_
  refine zw_istore_n hX dX16_insert_1 (by decide) ?_
  obtain ⟨r, g, h⟩ := zb_some h
  refine zw_sub (lv' := [(0, .ref a0), (1, .int i1), (2, .int i2), (3, .int (0 : Int32))]) (List.forall_mem_cons.mpr ⟨rfl, (List.forall_mem_cons.mpr ⟨rfl, (List.forall_mem_cons.mpr ⟨rfl, (List.forall_mem_cons.mpr ⟨rfl, zs_nil⟩)⟩)⟩)⟩) ?_
  refine zt_X16_insert_L2 hX hr hR hd (res := r) (out := out) a0 i1 i2 ?_ ?_ N _ _ g
  · intro o ho
    subst ho
    exact Option.some.inj h
  · intro v3 S2 hx
    subst hx
    try dsimp only at h
    refine zw_sub (lv' := [(0, .ref a0), (1, .int i1), (2, .int i2), (3, .int v3)]) (List.forall_mem_cons.mpr ⟨rfl, (List.forall_mem_cons.mpr ⟨rfl, (List.forall_mem_cons.mpr ⟨rfl, (List.forall_mem_cons.mpr ⟨rfl, zs_nil⟩)⟩)⟩)⟩) ?_
    exact zt_X16_insert_J20 hX hr hR hd h
def zf_X16_indexOf_L2 (N : Nat) : Nat → Nat → Int32 → Int32 → zm_S → Option ((Int32 × zm_S) ⊕ ((Int32) × zm_S))
  | 0, _, _, _, _ => none
  | n + 1, a0, i1, i2, S => (za_x S 0 a0 i2).bind (fun v1 => if v1 = i1 then some (.inr (i2, S)) else zf_X16_indexOf_L2 N n a0 i1 (i2 + (1 : Int32)) S)
set_option maxHeartbeats 4000000 in
set_option maxRecDepth 100000 in
theorem zt_X16_indexOf_L2 {p : Program} {l : Launch} {e : Env} {R : Room} {s : State} {m : MethodId} {args : Array Value} {below : List Frame} {meth : Method} {c : Code} {V : zm_V} {mc ms d rc rs : Nat} (hX : zm_X p R s m args meth c RX16 "indexOf" cX16_indexOf 3 zk_E V mc ms) (hr : meth.sig.returnType = (some .int)) (hR : R.frames = d ∧ R.locals = 64 * d) (hd : 1 ≤ d) {N : Nat} {res : (Int32 × zm_S) ⊕ ((Int32) × zm_S)} {out : (Int32 × zm_S)} (a0 : Nat) (i1 : Int32) (hf : ∀ o, res = .inl o → o = out) (hk : ∀ (x2 : Int32) (S' : zm_S), res = .inr (x2, S') → zw p l e R s m args below meth c (vx_MQ below (zm_Qc zk_E V (zo_i out)) (zm_XC zk_E V zo_x) args s mc ms (fun q => V.2.2.2.1 ≤ q)) 3 zk_E V mc ms 15 [(2, .int x2)] [] S' rc rs) : ∀ (n : Nat) (i2 : Int32) (S : zm_S), zf_X16_indexOf_L2 N n a0 i1 i2 S = some res → zw p l e R s m args below meth c (vx_MQ below (zm_Qc zk_E V (zo_i out)) (zm_XC zk_E V zo_x) args s mc ms (fun q => V.2.2.2.1 ≤ q)) 3 zk_E V mc ms 2 [(0, .ref a0), (1, .int i1), (2, .int i2)] [] S rc rs := by
  intro n
  induction n with
  | zero => intro i2 S h; cases h
  | succ n ih =>
    intro i2 S h
    rw [zf_X16_indexOf_L2] at h
    refine zw_aload_n hX dX16_indexOf_2 rfl ?_
    refine zw_iload_n hX dX16_indexOf_3 rfl ?_
    obtain ⟨v1, g, h⟩ := zb_some h
    refine zw_xi hX dX16_indexOf_4 g ?_
    refine zw_iload_n hX dX16_indexOf_5 rfl ?_
    refine zw_icmp_eq (tgt := 15) hX dX16_indexOf_6 (by decide) (fun c6 => ?_) (fun c6 => ?_)
    · rw [if_pos c6] at h
      refine zw_sub (lv' := [(2, .int i2)]) (List.forall_mem_cons.mpr ⟨rfl, zs_nil⟩) ?_
      exact hk _ _ (Option.some.inj h).symm
    · rw [if_neg c6] at h
      refine zw_iinc (v := (i2 + (1 : Int32))) hX dX16_indexOf_9 rfl rfl (by decide) ?_
      refine zw_goto (tgt := 2) hX dX16_indexOf_12 (by decide) ?_
      refine zw_sub (lv' := [(0, .ref a0), (1, .int i1), (2, .int (i2 + (1 : Int32)))]) (List.forall_mem_cons.mpr ⟨rfl, (List.forall_mem_cons.mpr ⟨rfl, (List.forall_mem_cons.mpr ⟨rfl, zs_nil⟩)⟩)⟩) ?_
      exact ih _ _ h
def zf_X16_indexOf (N : Nat) (a0 : Nat) (i1 : Int32) (S : zm_S) : Option (Int32 × zm_S) := (zf_X16_indexOf_L2 N N a0 i1 (0 : Int32) S).bind (fun r => match r with | .inl o => some o | .inr (v3, S2) => some (v3, S2))
set_option maxHeartbeats 4000000 in
set_option maxRecDepth 100000 in
theorem zt_X16_indexOf {l : Launch} {V : zm_V} {N : Nat} {S : zm_S} {out : (Int32 × zm_S)} {d : Nat} {a0 : Nat} {i1 : Int32} (hd : 1 ≤ d) (h : zf_X16_indexOf N a0 i1 S = some out) : zm_Met l zk_E V yX16_indexOf (.code yX16_indexOf cX16_indexOf 3 (some .int)) d [.ref a0, .int i1] S 0 0 (zo_i out) zo_x := by
  refine zm_of (by decide +kernel) (Nat.le_of_ble_eq_true rfl) ?_
  intro p e R s m args below meth c hRR hX hr hxt
  have hR : R.frames = d ∧ R.locals = 64 * d := by rw [hRR]; exact ⟨rfl, rfl⟩
  have hX : zm_X p R s m args meth c RX16 "indexOf" cX16_indexOf 3 zk_E V 0 0 := hX
  unfold zf_X16_indexOf at h
  refine zw_sub (lv' := [(0, .ref a0), (1, .int i1)]) (List.forall_mem_cons.mpr ⟨rfl, (List.forall_mem_cons.mpr ⟨rfl, zs_nil⟩)⟩) ?_
  refine zw_iconst (v := (0 : Int32)) hX dX16_indexOf_0 (by decide) ?_
  refine zw_istore_n hX dX16_indexOf_1 (by decide) ?_
  obtain ⟨r, g, h⟩ := zb_some h
  refine zw_sub (lv' := [(0, .ref a0), (1, .int i1), (2, .int (0 : Int32))]) (List.forall_mem_cons.mpr ⟨rfl, (List.forall_mem_cons.mpr ⟨rfl, (List.forall_mem_cons.mpr ⟨rfl, zs_nil⟩)⟩)⟩) ?_
  refine zt_X16_indexOf_L2 hX hr hR hd (res := r) (out := out) a0 i1 ?_ ?_ N _ _ g
  · intro o ho
    subst ho
    exact Option.some.inj h
  · intro v3 S2 hx
    subst hx
    try dsimp only at h
    refine zw_iload_n hX dX16_indexOf_15 rfl ?_
    obtain rfl := Option.some.inj h
    exact zw_iret hX hr dX16_indexOf_16 rfl ⟨rfl, rfl⟩
def zf_X16_isShut_J196 (N : Nat) (k : Nat → Int32 → Int32 → Int32 → Int32 → Int32 → zm_S → Option ((Int32 × zm_S) ⊕ ((Int32) × zm_S))) (a0 : Nat) (i1 : Int32) (i2 : Int32) (i3 : Int32) (i5 : Int32) (S : zm_S) : Option ((Int32 × zm_S) ⊕ ((Int32) × zm_S)) := k a0 i1 i2 i3 (1 : Int32) (i5 + (1 : Int32)) S
set_option maxHeartbeats 4000000 in
set_option maxRecDepth 100000 in
theorem zt_X16_isShut_J196 {p : Program} {l : Launch} {e : Env} {R : Room} {s : State} {m : MethodId} {args : Array Value} {below : List Frame} {meth : Method} {c : Code} {V : zm_V} {mc ms d rc rs : Nat} (hX : zm_X p R s m args meth c RX16 "isShut" cX16_isShut 9 zk_E V mc ms) (hr : meth.sig.returnType = (some .boolean)) (hR : R.frames = d ∧ R.locals = 64 * d) (hd : 2 ≤ d) {N : Nat} {k : Nat → Int32 → Int32 → Int32 → Int32 → Int32 → zm_S → Option ((Int32 × zm_S) ⊕ ((Int32) × zm_S))} {a0 : Nat} {i1 : Int32} {i2 : Int32} {i3 : Int32} {i5 : Int32} {res : (Int32 × zm_S) ⊕ ((Int32) × zm_S)} {out : (Int32 × zm_S)}   (hf : ∀ o, res = .inl o → o = out) (hk : ∀ (x4 : Int32) (S' : zm_S), res = .inr (x4, S') → zw p l e R s m args below meth c (vx_MQ below (zm_Qc zk_E V (zo_i out)) (zm_XC zk_E V zo_x) args s mc ms (fun q => V.2.2.2.1 ≤ q)) 9 zk_E V mc ms 209 [(4, .int x4)] [] S' rc rs) (hrec : ∀ (i4' : Int32) (i5' : Int32) (S : zm_S), k a0 i1 i2 i3 i4' i5' S = some res → zw p l e R s m args below meth c (vx_MQ below (zm_Qc zk_E V (zo_i out)) (zm_XC zk_E V zo_x) args s mc ms (fun q => V.2.2.2.1 ≤ q)) 9 zk_E V mc ms 6 [(0, .ref a0), (1, .int i1), (2, .int i2), (3, .int i3), (4, .int i4'), (5, .int i5')] [] S rc rs) {S : zm_S} (h : zf_X16_isShut_J196 N k a0 i1 i2 i3 i5 S = some res) : zw p l e R s m args below meth c (vx_MQ below (zm_Qc zk_E V (zo_i out)) (zm_XC zk_E V zo_x) args s mc ms (fun q => V.2.2.2.1 ≤ q)) 9 zk_E V mc ms 196 [(0, .ref a0), (1, .int i1), (2, .int i2), (3, .int i3), (5, .int i5)] [] S rc rs := by
  unfold zf_X16_isShut_J196 at h
  refine zw_iconst (v := (1 : Int32)) hX dX16_isShut_196 (by decide) ?_
  refine zw_goto (tgt := 201) hX dX16_isShut_197 (by decide) ?_
  refine zw_istore hX dX16_isShut_201 (by decide) ?_
  refine zw_iinc (v := (i5 + (1 : Int32))) hX dX16_isShut_203 rfl rfl (by decide) ?_
  refine zw_goto (tgt := 6) hX dX16_isShut_206 (by decide) ?_
  refine zw_sub (lv' := [(0, .ref a0), (1, .int i1), (2, .int i2), (3, .int i3), (4, .int (1 : Int32)), (5, .int (i5 + (1 : Int32)))]) (List.forall_mem_cons.mpr ⟨rfl, (List.forall_mem_cons.mpr ⟨rfl, (List.forall_mem_cons.mpr ⟨rfl, (List.forall_mem_cons.mpr ⟨rfl, (List.forall_mem_cons.mpr ⟨rfl, (List.forall_mem_cons.mpr ⟨rfl, zs_nil⟩)⟩)⟩)⟩)⟩)⟩) ?_
  exact hrec _ _ _ h
def zf_X16_isShut_J200 (N : Nat) (k : Nat → Int32 → Int32 → Int32 → Int32 → Int32 → zm_S → Option ((Int32 × zm_S) ⊕ ((Int32) × zm_S))) (a0 : Nat) (i1 : Int32) (i2 : Int32) (i3 : Int32) (i5 : Int32) (S : zm_S) : Option ((Int32 × zm_S) ⊕ ((Int32) × zm_S)) := k a0 i1 i2 i3 (0 : Int32) (i5 + (1 : Int32)) S
set_option maxHeartbeats 4000000 in
set_option maxRecDepth 100000 in
theorem zt_X16_isShut_J200 {p : Program} {l : Launch} {e : Env} {R : Room} {s : State} {m : MethodId} {args : Array Value} {below : List Frame} {meth : Method} {c : Code} {V : zm_V} {mc ms d rc rs : Nat} (hX : zm_X p R s m args meth c RX16 "isShut" cX16_isShut 9 zk_E V mc ms) (hr : meth.sig.returnType = (some .boolean)) (hR : R.frames = d ∧ R.locals = 64 * d) (hd : 2 ≤ d) {N : Nat} {k : Nat → Int32 → Int32 → Int32 → Int32 → Int32 → zm_S → Option ((Int32 × zm_S) ⊕ ((Int32) × zm_S))} {a0 : Nat} {i1 : Int32} {i2 : Int32} {i3 : Int32} {i5 : Int32} {res : (Int32 × zm_S) ⊕ ((Int32) × zm_S)} {out : (Int32 × zm_S)}   (hf : ∀ o, res = .inl o → o = out) (hk : ∀ (x4 : Int32) (S' : zm_S), res = .inr (x4, S') → zw p l e R s m args below meth c (vx_MQ below (zm_Qc zk_E V (zo_i out)) (zm_XC zk_E V zo_x) args s mc ms (fun q => V.2.2.2.1 ≤ q)) 9 zk_E V mc ms 209 [(4, .int x4)] [] S' rc rs) (hrec : ∀ (i4' : Int32) (i5' : Int32) (S : zm_S), k a0 i1 i2 i3 i4' i5' S = some res → zw p l e R s m args below meth c (vx_MQ below (zm_Qc zk_E V (zo_i out)) (zm_XC zk_E V zo_x) args s mc ms (fun q => V.2.2.2.1 ≤ q)) 9 zk_E V mc ms 6 [(0, .ref a0), (1, .int i1), (2, .int i2), (3, .int i3), (4, .int i4'), (5, .int i5')] [] S rc rs) {S : zm_S} (h : zf_X16_isShut_J200 N k a0 i1 i2 i3 i5 S = some res) : zw p l e R s m args below meth c (vx_MQ below (zm_Qc zk_E V (zo_i out)) (zm_XC zk_E V zo_x) args s mc ms (fun q => V.2.2.2.1 ≤ q)) 9 zk_E V mc ms 200 [(0, .ref a0), (1, .int i1), (2, .int i2), (3, .int i3), (5, .int i5)] [] S rc rs := by
  unfold zf_X16_isShut_J200 at h
  refine zw_iconst (v := (0 : Int32)) hX dX16_isShut_200 (by decide) ?_
  refine zw_istore hX dX16_isShut_201 (by decide) ?_
  refine zw_iinc (v := (i5 + (1 : Int32))) hX dX16_isShut_203 rfl rfl (by decide) ?_
  refine zw_goto (tgt := 6) hX dX16_isShut_206 (by decide) ?_
  refine zw_sub (lv' := [(0, .ref a0), (1, .int i1), (2, .int i2), (3, .int i3), (4, .int (0 : Int32)), (5, .int (i5 + (1 : Int32)))]) (List.forall_mem_cons.mpr ⟨rfl, (List.forall_mem_cons.mpr ⟨rfl, (List.forall_mem_cons.mpr ⟨rfl, (List.forall_mem_cons.mpr ⟨rfl, (List.forall_mem_cons.mpr ⟨rfl, (List.forall_mem_cons.mpr ⟨rfl, zs_nil⟩)⟩)⟩)⟩)⟩)⟩) ?_
  exact hrec _ _ _ h
def zf_X16_isShut_J177 (N : Nat) (k : Nat → Int32 → Int32 → Int32 → Int32 → Int32 → zm_S → Option ((Int32 × zm_S) ⊕ ((Int32) × zm_S))) (a0 : Nat) (i1 : Int32) (i2 : Int32) (i3 : Int32) (i4 : Int32) (i5 : Int32) (i6 : Int32) (i7 : Int32) (t0 : Int32) (S : zm_S) : Option ((Int32 × zm_S) ⊕ ((Int32) × zm_S)) := if i4 = 0 then if i6 = i7 then if t0 = 0 then zf_X16_isShut_J200 N (k) a0 i1 i2 i3 i5 S else zf_X16_isShut_J196 N (k) a0 i1 i2 i3 i5 S else zf_X16_isShut_J200 N (k) a0 i1 i2 i3 i5 S else zf_X16_isShut_J196 N (k) a0 i1 i2 i3 i5 S
set_option maxHeartbeats 4000000 in
set_option maxRecDepth 100000 in
theorem zt_X16_isShut_J177 {p : Program} {l : Launch} {e : Env} {R : Room} {s : State} {m : MethodId} {args : Array Value} {below : List Frame} {meth : Method} {c : Code} {V : zm_V} {mc ms d rc rs : Nat} (hX : zm_X p R s m args meth c RX16 "isShut" cX16_isShut 9 zk_E V mc ms) (hr : meth.sig.returnType = (some .boolean)) (hR : R.frames = d ∧ R.locals = 64 * d) (hd : 2 ≤ d) {N : Nat} {k : Nat → Int32 → Int32 → Int32 → Int32 → Int32 → zm_S → Option ((Int32 × zm_S) ⊕ ((Int32) × zm_S))} {a0 : Nat} {i1 : Int32} {i2 : Int32} {i3 : Int32} {i4 : Int32} {i5 : Int32} {i6 : Int32} {i7 : Int32} {t0 : Int32} {res : (Int32 × zm_S) ⊕ ((Int32) × zm_S)} {out : (Int32 × zm_S)}   (hf : ∀ o, res = .inl o → o = out) (hk : ∀ (x4 : Int32) (S' : zm_S), res = .inr (x4, S') → zw p l e R s m args below meth c (vx_MQ below (zm_Qc zk_E V (zo_i out)) (zm_XC zk_E V zo_x) args s mc ms (fun q => V.2.2.2.1 ≤ q)) 9 zk_E V mc ms 209 [(4, .int x4)] [] S' rc rs) (hrec : ∀ (i4' : Int32) (i5' : Int32) (S : zm_S), k a0 i1 i2 i3 i4' i5' S = some res → zw p l e R s m args below meth c (vx_MQ below (zm_Qc zk_E V (zo_i out)) (zm_XC zk_E V zo_x) args s mc ms (fun q => V.2.2.2.1 ≤ q)) 9 zk_E V mc ms 6 [(0, .ref a0), (1, .int i1), (2, .int i2), (3, .int i3), (4, .int i4'), (5, .int i5')] [] S rc rs) {S : zm_S} (h : zf_X16_isShut_J177 N k a0 i1 i2 i3 i4 i5 i6 i7 t0 S = some res) : zw p l e R s m args below meth c (vx_MQ below (zm_Qc zk_E V (zo_i out)) (zm_XC zk_E V zo_x) args s mc ms (fun q => V.2.2.2.1 ≤ q)) 9 zk_E V mc ms 177 [(0, .ref a0), (1, .int i1), (2, .int i2), (3, .int i3), (4, .int i4), (5, .int i5), (6, .int i6), (7, .int i7)] [.int t0] S rc rs := by
  unfold zf_X16_isShut_J177 at h
  refine zw_istore hX dX16_isShut_177 (by decide) ?_
  refine zw_iload hX dX16_isShut_179 rfl ?_
  refine zw_if_ne (tgt := 196) hX dX16_isShut_181 (by decide) (fun c181 => ?_) (fun c181 => ?_)
  · rw [if_neg c181] at h
    refine zw_sub (lv' := [(0, .ref a0), (1, .int i1), (2, .int i2), (3, .int i3), (5, .int i5)]) (List.forall_mem_cons.mpr ⟨rfl, (List.forall_mem_cons.mpr ⟨rfl, (List.forall_mem_cons.mpr ⟨rfl, (List.forall_mem_cons.mpr ⟨rfl, (List.forall_mem_cons.mpr ⟨rfl, zs_nil⟩)⟩)⟩)⟩)⟩) ?_
    exact zt_X16_isShut_J196 hX hr hR hd hf hk hrec h
  · rw [if_pos c181] at h
    refine zw_iload hX dX16_isShut_184 rfl ?_
    refine zw_iload hX dX16_isShut_186 rfl ?_
    refine zw_icmp_ne (tgt := 200) hX dX16_isShut_188 (by decide) (fun c188 => ?_) (fun c188 => ?_)
    · rw [if_neg c188] at h
      refine zw_sub (lv' := [(0, .ref a0), (1, .int i1), (2, .int i2), (3, .int i3), (5, .int i5)]) (List.forall_mem_cons.mpr ⟨rfl, (List.forall_mem_cons.mpr ⟨rfl, (List.forall_mem_cons.mpr ⟨rfl, (List.forall_mem_cons.mpr ⟨rfl, (List.forall_mem_cons.mpr ⟨rfl, zs_nil⟩)⟩)⟩)⟩)⟩) ?_
      exact zt_X16_isShut_J200 hX hr hR hd hf hk hrec h
    · rw [if_pos c188] at h
      refine zw_iload hX dX16_isShut_191 rfl ?_
      refine zw_if_eq (tgt := 200) hX dX16_isShut_193 (by decide) (fun c193 => ?_) (fun c193 => ?_)
      · rw [if_pos c193] at h
        refine zw_sub (lv' := [(0, .ref a0), (1, .int i1), (2, .int i2), (3, .int i3), (5, .int i5)]) (List.forall_mem_cons.mpr ⟨rfl, (List.forall_mem_cons.mpr ⟨rfl, (List.forall_mem_cons.mpr ⟨rfl, (List.forall_mem_cons.mpr ⟨rfl, (List.forall_mem_cons.mpr ⟨rfl, zs_nil⟩)⟩)⟩)⟩)⟩) ?_
        exact zt_X16_isShut_J200 hX hr hR hd hf hk hrec h
      · rw [if_neg c193] at h
        refine zw_sub (lv' := [(0, .ref a0), (1, .int i1), (2, .int i2), (3, .int i3), (5, .int i5)]) (List.forall_mem_cons.mpr ⟨rfl, (List.forall_mem_cons.mpr ⟨rfl, (List.forall_mem_cons.mpr ⟨rfl, (List.forall_mem_cons.mpr ⟨rfl, (List.forall_mem_cons.mpr ⟨rfl, zs_nil⟩)⟩)⟩)⟩)⟩) ?_
        exact zt_X16_isShut_J196 hX hr hR hd hf hk hrec h
def zf_X16_isShut_J176 (N : Nat) (k : Nat → Int32 → Int32 → Int32 → Int32 → Int32 → zm_S → Option ((Int32 × zm_S) ⊕ ((Int32) × zm_S))) (a0 : Nat) (i1 : Int32) (i2 : Int32) (i3 : Int32) (i4 : Int32) (i5 : Int32) (i6 : Int32) (i7 : Int32) (S : zm_S) : Option ((Int32 × zm_S) ⊕ ((Int32) × zm_S)) := zf_X16_isShut_J177 N (k) a0 i1 i2 i3 i4 i5 i6 i7 (0 : Int32) S
set_option maxHeartbeats 4000000 in
set_option maxRecDepth 100000 in
theorem zt_X16_isShut_J176 {p : Program} {l : Launch} {e : Env} {R : Room} {s : State} {m : MethodId} {args : Array Value} {below : List Frame} {meth : Method} {c : Code} {V : zm_V} {mc ms d rc rs : Nat} (hX : zm_X p R s m args meth c RX16 "isShut" cX16_isShut 9 zk_E V mc ms) (hr : meth.sig.returnType = (some .boolean)) (hR : R.frames = d ∧ R.locals = 64 * d) (hd : 2 ≤ d) {N : Nat} {k : Nat → Int32 → Int32 → Int32 → Int32 → Int32 → zm_S → Option ((Int32 × zm_S) ⊕ ((Int32) × zm_S))} {a0 : Nat} {i1 : Int32} {i2 : Int32} {i3 : Int32} {i4 : Int32} {i5 : Int32} {i6 : Int32} {i7 : Int32} {res : (Int32 × zm_S) ⊕ ((Int32) × zm_S)} {out : (Int32 × zm_S)}   (hf : ∀ o, res = .inl o → o = out) (hk : ∀ (x4 : Int32) (S' : zm_S), res = .inr (x4, S') → zw p l e R s m args below meth c (vx_MQ below (zm_Qc zk_E V (zo_i out)) (zm_XC zk_E V zo_x) args s mc ms (fun q => V.2.2.2.1 ≤ q)) 9 zk_E V mc ms 209 [(4, .int x4)] [] S' rc rs) (hrec : ∀ (i4' : Int32) (i5' : Int32) (S : zm_S), k a0 i1 i2 i3 i4' i5' S = some res → zw p l e R s m args below meth c (vx_MQ below (zm_Qc zk_E V (zo_i out)) (zm_XC zk_E V zo_x) args s mc ms (fun q => V.2.2.2.1 ≤ q)) 9 zk_E V mc ms 6 [(0, .ref a0), (1, .int i1), (2, .int i2), (3, .int i3), (4, .int i4'), (5, .int i5')] [] S rc rs) {S : zm_S} (h : zf_X16_isShut_J176 N k a0 i1 i2 i3 i4 i5 i6 i7 S = some res) : zw p l e R s m args below meth c (vx_MQ below (zm_Qc zk_E V (zo_i out)) (zm_XC zk_E V zo_x) args s mc ms (fun q => V.2.2.2.1 ≤ q)) 9 zk_E V mc ms 176 [(0, .ref a0), (1, .int i1), (2, .int i2), (3, .int i3), (4, .int i4), (5, .int i5), (6, .int i6), (7, .int i7)] [] S rc rs := by
  unfold zf_X16_isShut_J176 at h
  refine zw_iconst (v := (0 : Int32)) hX dX16_isShut_176 (by decide) ?_
  refine zw_sub (lv' := [(0, .ref a0), (1, .int i1), (2, .int i2), (3, .int i3), (4, .int i4), (5, .int i5), (6, .int i6), (7, .int i7)]) (List.forall_mem_cons.mpr ⟨rfl, (List.forall_mem_cons.mpr ⟨rfl, (List.forall_mem_cons.mpr ⟨rfl, (List.forall_mem_cons.mpr ⟨rfl, (List.forall_mem_cons.mpr ⟨rfl, (List.forall_mem_cons.mpr ⟨rfl, (List.forall_mem_cons.mpr ⟨rfl, (List.forall_mem_cons.mpr ⟨rfl, zs_nil⟩)⟩)⟩)⟩)⟩)⟩)⟩)⟩) ?_
  exact zt_X16_isShut_J177 hX hr hR hd hf hk hrec h
def zf_X16_isShut_J123 (N : Nat) (k : Nat → Int32 → Int32 → Int32 → Int32 → Int32 → zm_S → Option ((Int32 × zm_S) ⊕ ((Int32) × zm_S))) (a0 : Nat) (i1 : Int32) (i2 : Int32) (i3 : Int32) (i4 : Int32) (i5 : Int32) (i6 : Int32) (i7 : Int32) (S : zm_S) : Option ((Int32 × zm_S) ⊕ ((Int32) × zm_S)) := zf_X16_isShut_J177 N (k) a0 i1 i2 i3 i4 i5 i6 i7 (0 : Int32) S
set_option maxHeartbeats 4000000 in
set_option maxRecDepth 100000 in
theorem zt_X16_isShut_J123 {p : Program} {l : Launch} {e : Env} {R : Room} {s : State} {m : MethodId} {args : Array Value} {below : List Frame} {meth : Method} {c : Code} {V : zm_V} {mc ms d rc rs : Nat} (hX : zm_X p R s m args meth c RX16 "isShut" cX16_isShut 9 zk_E V mc ms) (hr : meth.sig.returnType = (some .boolean)) (hR : R.frames = d ∧ R.locals = 64 * d) (hd : 2 ≤ d) {N : Nat} {k : Nat → Int32 → Int32 → Int32 → Int32 → Int32 → zm_S → Option ((Int32 × zm_S) ⊕ ((Int32) × zm_S))} {a0 : Nat} {i1 : Int32} {i2 : Int32} {i3 : Int32} {i4 : Int32} {i5 : Int32} {i6 : Int32} {i7 : Int32} {res : (Int32 × zm_S) ⊕ ((Int32) × zm_S)} {out : (Int32 × zm_S)}   (hf : ∀ o, res = .inl o → o = out) (hk : ∀ (x4 : Int32) (S' : zm_S), res = .inr (x4, S') → zw p l e R s m args below meth c (vx_MQ below (zm_Qc zk_E V (zo_i out)) (zm_XC zk_E V zo_x) args s mc ms (fun q => V.2.2.2.1 ≤ q)) 9 zk_E V mc ms 209 [(4, .int x4)] [] S' rc rs) (hrec : ∀ (i4' : Int32) (i5' : Int32) (S : zm_S), k a0 i1 i2 i3 i4' i5' S = some res → zw p l e R s m args below meth c (vx_MQ below (zm_Qc zk_E V (zo_i out)) (zm_XC zk_E V zo_x) args s mc ms (fun q => V.2.2.2.1 ≤ q)) 9 zk_E V mc ms 6 [(0, .ref a0), (1, .int i1), (2, .int i2), (3, .int i3), (4, .int i4'), (5, .int i5')] [] S rc rs) {S : zm_S} (h : zf_X16_isShut_J123 N k a0 i1 i2 i3 i4 i5 i6 i7 S = some res) : zw p l e R s m args below meth c (vx_MQ below (zm_Qc zk_E V (zo_i out)) (zm_XC zk_E V zo_x) args s mc ms (fun q => V.2.2.2.1 ≤ q)) 9 zk_E V mc ms 123 [(0, .ref a0), (1, .int i1), (2, .int i2), (3, .int i3), (4, .int i4), (5, .int i5), (6, .int i6), (7, .int i7)] [] S rc rs := by
  unfold zf_X16_isShut_J123 at h
  refine zw_iconst (v := (0 : Int32)) hX dX16_isShut_123 (by decide) ?_
  refine zw_goto (tgt := 177) hX dX16_isShut_124 (by decide) ?_
  refine zw_sub (lv' := [(0, .ref a0), (1, .int i1), (2, .int i2), (3, .int i3), (4, .int i4), (5, .int i5), (6, .int i6), (7, .int i7)]) (List.forall_mem_cons.mpr ⟨rfl, (List.forall_mem_cons.mpr ⟨rfl, (List.forall_mem_cons.mpr ⟨rfl, (List.forall_mem_cons.mpr ⟨rfl, (List.forall_mem_cons.mpr ⟨rfl, (List.forall_mem_cons.mpr ⟨rfl, (List.forall_mem_cons.mpr ⟨rfl, (List.forall_mem_cons.mpr ⟨rfl, zs_nil⟩)⟩)⟩)⟩)⟩)⟩)⟩)⟩) ?_
  exact zt_X16_isShut_J177 hX hr hR hd hf hk hrec h
def zf_X16_isShut_J68 (N : Nat) (k : Nat → Int32 → Int32 → Int32 → Int32 → Int32 → zm_S → Option ((Int32 × zm_S) ⊕ ((Int32) × zm_S))) (a0 : Nat) (i1 : Int32) (i2 : Int32) (i3 : Int32) (i4 : Int32) (i5 : Int32) (i6 : Int32) (t0 : Int32) (S : zm_S) : Option ((Int32 × zm_S) ⊕ ((Int32) × zm_S)) := if i3 = 0 then if i1 ≤ 0 then zf_X16_isShut_J176 N (k) a0 i1 i2 i3 i4 i5 i6 t0 S else (zg_i S a0 16 12).bind (fun v8 => if v8 ≤ i1 then zf_X16_isShut_J176 N (k) a0 i1 i2 i3 i4 i5 i6 t0 S else (zg_r S a0 16 1).bind (fun b9 => (za_x S 0 b9 i5).bind (fun v10 => (zg_r S a0 16 14).bind (fun b11 => (za_x S 0 b11 (i1 - (1 : Int32))).bind (fun v12 => if v12 < v10 then zf_X16_isShut_J176 N (k) a0 i1 i2 i3 i4 i5 i6 t0 S else (zi S a0 16).bind (fun _ => (zf_X16_highX N a0 i5 S).bind (fun r15 => (zg_r r15.2 a0 16 14).bind (fun b16 => (za_x r15.2 0 b16 i1).bind (fun v17 => if r15.1 < v17 then zf_X16_isShut_J176 N (k) a0 i1 i2 i3 i4 i5 i6 t0 r15.2 else zf_X16_isShut_J177 N (k) a0 i1 i2 i3 i4 i5 i6 t0 (1 : Int32) r15.2))))))))) else if i2 ≤ 0 then zf_X16_isShut_J123 N (k) a0 i1 i2 i3 i4 i5 i6 t0 S else (zg_i S a0 16 13).bind (fun v18 => if v18 ≤ i2 then zf_X16_isShut_J123 N (k) a0 i1 i2 i3 i4 i5 i6 t0 S else (zg_r S a0 16 2).bind (fun b19 => (za_x S 0 b19 i5).bind (fun v20 => (zg_r S a0 16 15).bind (fun b21 => (za_x S 0 b21 (i2 - (1 : Int32))).bind (fun v22 => if v22 < v20 then zf_X16_isShut_J123 N (k) a0 i1 i2 i3 i4 i5 i6 t0 S else (zi S a0 16).bind (fun _ => (zf_X16_highY N a0 i5 S).bind (fun r25 => (zg_r r25.2 a0 16 15).bind (fun b26 => (za_x r25.2 0 b26 i2).bind (fun v27 => if r25.1 < v27 then zf_X16_isShut_J123 N (k) a0 i1 i2 i3 i4 i5 i6 t0 r25.2 else zf_X16_isShut_J177 N (k) a0 i1 i2 i3 i4 i5 i6 t0 (1 : Int32) r25.2)))))))))
set_option maxHeartbeats 4000000 in
set_option maxRecDepth 100000 in
theorem zt_X16_isShut_J68 {p : Program} {l : Launch} {e : Env} {R : Room} {s : State} {m : MethodId} {args : Array Value} {below : List Frame} {meth : Method} {c : Code} {V : zm_V} {mc ms d rc rs : Nat} (hX : zm_X p R s m args meth c RX16 "isShut" cX16_isShut 9 zk_E V mc ms) (hr : meth.sig.returnType = (some .boolean)) (hR : R.frames = d ∧ R.locals = 64 * d) (hd : 2 ≤ d) {N : Nat} {k : Nat → Int32 → Int32 → Int32 → Int32 → Int32 → zm_S → Option ((Int32 × zm_S) ⊕ ((Int32) × zm_S))} {a0 : Nat} {i1 : Int32} {i2 : Int32} {i3 : Int32} {i4 : Int32} {i5 : Int32} {i6 : Int32} {t0 : Int32} {res : (Int32 × zm_S) ⊕ ((Int32) × zm_S)} {out : (Int32 × zm_S)}   (hf : ∀ o, res = .inl o → o = out) (hk : ∀ (x4 : Int32) (S' : zm_S), res = .inr (x4, S') → zw p l e R s m args below meth c (vx_MQ below (zm_Qc zk_E V (zo_i out)) (zm_XC zk_E V zo_x) args s mc ms (fun q => V.2.2.2.1 ≤ q)) 9 zk_E V mc ms 209 [(4, .int x4)] [] S' rc rs) (hrec : ∀ (i4' : Int32) (i5' : Int32) (S : zm_S), k a0 i1 i2 i3 i4' i5' S = some res → zw p l e R s m args below meth c (vx_MQ below (zm_Qc zk_E V (zo_i out)) (zm_XC zk_E V zo_x) args s mc ms (fun q => V.2.2.2.1 ≤ q)) 9 zk_E V mc ms 6 [(0, .ref a0), (1, .int i1), (2, .int i2), (3, .int i3), (4, .int i4'), (5, .int i5')] [] S rc rs) {S : zm_S} (h : zf_X16_isShut_J68 N k a0 i1 i2 i3 i4 i5 i6 t0 S = some res) : zw p l e R s m args below meth c (vx_MQ below (zm_Qc zk_E V (zo_i out)) (zm_XC zk_E V zo_x) args s mc ms (fun q => V.2.2.2.1 ≤ q)) 9 zk_E V mc ms 68 [(0, .ref a0), (1, .int i1), (2, .int i2), (3, .int i3), (4, .int i4), (5, .int i5), (6, .int i6)] [.int t0] S rc rs := by
  unfold zf_X16_isShut_J68 at h
  refine zw_istore hX dX16_isShut_68 (by decide) ?_
  refine zw_iload_n hX dX16_isShut_70 rfl ?_
  refine zw_if_eq (tgt := 127) hX dX16_isShut_71 (by decide) (fun c71 => ?_) (fun c71 => ?_)
  · rw [if_pos c71] at h
    refine zw_iload_n hX dX16_isShut_127 rfl ?_
    refine zw_if_le (tgt := 176) hX dX16_isShut_128 (by decide) (fun c128 => ?_) (fun c128 => ?_)
    · rw [if_pos c128] at h
      refine zw_sub (lv' := [(0, .ref a0), (1, .int i1), (2, .int i2), (3, .int i3), (4, .int i4), (5, .int i5), (6, .int i6), (7, .int t0)]) (List.forall_mem_cons.mpr ⟨rfl, (List.forall_mem_cons.mpr ⟨rfl, (List.forall_mem_cons.mpr ⟨rfl, (List.forall_mem_cons.mpr ⟨rfl, (List.forall_mem_cons.mpr ⟨rfl, (List.forall_mem_cons.mpr ⟨rfl, (List.forall_mem_cons.mpr ⟨rfl, (List.forall_mem_cons.mpr ⟨rfl, zs_nil⟩)⟩)⟩)⟩)⟩)⟩)⟩)⟩) ?_
      exact zt_X16_isShut_J176 hX hr hR hd hf hk hrec h
    · rw [if_neg c128] at h
      refine zw_iload_n hX dX16_isShut_131 rfl ?_
      refine zw_aload_n hX dX16_isShut_132 rfl ?_
      obtain ⟨v8, g, h⟩ := zb_some h
      refine zw_geti hX zl_X16_118 dX16_isShut_133 g ?_
      refine zw_icmp_ge (tgt := 176) hX dX16_isShut_136 (by decide) (fun c136 => ?_) (fun c136 => ?_)
      · rw [if_pos c136] at h
        refine zw_sub (lv' := [(0, .ref a0), (1, .int i1), (2, .int i2), (3, .int i3), (4, .int i4), (5, .int i5), (6, .int i6), (7, .int t0)]) (List.forall_mem_cons.mpr ⟨rfl, (List.forall_mem_cons.mpr ⟨rfl, (List.forall_mem_cons.mpr ⟨rfl, (List.forall_mem_cons.mpr ⟨rfl, (List.forall_mem_cons.mpr ⟨rfl, (List.forall_mem_cons.mpr ⟨rfl, (List.forall_mem_cons.mpr ⟨rfl, (List.forall_mem_cons.mpr ⟨rfl, zs_nil⟩)⟩)⟩)⟩)⟩)⟩)⟩)⟩) ?_
        exact zt_X16_isShut_J176 hX hr hR hd hf hk hrec h
      · rw [if_neg c136] at h
        refine zw_aload_n hX dX16_isShut_139 rfl ?_
        obtain ⟨b9, g, h⟩ := zb_some h
        refine zw_getr hX zl_X16_7 dX16_isShut_140 g ?_
        refine zw_iload hX dX16_isShut_143 rfl ?_
        obtain ⟨v10, g, h⟩ := zb_some h
        refine zw_xi hX dX16_isShut_145 g ?_
        refine zw_aload_n hX dX16_isShut_146 rfl ?_
        obtain ⟨b11, g, h⟩ := zb_some h
        refine zw_getr hX zl_X16_35 dX16_isShut_147 g ?_
        refine zw_iload_n hX dX16_isShut_150 rfl ?_
        refine zw_iconst (v := (1 : Int32)) hX dX16_isShut_151 (by decide) ?_
        refine zw_isub hX dX16_isShut_152 ?_
        obtain ⟨v12, g, h⟩ := zb_some h
        refine zw_xi hX dX16_isShut_153 g ?_
        refine zw_icmp_gt (tgt := 176) hX dX16_isShut_154 (by decide) (fun c154 => ?_) (fun c154 => ?_)
        · rw [if_pos c154] at h
          refine zw_sub (lv' := [(0, .ref a0), (1, .int i1), (2, .int i2), (3, .int i3), (4, .int i4), (5, .int i5), (6, .int i6), (7, .int t0)]) (List.forall_mem_cons.mpr ⟨rfl, (List.forall_mem_cons.mpr ⟨rfl, (List.forall_mem_cons.mpr ⟨rfl, (List.forall_mem_cons.mpr ⟨rfl, (List.forall_mem_cons.mpr ⟨rfl, (List.forall_mem_cons.mpr ⟨rfl, (List.forall_mem_cons.mpr ⟨rfl, (List.forall_mem_cons.mpr ⟨rfl, zs_nil⟩)⟩)⟩)⟩)⟩)⟩)⟩)⟩) ?_
          exact zt_X16_isShut_J176 hX hr hR hd hf hk hrec h
        · rw [if_neg c154] at h
          refine zw_aload_n hX dX16_isShut_157 rfl ?_
          refine zw_iload hX dX16_isShut_158 rfl ?_
          obtain ⟨_, gi, h⟩ := zb_some h
          obtain ⟨r15, g, h⟩ := zb_some h
          refine zc_Vi (as := [.int i5]) hX gi (zt_X16_highX (d := d - 1) (by omega) g) zl_X16_89 rfl dX16_isShut_160 ⟨rfl, rfl, Nat.le_of_ble_eq_true rfl⟩ ⟨by omega, by omega⟩ ?_
          refine zw_aload_n hX dX16_isShut_163 rfl ?_
          obtain ⟨b16, g, h⟩ := zb_some h
          refine zw_getr hX zl_X16_35 dX16_isShut_164 g ?_
          refine zw_iload_n hX dX16_isShut_167 rfl ?_
          obtain ⟨v17, g, h⟩ := zb_some h
          refine zw_xi hX dX16_isShut_168 g ?_
          refine zw_icmp_lt (tgt := 176) hX dX16_isShut_169 (by decide) (fun c169 => ?_) (fun c169 => ?_)
          · rw [if_pos c169] at h
            refine zw_sub (lv' := [(0, .ref a0), (1, .int i1), (2, .int i2), (3, .int i3), (4, .int i4), (5, .int i5), (6, .int i6), (7, .int t0)]) (List.forall_mem_cons.mpr ⟨rfl, (List.forall_mem_cons.mpr ⟨rfl, (List.forall_mem_cons.mpr ⟨rfl, (List.forall_mem_cons.mpr ⟨rfl, (List.forall_mem_cons.mpr ⟨rfl, (List.forall_mem_cons.mpr ⟨rfl, (List.forall_mem_cons.mpr ⟨rfl, (List.forall_mem_cons.mpr ⟨rfl, zs_nil⟩)⟩)⟩)⟩)⟩)⟩)⟩)⟩) ?_
            exact zt_X16_isShut_J176 hX hr hR hd hf hk hrec h
          · rw [if_neg c169] at h
            refine zw_iconst (v := (1 : Int32)) hX dX16_isShut_172 (by decide) ?_
            refine zw_goto (tgt := 177) hX dX16_isShut_173 (by decide) ?_
            refine zw_sub (lv' := [(0, .ref a0), (1, .int i1), (2, .int i2), (3, .int i3), (4, .int i4), (5, .int i5), (6, .int i6), (7, .int t0)]) (List.forall_mem_cons.mpr ⟨rfl, (List.forall_mem_cons.mpr ⟨rfl, (List.forall_mem_cons.mpr ⟨rfl, (List.forall_mem_cons.mpr ⟨rfl, (List.forall_mem_cons.mpr ⟨rfl, (List.forall_mem_cons.mpr ⟨rfl, (List.forall_mem_cons.mpr ⟨rfl, (List.forall_mem_cons.mpr ⟨rfl, zs_nil⟩)⟩)⟩)⟩)⟩)⟩)⟩)⟩) ?_
            exact zt_X16_isShut_J177 hX hr hR hd hf hk hrec h
  · rw [if_neg c71] at h
    refine zw_iload_n hX dX16_isShut_74 rfl ?_
    refine zw_if_le (tgt := 123) hX dX16_isShut_75 (by decide) (fun c75 => ?_) (fun c75 => ?_)
    · rw [if_pos c75] at h
      refine zw_sub (lv' := [(0, .ref a0), (1, .int i1), (2, .int i2), (3, .int i3), (4, .int i4), (5, .int i5), (6, .int i6), (7, .int t0)]) (List.forall_mem_cons.mpr ⟨rfl, (List.forall_mem_cons.mpr ⟨rfl, (List.forall_mem_cons.mpr ⟨rfl, (List.forall_mem_cons.mpr ⟨rfl, (List.forall_mem_cons.mpr ⟨rfl, (List.forall_mem_cons.mpr ⟨rfl, (List.forall_mem_cons.mpr ⟨rfl, (List.forall_mem_cons.mpr ⟨rfl, zs_nil⟩)⟩)⟩)⟩)⟩)⟩)⟩)⟩) ?_
      exact zt_X16_isShut_J123 hX hr hR hd hf hk hrec h
    · rw [if_neg c75] at h
      refine zw_iload_n hX dX16_isShut_78 rfl ?_
      refine zw_aload_n hX dX16_isShut_79 rfl ?_
      obtain ⟨v18, g, h⟩ := zb_some h
      refine zw_geti hX zl_X16_115 dX16_isShut_80 g ?_
      refine zw_icmp_ge (tgt := 123) hX dX16_isShut_83 (by decide) (fun c83 => ?_) (fun c83 => ?_)
      · rw [if_pos c83] at h
        refine zw_sub (lv' := [(0, .ref a0), (1, .int i1), (2, .int i2), (3, .int i3), (4, .int i4), (5, .int i5), (6, .int i6), (7, .int t0)]) (List.forall_mem_cons.mpr ⟨rfl, (List.forall_mem_cons.mpr ⟨rfl, (List.forall_mem_cons.mpr ⟨rfl, (List.forall_mem_cons.mpr ⟨rfl, (List.forall_mem_cons.mpr ⟨rfl, (List.forall_mem_cons.mpr ⟨rfl, (List.forall_mem_cons.mpr ⟨rfl, (List.forall_mem_cons.mpr ⟨rfl, zs_nil⟩)⟩)⟩)⟩)⟩)⟩)⟩)⟩) ?_
        exact zt_X16_isShut_J123 hX hr hR hd hf hk hrec h
      · rw [if_neg c83] at h
        refine zw_aload_n hX dX16_isShut_86 rfl ?_
        obtain ⟨b19, g, h⟩ := zb_some h
        refine zw_getr hX zl_X16_13 dX16_isShut_87 g ?_
        refine zw_iload hX dX16_isShut_90 rfl ?_
        obtain ⟨v20, g, h⟩ := zb_some h
        refine zw_xi hX dX16_isShut_92 g ?_
        refine zw_aload_n hX dX16_isShut_93 rfl ?_
        obtain ⟨b21, g, h⟩ := zb_some h
        refine zw_getr hX zl_X16_38 dX16_isShut_94 g ?_
        refine zw_iload_n hX dX16_isShut_97 rfl ?_
        refine zw_iconst (v := (1 : Int32)) hX dX16_isShut_98 (by decide) ?_
        refine zw_isub hX dX16_isShut_99 ?_
        obtain ⟨v22, g, h⟩ := zb_some h
        refine zw_xi hX dX16_isShut_100 g ?_
        refine zw_icmp_gt (tgt := 123) hX dX16_isShut_101 (by decide) (fun c101 => ?_) (fun c101 => ?_)
        · rw [if_pos c101] at h
          refine zw_sub (lv' := [(0, .ref a0), (1, .int i1), (2, .int i2), (3, .int i3), (4, .int i4), (5, .int i5), (6, .int i6), (7, .int t0)]) (List.forall_mem_cons.mpr ⟨rfl, (List.forall_mem_cons.mpr ⟨rfl, (List.forall_mem_cons.mpr ⟨rfl, (List.forall_mem_cons.mpr ⟨rfl, (List.forall_mem_cons.mpr ⟨rfl, (List.forall_mem_cons.mpr ⟨rfl, (List.forall_mem_cons.mpr ⟨rfl, (List.forall_mem_cons.mpr ⟨rfl, zs_nil⟩)⟩)⟩)⟩)⟩)⟩)⟩)⟩) ?_
          exact zt_X16_isShut_J123 hX hr hR hd hf hk hrec h
        · rw [if_neg c101] at h
          refine zw_aload_n hX dX16_isShut_104 rfl ?_
          refine zw_iload hX dX16_isShut_105 rfl ?_
          obtain ⟨_, gi, h⟩ := zb_some h
          obtain ⟨r25, g, h⟩ := zb_some h
          refine zc_Vi (as := [.int i5]) hX gi (zt_X16_highY (d := d - 1) (by omega) g) zl_X16_93 rfl dX16_isShut_107 ⟨rfl, rfl, Nat.le_of_ble_eq_true rfl⟩ ⟨by omega, by omega⟩ ?_
          refine zw_aload_n hX dX16_isShut_110 rfl ?_
          obtain ⟨b26, g, h⟩ := zb_some h
          refine zw_getr hX zl_X16_38 dX16_isShut_111 g ?_
          refine zw_iload_n hX dX16_isShut_114 rfl ?_
          obtain ⟨v27, g, h⟩ := zb_some h
          refine zw_xi hX dX16_isShut_115 g ?_
          refine zw_icmp_lt (tgt := 123) hX dX16_isShut_116 (by decide) (fun c116 => ?_) (fun c116 => ?_)
          · rw [if_pos c116] at h
            refine zw_sub (lv' := [(0, .ref a0), (1, .int i1), (2, .int i2), (3, .int i3), (4, .int i4), (5, .int i5), (6, .int i6), (7, .int t0)]) (List.forall_mem_cons.mpr ⟨rfl, (List.forall_mem_cons.mpr ⟨rfl, (List.forall_mem_cons.mpr ⟨rfl, (List.forall_mem_cons.mpr ⟨rfl, (List.forall_mem_cons.mpr ⟨rfl, (List.forall_mem_cons.mpr ⟨rfl, (List.forall_mem_cons.mpr ⟨rfl, (List.forall_mem_cons.mpr ⟨rfl, zs_nil⟩)⟩)⟩)⟩)⟩)⟩)⟩)⟩) ?_
            exact zt_X16_isShut_J123 hX hr hR hd hf hk hrec h
          · rw [if_neg c116] at h
            refine zw_iconst (v := (1 : Int32)) hX dX16_isShut_119 (by decide) ?_
            refine zw_goto (tgt := 177) hX dX16_isShut_120 (by decide) ?_
            refine zw_sub (lv' := [(0, .ref a0), (1, .int i1), (2, .int i2), (3, .int i3), (4, .int i4), (5, .int i5), (6, .int i6), (7, .int t0)]) (List.forall_mem_cons.mpr ⟨rfl, (List.forall_mem_cons.mpr ⟨rfl, (List.forall_mem_cons.mpr ⟨rfl, (List.forall_mem_cons.mpr ⟨rfl, (List.forall_mem_cons.mpr ⟨rfl, (List.forall_mem_cons.mpr ⟨rfl, (List.forall_mem_cons.mpr ⟨rfl, (List.forall_mem_cons.mpr ⟨rfl, zs_nil⟩)⟩)⟩)⟩)⟩)⟩)⟩)⟩) ?_
            exact zt_X16_isShut_J177 hX hr hR hd hf hk hrec h
def zf_X16_isShut_J47 (N : Nat) (k : Nat → Int32 → Int32 → Int32 → Int32 → Int32 → zm_S → Option ((Int32 × zm_S) ⊕ ((Int32) × zm_S))) (a0 : Nat) (i1 : Int32) (i2 : Int32) (i3 : Int32) (i4 : Int32) (i5 : Int32) (t0 : Int32) (S : zm_S) : Option ((Int32 × zm_S) ⊕ ((Int32) × zm_S)) := if i3 = 0 then (zg_r S a0 16 15).bind (fun b6 => (za_x S 0 b6 i2).bind (fun v7 => zf_X16_isShut_J68 N (k) a0 i1 i2 i3 i4 i5 t0 v7 S)) else (zg_r S a0 16 14).bind (fun b28 => (za_x S 0 b28 i1).bind (fun v29 => zf_X16_isShut_J68 N (k) a0 i1 i2 i3 i4 i5 t0 v29 S))
set_option maxHeartbeats 4000000 in
set_option maxRecDepth 100000 in
theorem zt_X16_isShut_J47 {p : Program} {l : Launch} {e : Env} {R : Room} {s : State} {m : MethodId} {args : Array Value} {below : List Frame} {meth : Method} {c : Code} {V : zm_V} {mc ms d rc rs : Nat} (hX : zm_X p R s m args meth c RX16 "isShut" cX16_isShut 9 zk_E V mc ms) (hr : meth.sig.returnType = (some .boolean)) (hR : R.frames = d ∧ R.locals = 64 * d) (hd : 2 ≤ d) {N : Nat} {k : Nat → Int32 → Int32 → Int32 → Int32 → Int32 → zm_S → Option ((Int32 × zm_S) ⊕ ((Int32) × zm_S))} {a0 : Nat} {i1 : Int32} {i2 : Int32} {i3 : Int32} {i4 : Int32} {i5 : Int32} {t0 : Int32} {res : (Int32 × zm_S) ⊕ ((Int32) × zm_S)} {out : (Int32 × zm_S)}   (hf : ∀ o, res = .inl o → o = out) (hk : ∀ (x4 : Int32) (S' : zm_S), res = .inr (x4, S') → zw p l e R s m args below meth c (vx_MQ below (zm_Qc zk_E V (zo_i out)) (zm_XC zk_E V zo_x) args s mc ms (fun q => V.2.2.2.1 ≤ q)) 9 zk_E V mc ms 209 [(4, .int x4)] [] S' rc rs) (hrec : ∀ (i4' : Int32) (i5' : Int32) (S : zm_S), k a0 i1 i2 i3 i4' i5' S = some res → zw p l e R s m args below meth c (vx_MQ below (zm_Qc zk_E V (zo_i out)) (zm_XC zk_E V zo_x) args s mc ms (fun q => V.2.2.2.1 ≤ q)) 9 zk_E V mc ms 6 [(0, .ref a0), (1, .int i1), (2, .int i2), (3, .int i3), (4, .int i4'), (5, .int i5')] [] S rc rs) {S : zm_S} (h : zf_X16_isShut_J47 N k a0 i1 i2 i3 i4 i5 t0 S = some res) : zw p l e R s m args below meth c (vx_MQ below (zm_Qc zk_E V (zo_i out)) (zm_XC zk_E V zo_x) args s mc ms (fun q => V.2.2.2.1 ≤ q)) 9 zk_E V mc ms 47 [(0, .ref a0), (1, .int i1), (2, .int i2), (3, .int i3), (4, .int i4), (5, .int i5)] [.int t0] S rc rs := by
  unfold zf_X16_isShut_J47 at h
  refine zw_istore hX dX16_isShut_47 (by decide) ?_
  refine zw_iload_n hX dX16_isShut_49 rfl ?_
  refine zw_if_eq (tgt := 62) hX dX16_isShut_50 (by decide) (fun c50 => ?_) (fun c50 => ?_)
  · rw [if_pos c50] at h
    refine zw_aload_n hX dX16_isShut_62 rfl ?_
    obtain ⟨b6, g, h⟩ := zb_some h
    refine zw_getr hX zl_X16_38 dX16_isShut_63 g ?_
    refine zw_iload_n hX dX16_isShut_66 rfl ?_
    obtain ⟨v7, g, h⟩ := zb_some h
    refine zw_xi hX dX16_isShut_67 g ?_
    refine zw_sub (lv' := [(0, .ref a0), (1, .int i1), (2, .int i2), (3, .int i3), (4, .int i4), (5, .int i5), (6, .int t0)]) (List.forall_mem_cons.mpr ⟨rfl, (List.forall_mem_cons.mpr ⟨rfl, (List.forall_mem_cons.mpr ⟨rfl, (List.forall_mem_cons.mpr ⟨rfl, (List.forall_mem_cons.mpr ⟨rfl, (List.forall_mem_cons.mpr ⟨rfl, (List.forall_mem_cons.mpr ⟨rfl, zs_nil⟩)⟩)⟩)⟩)⟩)⟩)⟩) ?_
    exact zt_X16_isShut_J68 hX hr hR hd hf hk hrec h
  · rw [if_neg c50] at h
    refine zw_aload_n hX dX16_isShut_53 rfl ?_
    obtain ⟨b28, g, h⟩ := zb_some h
    refine zw_getr hX zl_X16_35 dX16_isShut_54 g ?_
    refine zw_iload_n hX dX16_isShut_57 rfl ?_
    obtain ⟨v29, g, h⟩ := zb_some h
    refine zw_xi hX dX16_isShut_58 g ?_
    refine zw_goto (tgt := 68) hX dX16_isShut_59 (by decide) ?_
    refine zw_sub (lv' := [(0, .ref a0), (1, .int i1), (2, .int i2), (3, .int i3), (4, .int i4), (5, .int i5), (6, .int t0)]) (List.forall_mem_cons.mpr ⟨rfl, (List.forall_mem_cons.mpr ⟨rfl, (List.forall_mem_cons.mpr ⟨rfl, (List.forall_mem_cons.mpr ⟨rfl, (List.forall_mem_cons.mpr ⟨rfl, (List.forall_mem_cons.mpr ⟨rfl, (List.forall_mem_cons.mpr ⟨rfl, zs_nil⟩)⟩)⟩)⟩)⟩)⟩)⟩) ?_
    exact zt_X16_isShut_J68 hX hr hR hd hf hk hrec h
def zf_X16_isShut_L6 (N : Nat) : Nat → Nat → Int32 → Int32 → Int32 → Int32 → Int32 → zm_S → Option ((Int32 × zm_S) ⊕ ((Int32) × zm_S))
  | 0, _, _, _, _, _, _, _ => none
  | n + 1, a0, i1, i2, i3, i4, i5, S => (zg_i S a0 16 0).bind (fun v1 => if v1 ≤ i5 then some (.inr (i4, S)) else (zg_r S a0 16 3).bind (fun b2 => (za_x S 2 b2 i5).bind (fun v3 => if v3 = i3 then zf_X16_isShut_L6 N n a0 i1 i2 i3 i4 (i5 + (1 : Int32)) S else if i3 = 0 then (zg_r S a0 16 2).bind (fun b4 => (za_x S 0 b4 i5).bind (fun v5 => zf_X16_isShut_J47 N (zf_X16_isShut_L6 N n) a0 i1 i2 i3 i4 i5 v5 S)) else (zg_r S a0 16 1).bind (fun b30 => (za_x S 0 b30 i5).bind (fun v31 => zf_X16_isShut_J47 N (zf_X16_isShut_L6 N n) a0 i1 i2 i3 i4 i5 v31 S)))))
set_option maxHeartbeats 4000000 in
set_option maxRecDepth 100000 in
theorem zt_X16_isShut_L6 {p : Program} {l : Launch} {e : Env} {R : Room} {s : State} {m : MethodId} {args : Array Value} {below : List Frame} {meth : Method} {c : Code} {V : zm_V} {mc ms d rc rs : Nat} (hX : zm_X p R s m args meth c RX16 "isShut" cX16_isShut 9 zk_E V mc ms) (hr : meth.sig.returnType = (some .boolean)) (hR : R.frames = d ∧ R.locals = 64 * d) (hd : 2 ≤ d) {N : Nat} {res : (Int32 × zm_S) ⊕ ((Int32) × zm_S)} {out : (Int32 × zm_S)} (a0 : Nat) (i1 : Int32) (i2 : Int32) (i3 : Int32) (hf : ∀ o, res = .inl o → o = out) (hk : ∀ (x4 : Int32) (S' : zm_S), res = .inr (x4, S') → zw p l e R s m args below meth c (vx_MQ below (zm_Qc zk_E V (zo_i out)) (zm_XC zk_E V zo_x) args s mc ms (fun q => V.2.2.2.1 ≤ q)) 9 zk_E V mc ms 209 [(4, .int x4)] [] S' rc rs) : ∀ (n : Nat) (i4 : Int32) (i5 : Int32) (S : zm_S), zf_X16_isShut_L6 N n a0 i1 i2 i3 i4 i5 S = some res → zw p l e R s m args below meth c (vx_MQ below (zm_Qc zk_E V (zo_i out)) (zm_XC zk_E V zo_x) args s mc ms (fun q => V.2.2.2.1 ≤ q)) 9 zk_E V mc ms 6 [(0, .ref a0), (1, .int i1), (2, .int i2), (3, .int i3), (4, .int i4), (5, .int i5)] [] S rc rs := by
  intro n
  induction n with
  | zero => intro i4 i5 S h; cases h
  | succ n ih =>
    intro i4 i5 S h
    rw [zf_X16_isShut_L6] at h
    refine zw_iload hX dX16_isShut_6 rfl ?_
    refine zw_aload_n hX dX16_isShut_8 rfl ?_
    obtain ⟨v1, g, h⟩ := zb_some h
    refine zw_geti hX zl_X16_96 dX16_isShut_9 g ?_
    refine zw_icmp_ge (tgt := 209) hX dX16_isShut_12 (by decide) (fun c12 => ?_) (fun c12 => ?_)
    · rw [if_pos c12] at h
      refine zw_sub (lv' := [(4, .int i4)]) (List.forall_mem_cons.mpr ⟨rfl, zs_nil⟩) ?_
      exact hk _ _ (Option.some.inj h).symm
    · rw [if_neg c12] at h
      refine zw_aload_n hX dX16_isShut_15 rfl ?_
      obtain ⟨b2, g, h⟩ := zb_some h
      refine zw_getr hX zl_X16_16 dX16_isShut_16 g ?_
      refine zw_iload hX dX16_isShut_19 rfl ?_
      obtain ⟨v3, g, h⟩ := zb_some h
      refine zw_xz hX dX16_isShut_21 g ?_
      refine zw_iload_n hX dX16_isShut_22 rfl ?_
      refine zw_icmp_eq (tgt := 203) hX dX16_isShut_23 (by decide) (fun c23 => ?_) (fun c23 => ?_)
      · rw [if_pos c23] at h
        refine zw_iinc (v := (i5 + (1 : Int32))) hX dX16_isShut_203 rfl rfl (by decide) ?_
        refine zw_goto (tgt := 6) hX dX16_isShut_206 (by decide) ?_
        refine zw_sub (lv' := [(0, .ref a0), (1, .int i1), (2, .int i2), (3, .int i3), (4, .int i4), (5, .int (i5 + (1 : Int32)))]) (List.forall_mem_cons.mpr ⟨rfl, (List.forall_mem_cons.mpr ⟨rfl, (List.forall_mem_cons.mpr ⟨rfl, (List.forall_mem_cons.mpr ⟨rfl, (List.forall_mem_cons.mpr ⟨rfl, (List.forall_mem_cons.mpr ⟨rfl, zs_nil⟩)⟩)⟩)⟩)⟩)⟩) ?_
        exact ih _ _ _ h
      · rw [if_neg c23] at h
        refine zw_iload_n hX dX16_isShut_26 rfl ?_
        refine zw_if_eq (tgt := 40) hX dX16_isShut_27 (by decide) (fun c27 => ?_) (fun c27 => ?_)
        · rw [if_pos c27] at h
          refine zw_aload_n hX dX16_isShut_40 rfl ?_
          obtain ⟨b4, g, h⟩ := zb_some h
          refine zw_getr hX zl_X16_13 dX16_isShut_41 g ?_
          refine zw_iload hX dX16_isShut_44 rfl ?_
          obtain ⟨v5, g, h⟩ := zb_some h
          refine zw_xi hX dX16_isShut_46 g ?_
          refine zw_sub (lv' := [(0, .ref a0), (1, .int i1), (2, .int i2), (3, .int i3), (4, .int i4), (5, .int i5)]) (List.forall_mem_cons.mpr ⟨rfl, (List.forall_mem_cons.mpr ⟨rfl, (List.forall_mem_cons.mpr ⟨rfl, (List.forall_mem_cons.mpr ⟨rfl, (List.forall_mem_cons.mpr ⟨rfl, (List.forall_mem_cons.mpr ⟨rfl, zs_nil⟩)⟩)⟩)⟩)⟩)⟩) ?_
          exact zt_X16_isShut_J47 hX hr hR hd hf hk ih h
        · rw [if_neg c27] at h
          refine zw_aload_n hX dX16_isShut_30 rfl ?_
          obtain ⟨b30, g, h⟩ := zb_some h
          refine zw_getr hX zl_X16_7 dX16_isShut_31 g ?_
          refine zw_iload hX dX16_isShut_34 rfl ?_
          obtain ⟨v31, g, h⟩ := zb_some h
          refine zw_xi hX dX16_isShut_36 g ?_
          refine zw_goto (tgt := 47) hX dX16_isShut_37 (by decide) ?_
          refine zw_sub (lv' := [(0, .ref a0), (1, .int i1), (2, .int i2), (3, .int i3), (4, .int i4), (5, .int i5)]) (List.forall_mem_cons.mpr ⟨rfl, (List.forall_mem_cons.mpr ⟨rfl, (List.forall_mem_cons.mpr ⟨rfl, (List.forall_mem_cons.mpr ⟨rfl, (List.forall_mem_cons.mpr ⟨rfl, (List.forall_mem_cons.mpr ⟨rfl, zs_nil⟩)⟩)⟩)⟩)⟩)⟩) ?_
          exact zt_X16_isShut_J47 hX hr hR hd hf hk ih h
def zf_X16_isShut (N : Nat) (a0 : Nat) (i1 : Int32) (i2 : Int32) (i3 : Int32) (S : zm_S) : Option (Int32 × zm_S) := (zf_X16_isShut_L6 N N a0 i1 i2 i3 (0 : Int32) (0 : Int32) S).bind (fun r => match r with | .inl o => some o | .inr (v33, S32) => if v33 = 0 ∨ v33 = 1 then some (v33, S32) else none)
set_option maxHeartbeats 4000000 in
set_option maxRecDepth 100000 in
theorem zt_X16_isShut {l : Launch} {V : zm_V} {N : Nat} {S : zm_S} {out : (Int32 × zm_S)} {d : Nat} {a0 : Nat} {i1 : Int32} {i2 : Int32} {i3 : Int32} (hd : 2 ≤ d) (h : zf_X16_isShut N a0 i1 i2 i3 S = some out) : zm_Met l zk_E V yX16_isShut (.code yX16_isShut cX16_isShut 9 (some .boolean)) d [.ref a0, .int i1, .int i2, .int i3] S 0 0 (zo_i out) zo_x := by
  refine zm_of (by decide +kernel) (Nat.le_of_ble_eq_true rfl) ?_
  intro p e R s m args below meth c hRR hX hr hxt
  have hR : R.frames = d ∧ R.locals = 64 * d := by rw [hRR]; exact ⟨rfl, rfl⟩
  have hX : zm_X p R s m args meth c RX16 "isShut" cX16_isShut 9 zk_E V 0 0 := hX
  unfold zf_X16_isShut at h
  refine zw_sub (lv' := [(0, .ref a0), (1, .int i1), (2, .int i2), (3, .int i3)]) (List.forall_mem_cons.mpr ⟨rfl, (List.forall_mem_cons.mpr ⟨rfl, (List.forall_mem_cons.mpr ⟨rfl, (List.forall_mem_cons.mpr ⟨rfl, zs_nil⟩)⟩)⟩)⟩) ?_
  refine zw_iconst (v := (0 : Int32)) hX dX16_isShut_0 (by decide) ?_
  refine zw_istore hX dX16_isShut_1 (by decide) ?_
  refine zw_iconst (v := (0 : Int32)) hX dX16_isShut_3 (by decide) ?_
  refine zw_istore hX dX16_isShut_4 (by decide) ?_
  obtain ⟨r, g, h⟩ := zb_some h
  refine zw_sub (lv' := [(0, .ref a0), (1, .int i1), (2, .int i2), (3, .int i3), (4, .int (0 : Int32)), (5, .int (0 : Int32))]) (List.forall_mem_cons.mpr ⟨rfl, (List.forall_mem_cons.mpr ⟨rfl, (List.forall_mem_cons.mpr ⟨rfl, (List.forall_mem_cons.mpr ⟨rfl, (List.forall_mem_cons.mpr ⟨rfl, (List.forall_mem_cons.mpr ⟨rfl, zs_nil⟩)⟩)⟩)⟩)⟩)⟩) ?_
  refine zt_X16_isShut_L6 hX hr hR hd (res := r) (out := out) a0 i1 i2 i3 ?_ ?_ N _ _ _ g
  · intro o ho
    subst ho
    exact Option.some.inj h
  · intro v33 S32 hx
    subst hx
    try dsimp only at h
    refine zw_iload hX dX16_isShut_209 rfl ?_
    by_cases cz : v33 = 0 ∨ v33 = 1
    · rw [if_pos cz] at h
      obtain rfl := Option.some.inj h
      exact zw_iret hX hr dX16_isShut_211 (zn_z cz) ⟨rfl, rfl⟩
    · rw [if_neg cz] at h
      cases h
def zf_X16_join_J51 (N : Nat) (a0 : Nat) (i1 : Int32) (i2 : Int32) (i3 : Int32) (t0 : Int32) (S : zm_S) : Option (Int32 × zm_S) := (zg_r S a0 16 16).bind (fun b11 => (zs_i S b11 i1 i3).bind (fun S12 => (zg_r S12 a0 16 16).bind (fun b13 => (zs_i S12 b13 i2 i3).bind (fun S14 => if t0 = 0 ∨ t0 = 1 then some (t0, S14) else none))))
set_option maxHeartbeats 4000000 in
set_option maxRecDepth 100000 in
theorem zt_X16_join_J51 {p : Program} {l : Launch} {e : Env} {R : Room} {s : State} {m : MethodId} {args : Array Value} {below : List Frame} {meth : Method} {c : Code} {V : zm_V} {mc ms d rc rs : Nat} (hX : zm_X p R s m args meth c RX16 "join" cX16_join 5 zk_E V mc ms) (hr : meth.sig.returnType = (some .boolean)) (hR : R.frames = d ∧ R.locals = 64 * d) (hd : 1 ≤ d) {N : Nat} {a0 : Nat} {i1 : Int32} {i2 : Int32} {i3 : Int32} {t0 : Int32} {out : (Int32 × zm_S)} {S : zm_S} (h : zf_X16_join_J51 N a0 i1 i2 i3 t0 S = some out) : zw p l e R s m args below meth c (vx_MQ below (zm_Qc zk_E V (zo_i out)) (zm_XC zk_E V zo_x) args s mc ms (fun q => V.2.2.2.1 ≤ q)) 5 zk_E V mc ms 51 [(0, .ref a0), (1, .int i1), (2, .int i2), (3, .int i3)] [.int t0] S rc rs := by
  unfold zf_X16_join_J51 at h
  refine zw_istore hX dX16_join_51 (by decide) ?_
  refine zw_aload_n hX dX16_join_53 rfl ?_
  obtain ⟨b11, g, h⟩ := zb_some h
  refine zw_getr hX zl_X16_41 dX16_join_54 g ?_
  refine zw_iload_n hX dX16_join_57 rfl ?_
  refine zw_iload_n hX dX16_join_58 rfl ?_
  obtain ⟨S12, g, h⟩ := zb_some h
  refine zw_si hX dX16_join_59 g ?_
  refine zw_aload_n hX dX16_join_60 rfl ?_
  obtain ⟨b13, g, h⟩ := zb_some h
  refine zw_getr hX zl_X16_41 dX16_join_61 g ?_
  refine zw_iload_n hX dX16_join_64 rfl ?_
  refine zw_iload_n hX dX16_join_65 rfl ?_
  obtain ⟨S14, g, h⟩ := zb_some h
  refine zw_si hX dX16_join_66 g ?_
  refine zw_iload hX dX16_join_67 rfl ?_
  by_cases cz : t0 = 0 ∨ t0 = 1
  · rw [if_pos cz] at h
    obtain rfl := Option.some.inj h
    exact zw_iret hX hr dX16_join_69 (zn_z cz) ⟨rfl, rfl⟩
  · rw [if_neg cz] at h
    cases h
def zf_X16_join_J30 (N : Nat) (a0 : Nat) (i1 : Int32) (i2 : Int32) (t0 : Int32) (S : zm_S) : Option (Int32 × zm_S) := (zg_r S a0 16 16).bind (fun b7 => (za_x S 0 b7 i1).bind (fun v8 => (zg_r S a0 16 16).bind (fun b9 => (za_x S 0 b9 i2).bind (fun v10 => if v8 = v10 then zf_X16_join_J51 N a0 i1 i2 t0 (0 : Int32) S else zf_X16_join_J51 N a0 i1 i2 t0 (1 : Int32) S))))
set_option maxHeartbeats 4000000 in
set_option maxRecDepth 100000 in
theorem zt_X16_join_J30 {p : Program} {l : Launch} {e : Env} {R : Room} {s : State} {m : MethodId} {args : Array Value} {below : List Frame} {meth : Method} {c : Code} {V : zm_V} {mc ms d rc rs : Nat} (hX : zm_X p R s m args meth c RX16 "join" cX16_join 5 zk_E V mc ms) (hr : meth.sig.returnType = (some .boolean)) (hR : R.frames = d ∧ R.locals = 64 * d) (hd : 1 ≤ d) {N : Nat} {a0 : Nat} {i1 : Int32} {i2 : Int32} {t0 : Int32} {out : (Int32 × zm_S)} {S : zm_S} (h : zf_X16_join_J30 N a0 i1 i2 t0 S = some out) : zw p l e R s m args below meth c (vx_MQ below (zm_Qc zk_E V (zo_i out)) (zm_XC zk_E V zo_x) args s mc ms (fun q => V.2.2.2.1 ≤ q)) 5 zk_E V mc ms 30 [(0, .ref a0), (1, .int i1), (2, .int i2)] [.int t0] S rc rs := by
  unfold zf_X16_join_J30 at h
  refine zw_istore_n hX dX16_join_30 (by decide) ?_
  refine zw_aload_n hX dX16_join_31 rfl ?_
  obtain ⟨b7, g, h⟩ := zb_some h
  refine zw_getr hX zl_X16_41 dX16_join_32 g ?_
  refine zw_iload_n hX dX16_join_35 rfl ?_
  obtain ⟨v8, g, h⟩ := zb_some h
  refine zw_xi hX dX16_join_36 g ?_
  refine zw_aload_n hX dX16_join_37 rfl ?_
  obtain ⟨b9, g, h⟩ := zb_some h
  refine zw_getr hX zl_X16_41 dX16_join_38 g ?_
  refine zw_iload_n hX dX16_join_41 rfl ?_
  obtain ⟨v10, g, h⟩ := zb_some h
  refine zw_xi hX dX16_join_42 g ?_
  refine zw_icmp_eq (tgt := 50) hX dX16_join_43 (by decide) (fun c43 => ?_) (fun c43 => ?_)
  · rw [if_pos c43] at h
    refine zw_iconst (v := (0 : Int32)) hX dX16_join_50 (by decide) ?_
    refine zw_sub (lv' := [(0, .ref a0), (1, .int i1), (2, .int i2), (3, .int t0)]) (List.forall_mem_cons.mpr ⟨rfl, (List.forall_mem_cons.mpr ⟨rfl, (List.forall_mem_cons.mpr ⟨rfl, (List.forall_mem_cons.mpr ⟨rfl, zs_nil⟩)⟩)⟩)⟩) ?_
    exact zt_X16_join_J51 hX hr hR hd h
  · rw [if_neg c43] at h
    refine zw_iconst (v := (1 : Int32)) hX dX16_join_46 (by decide) ?_
    refine zw_goto (tgt := 51) hX dX16_join_47 (by decide) ?_
    refine zw_sub (lv' := [(0, .ref a0), (1, .int i1), (2, .int i2), (3, .int t0)]) (List.forall_mem_cons.mpr ⟨rfl, (List.forall_mem_cons.mpr ⟨rfl, (List.forall_mem_cons.mpr ⟨rfl, (List.forall_mem_cons.mpr ⟨rfl, zs_nil⟩)⟩)⟩)⟩) ?_
    exact zt_X16_join_J51 hX hr hR hd h
def zf_X16_join (N : Nat) (a0 : Nat) (i1 : Int32) (i2 : Int32) (S : zm_S) : Option (Int32 × zm_S) := (zg_r S a0 16 16).bind (fun b1 => (za_x S 0 b1 i1).bind (fun v2 => (zg_r S a0 16 16).bind (fun b3 => (za_x S 0 b3 i2).bind (fun v4 => if v4 ≤ v2 then (zg_r S a0 16 16).bind (fun b5 => (za_x S 0 b5 i2).bind (fun v6 => zf_X16_join_J30 N a0 i1 i2 v6 S)) else (zg_r S a0 16 16).bind (fun b15 => (za_x S 0 b15 i1).bind (fun v16 => zf_X16_join_J30 N a0 i1 i2 v16 S))))))
set_option maxHeartbeats 4000000 in
set_option maxRecDepth 100000 in
theorem zt_X16_join {l : Launch} {V : zm_V} {N : Nat} {S : zm_S} {out : (Int32 × zm_S)} {d : Nat} {a0 : Nat} {i1 : Int32} {i2 : Int32} (hd : 1 ≤ d) (h : zf_X16_join N a0 i1 i2 S = some out) : zm_Met l zk_E V yX16_join (.code yX16_join cX16_join 5 (some .boolean)) d [.ref a0, .int i1, .int i2] S 0 0 (zo_i out) zo_x := by
  refine zm_of (by decide +kernel) (Nat.le_of_ble_eq_true rfl) ?_
  intro p e R s m args below meth c hRR hX hr hxt
  have hR : R.frames = d ∧ R.locals = 64 * d := by rw [hRR]; exact ⟨rfl, rfl⟩
  have hX : zm_X p R s m args meth c RX16 "join" cX16_join 5 zk_E V 0 0 := hX
  unfold zf_X16_join at h
  refine zw_sub (lv' := [(0, .ref a0), (1, .int i1), (2, .int i2)]) (List.forall_mem_cons.mpr ⟨rfl, (List.forall_mem_cons.mpr ⟨rfl, (List.forall_mem_cons.mpr ⟨rfl, zs_nil⟩)⟩)⟩) ?_
  refine zw_aload_n hX dX16_join_0 rfl ?_
  obtain ⟨b1, g, h⟩ := zb_some h
  refine zw_getr hX zl_X16_41 dX16_join_1 g ?_
  refine zw_iload_n hX dX16_join_4 rfl ?_
  obtain ⟨v2, g, h⟩ := zb_some h
  refine zw_xi hX dX16_join_5 g ?_
  refine zw_aload_n hX dX16_join_6 rfl ?_
  obtain ⟨b3, g, h⟩ := zb_some h
  refine zw_getr hX zl_X16_41 dX16_join_7 g ?_
  refine zw_iload_n hX dX16_join_10 rfl ?_
  obtain ⟨v4, g, h⟩ := zb_some h
  refine zw_xi hX dX16_join_11 g ?_
  refine zw_icmp_ge (tgt := 24) hX dX16_join_12 (by decide) (fun c12 => ?_) (fun c12 => ?_)
  · rw [if_pos c12] at h
    refine zw_aload_n hX dX16_join_24 rfl ?_
    obtain ⟨b5, g, h⟩ := zb_some h
    refine zw_getr hX zl_X16_41 dX16_join_25 g ?_
    refine zw_iload_n hX dX16_join_28 rfl ?_
    obtain ⟨v6, g, h⟩ := zb_some h
    refine zw_xi hX dX16_join_29 g ?_
    refine zw_sub (lv' := [(0, .ref a0), (1, .int i1), (2, .int i2)]) (List.forall_mem_cons.mpr ⟨rfl, (List.forall_mem_cons.mpr ⟨rfl, (List.forall_mem_cons.mpr ⟨rfl, zs_nil⟩)⟩)⟩) ?_
    exact zt_X16_join_J30 hX hr hR hd h
  · rw [if_neg c12] at h
    refine zw_aload_n hX dX16_join_15 rfl ?_
    obtain ⟨b15, g, h⟩ := zb_some h
    refine zw_getr hX zl_X16_41 dX16_join_16 g ?_
    refine zw_iload_n hX dX16_join_19 rfl ?_
    obtain ⟨v16, g, h⟩ := zb_some h
    refine zw_xi hX dX16_join_20 g ?_
    refine zw_goto (tgt := 30) hX dX16_join_21 (by decide) ?_
    refine zw_sub (lv' := [(0, .ref a0), (1, .int i1), (2, .int i2)]) (List.forall_mem_cons.mpr ⟨rfl, (List.forall_mem_cons.mpr ⟨rfl, (List.forall_mem_cons.mpr ⟨rfl, zs_nil⟩)⟩)⟩) ?_
    exact zt_X16_join_J30 hX hr hR hd h
def zf_X16_fill_L2 (N : Nat) : Nat → Nat → Int32 → zm_S → Option ((Unit × zm_S) ⊕ ((Unit) × zm_S))
  | 0, _, _, _ => none
  | n + 1, a0, i1, S => if (1764 : Int32) ≤ i1 then some (.inr ((), S)) else (zg_r S a0 16 16).bind (fun b1 => (zs_i S b1 i1 i1).bind (fun S2 => zf_X16_fill_L2 N n a0 (i1 + (1 : Int32)) S2))
set_option maxHeartbeats 4000000 in
set_option maxRecDepth 100000 in
theorem zt_X16_fill_L2 {p : Program} {l : Launch} {e : Env} {R : Room} {s : State} {m : MethodId} {args : Array Value} {below : List Frame} {meth : Method} {c : Code} {V : zm_V} {mc ms d rc rs : Nat} (hX : zm_X p R s m args meth c RX16 "fill" cX16_fill 5 zk_E V mc ms) (hr : meth.sig.returnType = none) (hR : R.frames = d ∧ R.locals = 64 * d) (hd : 3 ≤ d) {N : Nat} {res : (Unit × zm_S) ⊕ ((Unit) × zm_S)} {out : (Unit × zm_S)} (a0 : Nat) (hf : ∀ o, res = .inl o → o = out) (hk : ∀ (S' : zm_S), res = .inr ((), S') → zw p l e R s m args below meth c (vx_MQ below (zm_Qc zk_E V (zo_v out)) (zm_XC zk_E V zo_x) args s mc ms (fun q => V.2.2.2.1 ≤ q)) 5 zk_E V mc ms 22 [(0, .ref a0)] [] S' rc rs) : ∀ (n : Nat) (i1 : Int32) (S : zm_S), zf_X16_fill_L2 N n a0 i1 S = some res → zw p l e R s m args below meth c (vx_MQ below (zm_Qc zk_E V (zo_v out)) (zm_XC zk_E V zo_x) args s mc ms (fun q => V.2.2.2.1 ≤ q)) 5 zk_E V mc ms 2 [(0, .ref a0), (1, .int i1)] [] S rc rs := by
  intro n
  induction n with
  | zero => intro i1 S h; cases h
  | succ n ih =>
    intro i1 S h
    rw [zf_X16_fill_L2] at h
    refine zw_iload_n hX dX16_fill_2 rfl ?_
    refine zw_sipush (v := (1764 : Int32)) hX dX16_fill_3 (by decide) ?_
    refine zw_icmp_ge (tgt := 22) hX dX16_fill_6 (by decide) (fun c6 => ?_) (fun c6 => ?_)
    · rw [if_pos c6] at h
      refine zw_sub (lv' := [(0, .ref a0)]) (List.forall_mem_cons.mpr ⟨rfl, zs_nil⟩) ?_
      exact hk  _ (Option.some.inj h).symm
    · rw [if_neg c6] at h
      refine zw_aload_n hX dX16_fill_9 rfl ?_
      obtain ⟨b1, g, h⟩ := zb_some h
      refine zw_getr hX zl_X16_41 dX16_fill_10 g ?_
      refine zw_iload_n hX dX16_fill_13 rfl ?_
      refine zw_iload_n hX dX16_fill_14 rfl ?_
      obtain ⟨S2, g, h⟩ := zb_some h
      refine zw_si hX dX16_fill_15 g ?_
      refine zw_iinc (v := (i1 + (1 : Int32))) hX dX16_fill_16 rfl rfl (by decide) ?_
      refine zw_goto (tgt := 2) hX dX16_fill_19 (by decide) ?_
      refine zw_sub (lv' := [(0, .ref a0), (1, .int (i1 + (1 : Int32)))]) (List.forall_mem_cons.mpr ⟨rfl, (List.forall_mem_cons.mpr ⟨rfl, zs_nil⟩)⟩) ?_
      exact ih _ _ h
def zf_X16_fill_J135 (N : Nat) (k : Nat → Int32 → Int32 → Int32 → zm_S → Option ((Unit × zm_S) ⊕ ((Int32) × zm_S))) (a0 : Nat) (i2 : Int32) (i3 : Int32) (t0 : Int32) (t1 : Int32) (S : zm_S) : Option ((Unit × zm_S) ⊕ ((Int32) × zm_S)) := k a0 (t0 ||| t1) i2 (i3 + (1 : Int32)) S
set_option maxHeartbeats 4000000 in
set_option maxRecDepth 100000 in
theorem zt_X16_fill_J135 {p : Program} {l : Launch} {e : Env} {R : Room} {s : State} {m : MethodId} {args : Array Value} {below : List Frame} {meth : Method} {c : Code} {V : zm_V} {mc ms d rc rs : Nat} (hX : zm_X p R s m args meth c RX16 "fill" cX16_fill 5 zk_E V mc ms) (hr : meth.sig.returnType = none) (hR : R.frames = d ∧ R.locals = 64 * d) (hd : 3 ≤ d) {N : Nat} {k : Nat → Int32 → Int32 → Int32 → zm_S → Option ((Unit × zm_S) ⊕ ((Int32) × zm_S))} {a0 : Nat} {i2 : Int32} {i3 : Int32} {t0 : Int32} {t1 : Int32} {res : (Unit × zm_S) ⊕ ((Int32) × zm_S)} {out : (Unit × zm_S)}   (hf : ∀ o, res = .inl o → o = out) (hk : ∀ (x1 : Int32) (S' : zm_S), res = .inr (x1, S') → zw p l e R s m args below meth c (vx_MQ below (zm_Qc zk_E V (zo_v out)) (zm_XC zk_E V zo_x) args s mc ms (fun q => V.2.2.2.1 ≤ q)) 5 zk_E V mc ms 143 [(0, .ref a0), (1, .int x1), (2, .int i2)] [] S' rc rs) (hrec : ∀ (i1' : Int32) (i3' : Int32) (S : zm_S), k a0 i1' i2 i3' S = some res → zw p l e R s m args below meth c (vx_MQ below (zm_Qc zk_E V (zo_v out)) (zm_XC zk_E V zo_x) args s mc ms (fun q => V.2.2.2.1 ≤ q)) 5 zk_E V mc ms 42 [(0, .ref a0), (1, .int i1'), (2, .int i2), (3, .int i3')] [] S rc rs) {S : zm_S} (h : zf_X16_fill_J135 N k a0 i2 i3 t0 t1 S = some res) : zw p l e R s m args below meth c (vx_MQ below (zm_Qc zk_E V (zo_v out)) (zm_XC zk_E V zo_x) args s mc ms (fun q => V.2.2.2.1 ≤ q)) 5 zk_E V mc ms 135 [(0, .ref a0), (2, .int i2), (3, .int i3)] [.int t1, .int t0] S rc rs := by
  unfold zf_X16_fill_J135 at h
  refine zw_ior hX dX16_fill_135 ?_
  refine zw_istore_n hX dX16_fill_136 (by decide) ?_
  refine zw_iinc (v := (i3 + (1 : Int32))) hX dX16_fill_137 rfl rfl (by decide) ?_
  refine zw_goto (tgt := 42) hX dX16_fill_140 (by decide) ?_
  refine zw_sub (lv' := [(0, .ref a0), (1, .int (t0 ||| t1)), (2, .int i2), (3, .int (i3 + (1 : Int32)))]) (List.forall_mem_cons.mpr ⟨rfl, (List.forall_mem_cons.mpr ⟨rfl, (List.forall_mem_cons.mpr ⟨rfl, (List.forall_mem_cons.mpr ⟨rfl, zs_nil⟩)⟩)⟩)⟩) ?_
  exact hrec _ _ _ h
def zf_X16_fill_J134 (N : Nat) (k : Nat → Int32 → Int32 → Int32 → zm_S → Option ((Unit × zm_S) ⊕ ((Int32) × zm_S))) (a0 : Nat) (i2 : Int32) (i3 : Int32) (t0 : Int32) (S : zm_S) : Option ((Unit × zm_S) ⊕ ((Int32) × zm_S)) := zf_X16_fill_J135 N (k) a0 i2 i3 t0 (0 : Int32) S
set_option maxHeartbeats 4000000 in
set_option maxRecDepth 100000 in
theorem zt_X16_fill_J134 {p : Program} {l : Launch} {e : Env} {R : Room} {s : State} {m : MethodId} {args : Array Value} {below : List Frame} {meth : Method} {c : Code} {V : zm_V} {mc ms d rc rs : Nat} (hX : zm_X p R s m args meth c RX16 "fill" cX16_fill 5 zk_E V mc ms) (hr : meth.sig.returnType = none) (hR : R.frames = d ∧ R.locals = 64 * d) (hd : 3 ≤ d) {N : Nat} {k : Nat → Int32 → Int32 → Int32 → zm_S → Option ((Unit × zm_S) ⊕ ((Int32) × zm_S))} {a0 : Nat} {i2 : Int32} {i3 : Int32} {t0 : Int32} {res : (Unit × zm_S) ⊕ ((Int32) × zm_S)} {out : (Unit × zm_S)}   (hf : ∀ o, res = .inl o → o = out) (hk : ∀ (x1 : Int32) (S' : zm_S), res = .inr (x1, S') → zw p l e R s m args below meth c (vx_MQ below (zm_Qc zk_E V (zo_v out)) (zm_XC zk_E V zo_x) args s mc ms (fun q => V.2.2.2.1 ≤ q)) 5 zk_E V mc ms 143 [(0, .ref a0), (1, .int x1), (2, .int i2)] [] S' rc rs) (hrec : ∀ (i1' : Int32) (i3' : Int32) (S : zm_S), k a0 i1' i2 i3' S = some res → zw p l e R s m args below meth c (vx_MQ below (zm_Qc zk_E V (zo_v out)) (zm_XC zk_E V zo_x) args s mc ms (fun q => V.2.2.2.1 ≤ q)) 5 zk_E V mc ms 42 [(0, .ref a0), (1, .int i1'), (2, .int i2), (3, .int i3')] [] S rc rs) {S : zm_S} (h : zf_X16_fill_J134 N k a0 i2 i3 t0 S = some res) : zw p l e R s m args below meth c (vx_MQ below (zm_Qc zk_E V (zo_v out)) (zm_XC zk_E V zo_x) args s mc ms (fun q => V.2.2.2.1 ≤ q)) 5 zk_E V mc ms 134 [(0, .ref a0), (2, .int i2), (3, .int i3)] [.int t0] S rc rs := by
  unfold zf_X16_fill_J134 at h
  refine zw_iconst (v := (0 : Int32)) hX dX16_fill_134 (by decide) ?_
  refine zw_sub (lv' := [(0, .ref a0), (2, .int i2), (3, .int i3)]) (List.forall_mem_cons.mpr ⟨rfl, (List.forall_mem_cons.mpr ⟨rfl, (List.forall_mem_cons.mpr ⟨rfl, zs_nil⟩)⟩)⟩) ?_
  exact zt_X16_fill_J135 hX hr hR hd hf hk hrec h
def zf_X16_fill_J95 (N : Nat) (k : Nat → Int32 → Int32 → Int32 → zm_S → Option ((Unit × zm_S) ⊕ ((Int32) × zm_S))) (a0 : Nat) (i2 : Int32) (i3 : Int32) (i4 : Int32) (t0 : Int32) (t1 : Int32) (S : zm_S) : Option ((Unit × zm_S) ⊕ ((Int32) × zm_S)) := (zg_i S a0 16 13).bind (fun v7 => if v7 ≤ i2 then zf_X16_fill_J134 N (k) a0 i2 i3 (t0 ||| t1) S else (zi S a0 16).bind (fun _ => (zf_X16_isShut N a0 i3 i2 (0 : Int32) S).bind (fun r10 => if r10.1 = 0 then (zi r10.2 a0 16).bind (fun _ => (zf_X16_join N a0 i4 (i4 + (42 : Int32)) r10.2).bind (fun r13 => if r13.1 = 0 then zf_X16_fill_J134 N (k) a0 i2 i3 (t0 ||| t1) r13.2 else zf_X16_fill_J135 N (k) a0 i2 i3 (t0 ||| t1) (1 : Int32) r13.2)) else zf_X16_fill_J134 N (k) a0 i2 i3 (t0 ||| t1) r10.2)))
set_option maxHeartbeats 4000000 in
set_option maxRecDepth 100000 in
theorem zt_X16_fill_J95 {p : Program} {l : Launch} {e : Env} {R : Room} {s : State} {m : MethodId} {args : Array Value} {below : List Frame} {meth : Method} {c : Code} {V : zm_V} {mc ms d rc rs : Nat} (hX : zm_X p R s m args meth c RX16 "fill" cX16_fill 5 zk_E V mc ms) (hr : meth.sig.returnType = none) (hR : R.frames = d ∧ R.locals = 64 * d) (hd : 3 ≤ d) {N : Nat} {k : Nat → Int32 → Int32 → Int32 → zm_S → Option ((Unit × zm_S) ⊕ ((Int32) × zm_S))} {a0 : Nat} {i2 : Int32} {i3 : Int32} {i4 : Int32} {t0 : Int32} {t1 : Int32} {res : (Unit × zm_S) ⊕ ((Int32) × zm_S)} {out : (Unit × zm_S)}   (hf : ∀ o, res = .inl o → o = out) (hk : ∀ (x1 : Int32) (S' : zm_S), res = .inr (x1, S') → zw p l e R s m args below meth c (vx_MQ below (zm_Qc zk_E V (zo_v out)) (zm_XC zk_E V zo_x) args s mc ms (fun q => V.2.2.2.1 ≤ q)) 5 zk_E V mc ms 143 [(0, .ref a0), (1, .int x1), (2, .int i2)] [] S' rc rs) (hrec : ∀ (i1' : Int32) (i3' : Int32) (S : zm_S), k a0 i1' i2 i3' S = some res → zw p l e R s m args below meth c (vx_MQ below (zm_Qc zk_E V (zo_v out)) (zm_XC zk_E V zo_x) args s mc ms (fun q => V.2.2.2.1 ≤ q)) 5 zk_E V mc ms 42 [(0, .ref a0), (1, .int i1'), (2, .int i2), (3, .int i3')] [] S rc rs) {S : zm_S} (h : zf_X16_fill_J95 N k a0 i2 i3 i4 t0 t1 S = some res) : zw p l e R s m args below meth c (vx_MQ below (zm_Qc zk_E V (zo_v out)) (zm_XC zk_E V zo_x) args s mc ms (fun q => V.2.2.2.1 ≤ q)) 5 zk_E V mc ms 95 [(0, .ref a0), (2, .int i2), (3, .int i3), (4, .int i4)] [.int t1, .int t0] S rc rs := by
  unfold zf_X16_fill_J95 at h
  refine zw_ior hX dX16_fill_95 ?_
  refine zw_istore_n hX dX16_fill_96 (by decide) ?_
  refine zw_iload_n hX dX16_fill_97 rfl ?_
  refine zw_iload_n hX dX16_fill_98 rfl ?_
  refine zw_aload_n hX dX16_fill_99 rfl ?_
  obtain ⟨v7, g, h⟩ := zb_some h
  refine zw_geti hX zl_X16_115 dX16_fill_100 g ?_
  refine zw_icmp_ge (tgt := 134) hX dX16_fill_103 (by decide) (fun c103 => ?_) (fun c103 => ?_)
  · rw [if_pos c103] at h
    refine zw_sub (lv' := [(0, .ref a0), (2, .int i2), (3, .int i3)]) (List.forall_mem_cons.mpr ⟨rfl, (List.forall_mem_cons.mpr ⟨rfl, (List.forall_mem_cons.mpr ⟨rfl, zs_nil⟩)⟩)⟩) ?_
    exact zt_X16_fill_J134 hX hr hR hd hf hk hrec h
  · rw [if_neg c103] at h
    refine zw_aload_n hX dX16_fill_106 rfl ?_
    refine zw_iload_n hX dX16_fill_107 rfl ?_
    refine zw_iload_n hX dX16_fill_108 rfl ?_
    refine zw_iconst (v := (0 : Int32)) hX dX16_fill_109 (by decide) ?_
    obtain ⟨_, gi, h⟩ := zb_some h
    obtain ⟨r10, g, h⟩ := zb_some h
    refine zc_Vi (as := [.int i3, .int i2, .int (0 : Int32)]) hX gi (zt_X16_isShut (d := d - 1) (by omega) g) zl_X16_121 rfl dX16_fill_110 ⟨rfl, rfl, Nat.le_of_ble_eq_true rfl⟩ ⟨by omega, by omega⟩ ?_
    refine zw_if_ne (tgt := 134) hX dX16_fill_113 (by decide) (fun c113 => ?_) (fun c113 => ?_)
    · rw [if_neg c113] at h
      refine zw_sub (lv' := [(0, .ref a0), (2, .int i2), (3, .int i3)]) (List.forall_mem_cons.mpr ⟨rfl, (List.forall_mem_cons.mpr ⟨rfl, (List.forall_mem_cons.mpr ⟨rfl, zs_nil⟩)⟩)⟩) ?_
      exact zt_X16_fill_J134 hX hr hR hd hf hk hrec h
    · rw [if_pos c113] at h
      refine zw_aload_n hX dX16_fill_116 rfl ?_
      refine zw_iload hX dX16_fill_117 rfl ?_
      refine zw_iload hX dX16_fill_119 rfl ?_
      refine zw_bipush (v := (42 : Int32)) hX dX16_fill_121 (by decide) ?_
      refine zw_iadd hX dX16_fill_123 ?_
      obtain ⟨_, gi, h⟩ := zb_some h
      obtain ⟨r13, g, h⟩ := zb_some h
      refine zc_Vi (as := [.int i4, .int (i4 + (42 : Int32))]) hX gi (zt_X16_join (d := d - 1) (by omega) g) zl_X16_125 rfl dX16_fill_124 ⟨rfl, rfl, Nat.le_of_ble_eq_true rfl⟩ ⟨by omega, by omega⟩ ?_
      refine zw_if_eq (tgt := 134) hX dX16_fill_127 (by decide) (fun c127 => ?_) (fun c127 => ?_)
      · rw [if_pos c127] at h
        refine zw_sub (lv' := [(0, .ref a0), (2, .int i2), (3, .int i3)]) (List.forall_mem_cons.mpr ⟨rfl, (List.forall_mem_cons.mpr ⟨rfl, (List.forall_mem_cons.mpr ⟨rfl, zs_nil⟩)⟩)⟩) ?_
        exact zt_X16_fill_J134 hX hr hR hd hf hk hrec h
      · rw [if_neg c127] at h
        refine zw_iconst (v := (1 : Int32)) hX dX16_fill_130 (by decide) ?_
        refine zw_goto (tgt := 135) hX dX16_fill_131 (by decide) ?_
        refine zw_sub (lv' := [(0, .ref a0), (2, .int i2), (3, .int i3)]) (List.forall_mem_cons.mpr ⟨rfl, (List.forall_mem_cons.mpr ⟨rfl, (List.forall_mem_cons.mpr ⟨rfl, zs_nil⟩)⟩)⟩) ?_
        exact zt_X16_fill_J135 hX hr hR hd hf hk hrec h
def zf_X16_fill_J94 (N : Nat) (k : Nat → Int32 → Int32 → Int32 → zm_S → Option ((Unit × zm_S) ⊕ ((Int32) × zm_S))) (a0 : Nat) (i2 : Int32) (i3 : Int32) (i4 : Int32) (t0 : Int32) (S : zm_S) : Option ((Unit × zm_S) ⊕ ((Int32) × zm_S)) := zf_X16_fill_J95 N (k) a0 i2 i3 i4 t0 (0 : Int32) S
set_option maxHeartbeats 4000000 in
set_option maxRecDepth 100000 in
theorem zt_X16_fill_J94 {p : Program} {l : Launch} {e : Env} {R : Room} {s : State} {m : MethodId} {args : Array Value} {below : List Frame} {meth : Method} {c : Code} {V : zm_V} {mc ms d rc rs : Nat} (hX : zm_X p R s m args meth c RX16 "fill" cX16_fill 5 zk_E V mc ms) (hr : meth.sig.returnType = none) (hR : R.frames = d ∧ R.locals = 64 * d) (hd : 3 ≤ d) {N : Nat} {k : Nat → Int32 → Int32 → Int32 → zm_S → Option ((Unit × zm_S) ⊕ ((Int32) × zm_S))} {a0 : Nat} {i2 : Int32} {i3 : Int32} {i4 : Int32} {t0 : Int32} {res : (Unit × zm_S) ⊕ ((Int32) × zm_S)} {out : (Unit × zm_S)}   (hf : ∀ o, res = .inl o → o = out) (hk : ∀ (x1 : Int32) (S' : zm_S), res = .inr (x1, S') → zw p l e R s m args below meth c (vx_MQ below (zm_Qc zk_E V (zo_v out)) (zm_XC zk_E V zo_x) args s mc ms (fun q => V.2.2.2.1 ≤ q)) 5 zk_E V mc ms 143 [(0, .ref a0), (1, .int x1), (2, .int i2)] [] S' rc rs) (hrec : ∀ (i1' : Int32) (i3' : Int32) (S : zm_S), k a0 i1' i2 i3' S = some res → zw p l e R s m args below meth c (vx_MQ below (zm_Qc zk_E V (zo_v out)) (zm_XC zk_E V zo_x) args s mc ms (fun q => V.2.2.2.1 ≤ q)) 5 zk_E V mc ms 42 [(0, .ref a0), (1, .int i1'), (2, .int i2), (3, .int i3')] [] S rc rs) {S : zm_S} (h : zf_X16_fill_J94 N k a0 i2 i3 i4 t0 S = some res) : zw p l e R s m args below meth c (vx_MQ below (zm_Qc zk_E V (zo_v out)) (zm_XC zk_E V zo_x) args s mc ms (fun q => V.2.2.2.1 ≤ q)) 5 zk_E V mc ms 94 [(0, .ref a0), (2, .int i2), (3, .int i3), (4, .int i4)] [.int t0] S rc rs := by
  unfold zf_X16_fill_J94 at h
  refine zw_iconst (v := (0 : Int32)) hX dX16_fill_94 (by decide) ?_
  refine zw_sub (lv' := [(0, .ref a0), (2, .int i2), (3, .int i3), (4, .int i4)]) (List.forall_mem_cons.mpr ⟨rfl, (List.forall_mem_cons.mpr ⟨rfl, (List.forall_mem_cons.mpr ⟨rfl, (List.forall_mem_cons.mpr ⟨rfl, zs_nil⟩)⟩)⟩)⟩) ?_
  exact zt_X16_fill_J95 hX hr hR hd hf hk hrec h
def zf_X16_fill_L42 (N : Nat) : Nat → Nat → Int32 → Int32 → Int32 → zm_S → Option ((Unit × zm_S) ⊕ ((Int32) × zm_S))
  | 0, _, _, _, _, _ => none
  | n + 1, a0, i1, i2, i3, S => (zg_i S a0 16 12).bind (fun v5 => if v5 < i3 then some (.inr (i1, S)) else (zg_i S a0 16 12).bind (fun v6 => if v6 ≤ i3 then zf_X16_fill_J94 N (zf_X16_fill_L42 N n) a0 i2 i3 (((42 : Int32) * i2) + i3) i1 S else (zi S a0 16).bind (fun _ => (zf_X16_isShut N a0 i3 i2 (1 : Int32) S).bind (fun r16 => if r16.1 = 0 then (zi r16.2 a0 16).bind (fun _ => (zf_X16_join N a0 (((42 : Int32) * i2) + i3) ((((42 : Int32) * i2) + i3) + (1 : Int32)) r16.2).bind (fun r19 => if r19.1 = 0 then zf_X16_fill_J94 N (zf_X16_fill_L42 N n) a0 i2 i3 (((42 : Int32) * i2) + i3) i1 r19.2 else zf_X16_fill_J95 N (zf_X16_fill_L42 N n) a0 i2 i3 (((42 : Int32) * i2) + i3) i1 (1 : Int32) r19.2)) else zf_X16_fill_J94 N (zf_X16_fill_L42 N n) a0 i2 i3 (((42 : Int32) * i2) + i3) i1 r16.2))))
set_option maxHeartbeats 4000000 in
set_option maxRecDepth 100000 in
theorem zt_X16_fill_L42 {p : Program} {l : Launch} {e : Env} {R : Room} {s : State} {m : MethodId} {args : Array Value} {below : List Frame} {meth : Method} {c : Code} {V : zm_V} {mc ms d rc rs : Nat} (hX : zm_X p R s m args meth c RX16 "fill" cX16_fill 5 zk_E V mc ms) (hr : meth.sig.returnType = none) (hR : R.frames = d ∧ R.locals = 64 * d) (hd : 3 ≤ d) {N : Nat} {res : (Unit × zm_S) ⊕ ((Int32) × zm_S)} {out : (Unit × zm_S)} (a0 : Nat) (i2 : Int32) (hf : ∀ o, res = .inl o → o = out) (hk : ∀ (x1 : Int32) (S' : zm_S), res = .inr (x1, S') → zw p l e R s m args below meth c (vx_MQ below (zm_Qc zk_E V (zo_v out)) (zm_XC zk_E V zo_x) args s mc ms (fun q => V.2.2.2.1 ≤ q)) 5 zk_E V mc ms 143 [(0, .ref a0), (1, .int x1), (2, .int i2)] [] S' rc rs) : ∀ (n : Nat) (i1 : Int32) (i3 : Int32) (S : zm_S), zf_X16_fill_L42 N n a0 i1 i2 i3 S = some res → zw p l e R s m args below meth c (vx_MQ below (zm_Qc zk_E V (zo_v out)) (zm_XC zk_E V zo_x) args s mc ms (fun q => V.2.2.2.1 ≤ q)) 5 zk_E V mc ms 42 [(0, .ref a0), (1, .int i1), (2, .int i2), (3, .int i3)] [] S rc rs := by
  intro n
  induction n with
  | zero => intro i1 i3 S h; cases h
  | succ n ih =>
    intro i1 i3 S h
    rw [zf_X16_fill_L42] at h
    refine zw_iload_n hX dX16_fill_42 rfl ?_
    refine zw_aload_n hX dX16_fill_43 rfl ?_
    obtain ⟨v5, g, h⟩ := zb_some h
    refine zw_geti hX zl_X16_118 dX16_fill_44 g ?_
    refine zw_icmp_gt (tgt := 143) hX dX16_fill_47 (by decide) (fun c47 => ?_) (fun c47 => ?_)
    · rw [if_pos c47] at h
      refine zw_sub (lv' := [(0, .ref a0), (1, .int i1), (2, .int i2)]) (List.forall_mem_cons.mpr ⟨rfl, (List.forall_mem_cons.mpr ⟨rfl, (List.forall_mem_cons.mpr ⟨rfl, zs_nil⟩)⟩)⟩) ?_
      exact hk _ _ (Option.some.inj h).symm
    · rw [if_neg c47] at h
      refine zw_bipush (v := (42 : Int32)) hX dX16_fill_50 (by decide) ?_
      refine zw_iload_n hX dX16_fill_52 rfl ?_
      refine zw_imul hX dX16_fill_53 ?_
      refine zw_iload_n hX dX16_fill_54 rfl ?_
      refine zw_iadd hX dX16_fill_55 ?_
      refine zw_istore hX dX16_fill_56 (by decide) ?_
      refine zw_iload_n hX dX16_fill_58 rfl ?_
      refine zw_iload_n hX dX16_fill_59 rfl ?_
      refine zw_aload_n hX dX16_fill_60 rfl ?_
      obtain ⟨v6, g, h⟩ := zb_some h
      refine zw_geti hX zl_X16_118 dX16_fill_61 g ?_
      refine zw_icmp_ge (tgt := 94) hX dX16_fill_64 (by decide) (fun c64 => ?_) (fun c64 => ?_)
      · rw [if_pos c64] at h
        refine zw_sub (lv' := [(0, .ref a0), (2, .int i2), (3, .int i3), (4, .int (((42 : Int32) * i2) + i3))]) (List.forall_mem_cons.mpr ⟨rfl, (List.forall_mem_cons.mpr ⟨rfl, (List.forall_mem_cons.mpr ⟨rfl, (List.forall_mem_cons.mpr ⟨rfl, zs_nil⟩)⟩)⟩)⟩) ?_
        exact zt_X16_fill_J94 hX hr hR hd hf hk ih h
      · rw [if_neg c64] at h
        refine zw_aload_n hX dX16_fill_67 rfl ?_
        refine zw_iload_n hX dX16_fill_68 rfl ?_
        refine zw_iload_n hX dX16_fill_69 rfl ?_
        refine zw_iconst (v := (1 : Int32)) hX dX16_fill_70 (by decide) ?_
        obtain ⟨_, gi, h⟩ := zb_some h
        obtain ⟨r16, g, h⟩ := zb_some h
        refine zc_Vi (as := [.int i3, .int i2, .int (1 : Int32)]) hX gi (zt_X16_isShut (d := d - 1) (by omega) g) zl_X16_121 rfl dX16_fill_71 ⟨rfl, rfl, Nat.le_of_ble_eq_true rfl⟩ ⟨by omega, by omega⟩ ?_
        refine zw_if_ne (tgt := 94) hX dX16_fill_74 (by decide) (fun c74 => ?_) (fun c74 => ?_)
        · rw [if_neg c74] at h
          refine zw_sub (lv' := [(0, .ref a0), (2, .int i2), (3, .int i3), (4, .int (((42 : Int32) * i2) + i3))]) (List.forall_mem_cons.mpr ⟨rfl, (List.forall_mem_cons.mpr ⟨rfl, (List.forall_mem_cons.mpr ⟨rfl, (List.forall_mem_cons.mpr ⟨rfl, zs_nil⟩)⟩)⟩)⟩) ?_
          exact zt_X16_fill_J94 hX hr hR hd hf hk ih h
        · rw [if_pos c74] at h
          refine zw_aload_n hX dX16_fill_77 rfl ?_
          refine zw_iload hX dX16_fill_78 rfl ?_
          refine zw_iload hX dX16_fill_80 rfl ?_
          refine zw_iconst (v := (1 : Int32)) hX dX16_fill_82 (by decide) ?_
          refine zw_iadd hX dX16_fill_83 ?_
          obtain ⟨_, gi, h⟩ := zb_some h
          obtain ⟨r19, g, h⟩ := zb_some h
          refine zc_Vi (as := [.int (((42 : Int32) * i2) + i3), .int ((((42 : Int32) * i2) + i3) + (1 : Int32))]) hX gi (zt_X16_join (d := d - 1) (by omega) g) zl_X16_125 rfl dX16_fill_84 ⟨rfl, rfl, Nat.le_of_ble_eq_true rfl⟩ ⟨by omega, by omega⟩ ?_
          refine zw_if_eq (tgt := 94) hX dX16_fill_87 (by decide) (fun c87 => ?_) (fun c87 => ?_)
          · rw [if_pos c87] at h
            refine zw_sub (lv' := [(0, .ref a0), (2, .int i2), (3, .int i3), (4, .int (((42 : Int32) * i2) + i3))]) (List.forall_mem_cons.mpr ⟨rfl, (List.forall_mem_cons.mpr ⟨rfl, (List.forall_mem_cons.mpr ⟨rfl, (List.forall_mem_cons.mpr ⟨rfl, zs_nil⟩)⟩)⟩)⟩) ?_
            exact zt_X16_fill_J94 hX hr hR hd hf hk ih h
          · rw [if_neg c87] at h
            refine zw_iconst (v := (1 : Int32)) hX dX16_fill_90 (by decide) ?_
            refine zw_goto (tgt := 95) hX dX16_fill_91 (by decide) ?_
            refine zw_sub (lv' := [(0, .ref a0), (2, .int i2), (3, .int i3), (4, .int (((42 : Int32) * i2) + i3))]) (List.forall_mem_cons.mpr ⟨rfl, (List.forall_mem_cons.mpr ⟨rfl, (List.forall_mem_cons.mpr ⟨rfl, (List.forall_mem_cons.mpr ⟨rfl, zs_nil⟩)⟩)⟩)⟩) ?_
            exact zt_X16_fill_J95 hX hr hR hd hf hk ih h
def zf_X16_fill_L32 (N : Nat) : Nat → Nat → Int32 → Int32 → zm_S → Option ((Unit × zm_S) ⊕ ((Int32) × zm_S))
  | 0, _, _, _, _ => none
  | n + 1, a0, i1, i2, S => (zg_i S a0 16 13).bind (fun v4 => if v4 < i2 then some (.inr (i1, S)) else (zf_X16_fill_L42 N N a0 i1 i2 (0 : Int32) S).bind (fun r => match r with | .inl o => some (.inl o) | .inr (v21, S20) => zf_X16_fill_L32 N n a0 v21 (i2 + (1 : Int32)) S20))
set_option maxHeartbeats 4000000 in
set_option maxRecDepth 100000 in
theorem zt_X16_fill_L32 {p : Program} {l : Launch} {e : Env} {R : Room} {s : State} {m : MethodId} {args : Array Value} {below : List Frame} {meth : Method} {c : Code} {V : zm_V} {mc ms d rc rs : Nat} (hX : zm_X p R s m args meth c RX16 "fill" cX16_fill 5 zk_E V mc ms) (hr : meth.sig.returnType = none) (hR : R.frames = d ∧ R.locals = 64 * d) (hd : 3 ≤ d) {N : Nat} {res : (Unit × zm_S) ⊕ ((Int32) × zm_S)} {out : (Unit × zm_S)} (a0 : Nat) (hf : ∀ o, res = .inl o → o = out) (hk : ∀ (x1 : Int32) (S' : zm_S), res = .inr (x1, S') → zw p l e R s m args below meth c (vx_MQ below (zm_Qc zk_E V (zo_v out)) (zm_XC zk_E V zo_x) args s mc ms (fun q => V.2.2.2.1 ≤ q)) 5 zk_E V mc ms 149 [(0, .ref a0), (1, .int x1)] [] S' rc rs) : ∀ (n : Nat) (i1 : Int32) (i2 : Int32) (S : zm_S), zf_X16_fill_L32 N n a0 i1 i2 S = some res → zw p l e R s m args below meth c (vx_MQ below (zm_Qc zk_E V (zo_v out)) (zm_XC zk_E V zo_x) args s mc ms (fun q => V.2.2.2.1 ≤ q)) 5 zk_E V mc ms 32 [(0, .ref a0), (1, .int i1), (2, .int i2)] [] S rc rs := by
  intro n
  induction n with
  | zero => intro i1 i2 S h; cases h
  | succ n ih =>
    intro i1 i2 S h
    rw [zf_X16_fill_L32] at h
    refine zw_iload_n hX dX16_fill_32 rfl ?_
    refine zw_aload_n hX dX16_fill_33 rfl ?_
    obtain ⟨v4, g, h⟩ := zb_some h
    refine zw_geti hX zl_X16_115 dX16_fill_34 g ?_
    refine zw_icmp_gt (tgt := 149) hX dX16_fill_37 (by decide) (fun c37 => ?_) (fun c37 => ?_)
    · rw [if_pos c37] at h
      refine zw_sub (lv' := [(0, .ref a0), (1, .int i1)]) (List.forall_mem_cons.mpr ⟨rfl, (List.forall_mem_cons.mpr ⟨rfl, zs_nil⟩)⟩) ?_
      exact hk _ _ (Option.some.inj h).symm
    · rw [if_neg c37] at h
      refine zw_iconst (v := (0 : Int32)) hX dX16_fill_40 (by decide) ?_
      refine zw_istore_n hX dX16_fill_41 (by decide) ?_
      obtain ⟨r, g, h⟩ := zb_some h
      refine zw_sub (lv' := [(0, .ref a0), (1, .int i1), (2, .int i2), (3, .int (0 : Int32))]) (List.forall_mem_cons.mpr ⟨rfl, (List.forall_mem_cons.mpr ⟨rfl, (List.forall_mem_cons.mpr ⟨rfl, (List.forall_mem_cons.mpr ⟨rfl, zs_nil⟩)⟩)⟩)⟩) ?_
      refine zt_X16_fill_L42 hX hr hR hd (res := r) (out := out) a0 i2 ?_ ?_ N _ _ _ g
      · intro o ho
        subst ho
        exact hf _ (Option.some.inj h).symm
      · intro v21 S20 hx
        subst hx
        try dsimp only at h
        refine zw_iinc (v := (i2 + (1 : Int32))) hX dX16_fill_143 rfl rfl (by decide) ?_
        refine zw_goto (tgt := 32) hX dX16_fill_146 (by decide) ?_
        refine zw_sub (lv' := [(0, .ref a0), (1, .int v21), (2, .int (i2 + (1 : Int32)))]) (List.forall_mem_cons.mpr ⟨rfl, (List.forall_mem_cons.mpr ⟨rfl, (List.forall_mem_cons.mpr ⟨rfl, zs_nil⟩)⟩)⟩) ?_
        exact ih _ _ _ h
def zf_X16_fill_L24 (N : Nat) : Nat → Nat → Int32 → zm_S → Option ((Unit × zm_S) ⊕ ((Unit) × zm_S))
  | 0, _, _, _ => none
  | n + 1, a0, i1, S => if i1 = 0 then some (.inr ((), S)) else (zf_X16_fill_L32 N N a0 (0 : Int32) (0 : Int32) S).bind (fun r => match r with | .inl o => some (.inl o) | .inr (v23, S22) => zf_X16_fill_L24 N n a0 v23 S22)
set_option maxHeartbeats 4000000 in
set_option maxRecDepth 100000 in
theorem zt_X16_fill_L24 {p : Program} {l : Launch} {e : Env} {R : Room} {s : State} {m : MethodId} {args : Array Value} {below : List Frame} {meth : Method} {c : Code} {V : zm_V} {mc ms d rc rs : Nat} (hX : zm_X p R s m args meth c RX16 "fill" cX16_fill 5 zk_E V mc ms) (hr : meth.sig.returnType = none) (hR : R.frames = d ∧ R.locals = 64 * d) (hd : 3 ≤ d) {N : Nat} {res : (Unit × zm_S) ⊕ ((Unit) × zm_S)} {out : (Unit × zm_S)} (a0 : Nat) (hf : ∀ o, res = .inl o → o = out) (hk : ∀ (S' : zm_S), res = .inr ((), S') → zw p l e R s m args below meth c (vx_MQ below (zm_Qc zk_E V (zo_v out)) (zm_XC zk_E V zo_x) args s mc ms (fun q => V.2.2.2.1 ≤ q)) 5 zk_E V mc ms 152 [] [] S' rc rs) : ∀ (n : Nat) (i1 : Int32) (S : zm_S), zf_X16_fill_L24 N n a0 i1 S = some res → zw p l e R s m args below meth c (vx_MQ below (zm_Qc zk_E V (zo_v out)) (zm_XC zk_E V zo_x) args s mc ms (fun q => V.2.2.2.1 ≤ q)) 5 zk_E V mc ms 24 [(0, .ref a0), (1, .int i1)] [] S rc rs := by
  intro n
  induction n with
  | zero => intro i1 S h; cases h
  | succ n ih =>
    intro i1 S h
    rw [zf_X16_fill_L24] at h
    refine zw_iload_n hX dX16_fill_24 rfl ?_
    refine zw_if_eq (tgt := 152) hX dX16_fill_25 (by decide) (fun c25 => ?_) (fun c25 => ?_)
    · rw [if_pos c25] at h
      refine zw_sub (lv' := []) zs_nil ?_
      exact hk  _ (Option.some.inj h).symm
    · rw [if_neg c25] at h
      refine zw_iconst (v := (0 : Int32)) hX dX16_fill_28 (by decide) ?_
      refine zw_istore_n hX dX16_fill_29 (by decide) ?_
      refine zw_iconst (v := (0 : Int32)) hX dX16_fill_30 (by decide) ?_
      refine zw_istore_n hX dX16_fill_31 (by decide) ?_
      obtain ⟨r, g, h⟩ := zb_some h
      refine zw_sub (lv' := [(0, .ref a0), (1, .int (0 : Int32)), (2, .int (0 : Int32))]) (List.forall_mem_cons.mpr ⟨rfl, (List.forall_mem_cons.mpr ⟨rfl, (List.forall_mem_cons.mpr ⟨rfl, zs_nil⟩)⟩)⟩) ?_
      refine zt_X16_fill_L32 hX hr hR hd (res := r) (out := out) a0 ?_ ?_ N _ _ _ g
      · intro o ho
        subst ho
        exact hf _ (Option.some.inj h).symm
      · intro v23 S22 hx
        subst hx
        try dsimp only at h
        refine zw_goto (tgt := 24) hX dX16_fill_149 (by decide) ?_
        refine zw_sub (lv' := [(0, .ref a0), (1, .int v23)]) (List.forall_mem_cons.mpr ⟨rfl, (List.forall_mem_cons.mpr ⟨rfl, zs_nil⟩)⟩) ?_
        exact ih _ _ h
def zf_X16_fill (N : Nat) (a0 : Nat) (S : zm_S) : Option (Unit × zm_S) := (zf_X16_fill_L2 N N a0 (0 : Int32) S).bind (fun r => match r with | .inl o => some o | .inr (_, S3) => (zf_X16_fill_L24 N N a0 (1 : Int32) S3).bind (fun r => match r with | .inl o => some o | .inr (_, S24) => some ((), S24)))
set_option maxHeartbeats 4000000 in
set_option maxRecDepth 100000 in
theorem zt_X16_fill {l : Launch} {V : zm_V} {N : Nat} {S : zm_S} {out : (Unit × zm_S)} {d : Nat} {a0 : Nat} (hd : 3 ≤ d) (h : zf_X16_fill N a0 S = some out) : zm_Met l zk_E V yX16_fill (.code yX16_fill cX16_fill 5 none) d [.ref a0] S 0 0 (zo_v out) zo_x := by
  refine zm_of (by decide +kernel) (Nat.le_of_ble_eq_true rfl) ?_
  intro p e R s m args below meth c hRR hX hr hxt
  have hR : R.frames = d ∧ R.locals = 64 * d := by rw [hRR]; exact ⟨rfl, rfl⟩
  have hX : zm_X p R s m args meth c RX16 "fill" cX16_fill 5 zk_E V 0 0 := hX
  unfold zf_X16_fill at h
  refine zw_sub (lv' := [(0, .ref a0)]) (List.forall_mem_cons.mpr ⟨rfl, zs_nil⟩) ?_
  refine zw_iconst (v := (0 : Int32)) hX dX16_fill_0 (by decide) ?_
  refine zw_istore_n hX dX16_fill_1 (by decide) ?_
  obtain ⟨r, g, h⟩ := zb_some h
  refine zw_sub (lv' := [(0, .ref a0), (1, .int (0 : Int32))]) (List.forall_mem_cons.mpr ⟨rfl, (List.forall_mem_cons.mpr ⟨rfl, zs_nil⟩)⟩) ?_
  refine zt_X16_fill_L2 hX hr hR hd (res := r) (out := out) a0 ?_ ?_ N _ _ g
  · intro o ho
    subst ho
    exact Option.some.inj h
  · intro  S3 hx
    subst hx
    try dsimp only at h
    refine zw_iconst (v := (1 : Int32)) hX dX16_fill_22 (by decide) ?_
    refine zw_istore_n hX dX16_fill_23 (by decide) ?_
    obtain ⟨r, g, h⟩ := zb_some h
    refine zw_sub (lv' := [(0, .ref a0), (1, .int (1 : Int32))]) (List.forall_mem_cons.mpr ⟨rfl, (List.forall_mem_cons.mpr ⟨rfl, zs_nil⟩)⟩) ?_
    refine zt_X16_fill_L24 hX hr hR hd (res := r) (out := out) a0 ?_ ?_ N _ _ g
    · intro o ho
      subst ho
      exact Option.some.inj h
    · intro  S24 hx
      subst hx
      try dsimp only at h
      obtain rfl := Option.some.inj h
      exact zw_vret hX hr dX16_fill_152 ⟨rfl, rfl⟩
def zf_X16_pointAt_L2 (N : Nat) : Nat → Nat → Int32 → Int32 → Int32 → zm_S → Option ((Int32 × zm_S) ⊕ ((Int32) × zm_S))
  | 0, _, _, _, _, _ => none
  | n + 1, a0, i1, i2, i3, S => (zg_i S a0 16 27).bind (fun v1 => if v1 ≤ i3 then some (.inr (i3, S)) else (zg_r S a0 16 28).bind (fun b2 => (za_x S 0 b2 i3).bind (fun v3 => if v3 = i1 then (zg_r S a0 16 29).bind (fun b4 => (za_x S 0 b4 i3).bind (fun v5 => if v5 = i2 then some (.inr (i3, S)) else zf_X16_pointAt_L2 N n a0 i1 i2 (i3 + (1 : Int32)) S)) else zf_X16_pointAt_L2 N n a0 i1 i2 (i3 + (1 : Int32)) S)))
set_option maxHeartbeats 4000000 in
set_option maxRecDepth 100000 in
theorem zt_X16_pointAt_L2 {p : Program} {l : Launch} {e : Env} {R : Room} {s : State} {m : MethodId} {args : Array Value} {below : List Frame} {meth : Method} {c : Code} {V : zm_V} {mc ms d rc rs : Nat} (hX : zm_X p R s m args meth c RX16 "pointAt" cX16_pointAt 4 zk_E V mc ms) (hr : meth.sig.returnType = (some .int)) (hR : R.frames = d ∧ R.locals = 64 * d) (hd : 1 ≤ d) {N : Nat} {res : (Int32 × zm_S) ⊕ ((Int32) × zm_S)} {out : (Int32 × zm_S)} (a0 : Nat) (i1 : Int32) (i2 : Int32) (hf : ∀ o, res = .inl o → o = out) (hk : ∀ (x3 : Int32) (S' : zm_S), res = .inr (x3, S') → zw p l e R s m args below meth c (vx_MQ below (zm_Qc zk_E V (zo_i out)) (zm_XC zk_E V zo_x) args s mc ms (fun q => V.2.2.2.1 ≤ q)) 4 zk_E V mc ms 36 [(3, .int x3)] [] S' rc rs) : ∀ (n : Nat) (i3 : Int32) (S : zm_S), zf_X16_pointAt_L2 N n a0 i1 i2 i3 S = some res → zw p l e R s m args below meth c (vx_MQ below (zm_Qc zk_E V (zo_i out)) (zm_XC zk_E V zo_x) args s mc ms (fun q => V.2.2.2.1 ≤ q)) 4 zk_E V mc ms 2 [(0, .ref a0), (1, .int i1), (2, .int i2), (3, .int i3)] [] S rc rs := by
  intro n
  induction n with
  | zero => intro i3 S h; cases h
  | succ n ih =>
    intro i3 S h
    rw [zf_X16_pointAt_L2] at h
    refine zw_iload_n hX dX16_pointAt_2 rfl ?_
    refine zw_aload_n hX dX16_pointAt_3 rfl ?_
    obtain ⟨v1, g, h⟩ := zb_some h
    refine zw_geti hX zl_X16_129 dX16_pointAt_4 g ?_
    refine zw_icmp_ge (tgt := 36) hX dX16_pointAt_7 (by decide) (fun c7 => ?_) (fun c7 => ?_)
    · rw [if_pos c7] at h
      refine zw_sub (lv' := [(3, .int i3)]) (List.forall_mem_cons.mpr ⟨rfl, zs_nil⟩) ?_
      exact hk _ _ (Option.some.inj h).symm
    · rw [if_neg c7] at h
      refine zw_aload_n hX dX16_pointAt_10 rfl ?_
      obtain ⟨b2, g, h⟩ := zb_some h
      refine zw_getr hX zl_X16_59 dX16_pointAt_11 g ?_
      refine zw_iload_n hX dX16_pointAt_14 rfl ?_
      obtain ⟨v3, g, h⟩ := zb_some h
      refine zw_xi hX dX16_pointAt_15 g ?_
      refine zw_iload_n hX dX16_pointAt_16 rfl ?_
      refine zw_icmp_ne (tgt := 30) hX dX16_pointAt_17 (by decide) (fun c17 => ?_) (fun c17 => ?_)
      · rw [if_neg c17] at h
        refine zw_iinc (v := (i3 + (1 : Int32))) hX dX16_pointAt_30 rfl rfl (by decide) ?_
        refine zw_goto (tgt := 2) hX dX16_pointAt_33 (by decide) ?_
        refine zw_sub (lv' := [(0, .ref a0), (1, .int i1), (2, .int i2), (3, .int (i3 + (1 : Int32)))]) (List.forall_mem_cons.mpr ⟨rfl, (List.forall_mem_cons.mpr ⟨rfl, (List.forall_mem_cons.mpr ⟨rfl, (List.forall_mem_cons.mpr ⟨rfl, zs_nil⟩)⟩)⟩)⟩) ?_
        exact ih _ _ h
      · rw [if_pos c17] at h
        refine zw_aload_n hX dX16_pointAt_20 rfl ?_
        obtain ⟨b4, g, h⟩ := zb_some h
        refine zw_getr hX zl_X16_62 dX16_pointAt_21 g ?_
        refine zw_iload_n hX dX16_pointAt_24 rfl ?_
        obtain ⟨v5, g, h⟩ := zb_some h
        refine zw_xi hX dX16_pointAt_25 g ?_
        refine zw_iload_n hX dX16_pointAt_26 rfl ?_
        refine zw_icmp_eq (tgt := 36) hX dX16_pointAt_27 (by decide) (fun c27 => ?_) (fun c27 => ?_)
        · rw [if_pos c27] at h
          refine zw_sub (lv' := [(3, .int i3)]) (List.forall_mem_cons.mpr ⟨rfl, zs_nil⟩) ?_
          exact hk _ _ (Option.some.inj h).symm
        · rw [if_neg c27] at h
          refine zw_iinc (v := (i3 + (1 : Int32))) hX dX16_pointAt_30 rfl rfl (by decide) ?_
          refine zw_goto (tgt := 2) hX dX16_pointAt_33 (by decide) ?_
          refine zw_sub (lv' := [(0, .ref a0), (1, .int i1), (2, .int i2), (3, .int (i3 + (1 : Int32)))]) (List.forall_mem_cons.mpr ⟨rfl, (List.forall_mem_cons.mpr ⟨rfl, (List.forall_mem_cons.mpr ⟨rfl, (List.forall_mem_cons.mpr ⟨rfl, zs_nil⟩)⟩)⟩)⟩) ?_
          exact ih _ _ h
def zf_X16_pointAt (N : Nat) (a0 : Nat) (i1 : Int32) (i2 : Int32) (S : zm_S) : Option (Int32 × zm_S) := (zf_X16_pointAt_L2 N N a0 i1 i2 (0 : Int32) S).bind (fun r => match r with | .inl o => some o | .inr (v7, S6) => some (v7, S6))
set_option maxHeartbeats 4000000 in
set_option maxRecDepth 100000 in
theorem zt_X16_pointAt {l : Launch} {V : zm_V} {N : Nat} {S : zm_S} {out : (Int32 × zm_S)} {d : Nat} {a0 : Nat} {i1 : Int32} {i2 : Int32} (hd : 1 ≤ d) (h : zf_X16_pointAt N a0 i1 i2 S = some out) : zm_Met l zk_E V yX16_pointAt (.code yX16_pointAt cX16_pointAt 4 (some .int)) d [.ref a0, .int i1, .int i2] S 0 0 (zo_i out) zo_x := by
  refine zm_of (by decide +kernel) (Nat.le_of_ble_eq_true rfl) ?_
  intro p e R s m args below meth c hRR hX hr hxt
  have hR : R.frames = d ∧ R.locals = 64 * d := by rw [hRR]; exact ⟨rfl, rfl⟩
  have hX : zm_X p R s m args meth c RX16 "pointAt" cX16_pointAt 4 zk_E V 0 0 := hX
  unfold zf_X16_pointAt at h
  refine zw_sub (lv' := [(0, .ref a0), (1, .int i1), (2, .int i2)]) (List.forall_mem_cons.mpr ⟨rfl, (List.forall_mem_cons.mpr ⟨rfl, (List.forall_mem_cons.mpr ⟨rfl, zs_nil⟩)⟩)⟩) ?_
  refine zw_iconst (v := (0 : Int32)) hX dX16_pointAt_0 (by decide) ?_
  refine zw_istore_n hX dX16_pointAt_1 (by decide) ?_
  obtain ⟨r, g, h⟩ := zb_some h
  refine zw_sub (lv' := [(0, .ref a0), (1, .int i1), (2, .int i2), (3, .int (0 : Int32))]) (List.forall_mem_cons.mpr ⟨rfl, (List.forall_mem_cons.mpr ⟨rfl, (List.forall_mem_cons.mpr ⟨rfl, (List.forall_mem_cons.mpr ⟨rfl, zs_nil⟩)⟩)⟩)⟩) ?_
  refine zt_X16_pointAt_L2 hX hr hR hd (res := r) (out := out) a0 i1 i2 ?_ ?_ N _ _ g
  · intro o ho
    subst ho
    exact Option.some.inj h
  · intro v7 S6 hx
    subst hx
    try dsimp only at h
    refine zw_iload_n hX dX16_pointAt_36 rfl ?_
    obtain rfl := Option.some.inj h
    exact zw_iret hX hr dX16_pointAt_37 rfl ⟨rfl, rfl⟩
def zf_X16_point_J59 (N : Nat) (k : Nat → Int32 → Int32 → Int32 → zm_S → Option ((Unit × zm_S) ⊕ ((Int32) × zm_S))) (a0 : Nat) (i1 : Int32) (i2 : Int32) (i3 : Int32) (S : zm_S) : Option ((Unit × zm_S) ⊕ ((Int32) × zm_S)) := (zg_r S a0 16 28).bind (fun b8 => (zg_r S a0 16 28).bind (fun b9 => (za_x S 0 b9 (i3 - (1 : Int32))).bind (fun v10 => (zs_i S b8 i3 v10).bind (fun S11 => (zg_r S11 a0 16 29).bind (fun b12 => (zg_r S11 a0 16 29).bind (fun b13 => (za_x S11 0 b13 (i3 - (1 : Int32))).bind (fun v14 => (zs_i S11 b12 i3 v14).bind (fun S15 => k a0 i1 i2 (i3 + (-1 : Int32)) S15))))))))
set_option maxHeartbeats 4000000 in
set_option maxRecDepth 100000 in
theorem zt_X16_point_J59 {p : Program} {l : Launch} {e : Env} {R : Room} {s : State} {m : MethodId} {args : Array Value} {below : List Frame} {meth : Method} {c : Code} {V : zm_V} {mc ms d rc rs : Nat} (hX : zm_X p R s m args meth c RX16 "point" cX16_point 4 zk_E V mc ms) (hr : meth.sig.returnType = none) (hR : R.frames = d ∧ R.locals = 64 * d) (hd : 2 ≤ d) {N : Nat} {k : Nat → Int32 → Int32 → Int32 → zm_S → Option ((Unit × zm_S) ⊕ ((Int32) × zm_S))} {a0 : Nat} {i1 : Int32} {i2 : Int32} {i3 : Int32} {res : (Unit × zm_S) ⊕ ((Int32) × zm_S)} {out : (Unit × zm_S)}   (hf : ∀ o, res = .inl o → o = out) (hk : ∀ (x3 : Int32) (S' : zm_S), res = .inr (x3, S') → zw p l e R s m args below meth c (vx_MQ below (zm_Qc zk_E V (zo_v out)) (zm_XC zk_E V zo_x) args s mc ms (fun q => V.2.2.2.1 ≤ q)) 4 zk_E V mc ms 93 [(0, .ref a0), (1, .int i1), (2, .int i2), (3, .int x3)] [] S' rc rs) (hrec : ∀ (i3' : Int32) (S : zm_S), k a0 i1 i2 i3' S = some res → zw p l e R s m args below meth c (vx_MQ below (zm_Qc zk_E V (zo_v out)) (zm_XC zk_E V zo_x) args s mc ms (fun q => V.2.2.2.1 ≤ q)) 4 zk_E V mc ms 19 [(0, .ref a0), (1, .int i1), (2, .int i2), (3, .int i3')] [] S rc rs) {S : zm_S} (h : zf_X16_point_J59 N k a0 i1 i2 i3 S = some res) : zw p l e R s m args below meth c (vx_MQ below (zm_Qc zk_E V (zo_v out)) (zm_XC zk_E V zo_x) args s mc ms (fun q => V.2.2.2.1 ≤ q)) 4 zk_E V mc ms 59 [(0, .ref a0), (1, .int i1), (2, .int i2), (3, .int i3)] [] S rc rs := by
  unfold zf_X16_point_J59 at h
  refine zw_aload_n hX dX16_point_59 rfl ?_
  obtain ⟨b8, g, h⟩ := zb_some h
  refine zw_getr hX zl_X16_59 dX16_point_60 g ?_
  refine zw_iload_n hX dX16_point_63 rfl ?_
  refine zw_aload_n hX dX16_point_64 rfl ?_
  obtain ⟨b9, g, h⟩ := zb_some h
  refine zw_getr hX zl_X16_59 dX16_point_65 g ?_
  refine zw_iload_n hX dX16_point_68 rfl ?_
  refine zw_iconst (v := (1 : Int32)) hX dX16_point_69 (by decide) ?_
  refine zw_isub hX dX16_point_70 ?_
  obtain ⟨v10, g, h⟩ := zb_some h
  refine zw_xi hX dX16_point_71 g ?_
  obtain ⟨S11, g, h⟩ := zb_some h
  refine zw_si hX dX16_point_72 g ?_
  refine zw_aload_n hX dX16_point_73 rfl ?_
  obtain ⟨b12, g, h⟩ := zb_some h
  refine zw_getr hX zl_X16_62 dX16_point_74 g ?_
  refine zw_iload_n hX dX16_point_77 rfl ?_
  refine zw_aload_n hX dX16_point_78 rfl ?_
  obtain ⟨b13, g, h⟩ := zb_some h
  refine zw_getr hX zl_X16_62 dX16_point_79 g ?_
  refine zw_iload_n hX dX16_point_82 rfl ?_
  refine zw_iconst (v := (1 : Int32)) hX dX16_point_83 (by decide) ?_
  refine zw_isub hX dX16_point_84 ?_
  obtain ⟨v14, g, h⟩ := zb_some h
  refine zw_xi hX dX16_point_85 g ?_
  obtain ⟨S15, g, h⟩ := zb_some h
  refine zw_si hX dX16_point_86 g ?_
  refine zw_iinc (v := (i3 + (-1 : Int32))) hX dX16_point_87 rfl rfl (by decide) ?_
  refine zw_goto (tgt := 19) hX dX16_point_90 (by decide) ?_
  refine zw_sub (lv' := [(0, .ref a0), (1, .int i1), (2, .int i2), (3, .int (i3 + (-1 : Int32)))]) (List.forall_mem_cons.mpr ⟨rfl, (List.forall_mem_cons.mpr ⟨rfl, (List.forall_mem_cons.mpr ⟨rfl, (List.forall_mem_cons.mpr ⟨rfl, zs_nil⟩)⟩)⟩)⟩) ?_
  exact hrec _ _ h
def zf_X16_point_L19 (N : Nat) : Nat → Nat → Int32 → Int32 → Int32 → zm_S → Option ((Unit × zm_S) ⊕ ((Int32) × zm_S))
  | 0, _, _, _, _, _ => none
  | n + 1, a0, i1, i2, i3, S => if i3 ≤ 0 then some (.inr (i3, S)) else (zg_r S a0 16 28).bind (fun b6 => (za_x S 0 b6 (i3 - (1 : Int32))).bind (fun v7 => if i1 < v7 then zf_X16_point_J59 N (zf_X16_point_L19 N n) a0 i1 i2 i3 S else (zg_r S a0 16 28).bind (fun b16 => (za_x S 0 b16 (i3 - (1 : Int32))).bind (fun v17 => if v17 = i1 then (zg_r S a0 16 29).bind (fun b18 => (za_x S 0 b18 (i3 - (1 : Int32))).bind (fun v19 => if v19 ≤ i2 then some (.inr (i3, S)) else zf_X16_point_J59 N (zf_X16_point_L19 N n) a0 i1 i2 i3 S)) else some (.inr (i3, S))))))
set_option maxHeartbeats 4000000 in
set_option maxRecDepth 100000 in
theorem zt_X16_point_L19 {p : Program} {l : Launch} {e : Env} {R : Room} {s : State} {m : MethodId} {args : Array Value} {below : List Frame} {meth : Method} {c : Code} {V : zm_V} {mc ms d rc rs : Nat} (hX : zm_X p R s m args meth c RX16 "point" cX16_point 4 zk_E V mc ms) (hr : meth.sig.returnType = none) (hR : R.frames = d ∧ R.locals = 64 * d) (hd : 2 ≤ d) {N : Nat} {res : (Unit × zm_S) ⊕ ((Int32) × zm_S)} {out : (Unit × zm_S)} (a0 : Nat) (i1 : Int32) (i2 : Int32) (hf : ∀ o, res = .inl o → o = out) (hk : ∀ (x3 : Int32) (S' : zm_S), res = .inr (x3, S') → zw p l e R s m args below meth c (vx_MQ below (zm_Qc zk_E V (zo_v out)) (zm_XC zk_E V zo_x) args s mc ms (fun q => V.2.2.2.1 ≤ q)) 4 zk_E V mc ms 93 [(0, .ref a0), (1, .int i1), (2, .int i2), (3, .int x3)] [] S' rc rs) : ∀ (n : Nat) (i3 : Int32) (S : zm_S), zf_X16_point_L19 N n a0 i1 i2 i3 S = some res → zw p l e R s m args below meth c (vx_MQ below (zm_Qc zk_E V (zo_v out)) (zm_XC zk_E V zo_x) args s mc ms (fun q => V.2.2.2.1 ≤ q)) 4 zk_E V mc ms 19 [(0, .ref a0), (1, .int i1), (2, .int i2), (3, .int i3)] [] S rc rs := by
  intro n
  induction n with
  | zero => intro i3 S h; cases h
  | succ n ih =>
    intro i3 S h
    rw [zf_X16_point_L19] at h
    refine zw_iload_n hX dX16_point_19 rfl ?_
    refine zw_if_le (tgt := 93) hX dX16_point_20 (by decide) (fun c20 => ?_) (fun c20 => ?_)
    · rw [if_pos c20] at h
      refine zw_sub (lv' := [(0, .ref a0), (1, .int i1), (2, .int i2), (3, .int i3)]) (List.forall_mem_cons.mpr ⟨rfl, (List.forall_mem_cons.mpr ⟨rfl, (List.forall_mem_cons.mpr ⟨rfl, (List.forall_mem_cons.mpr ⟨rfl, zs_nil⟩)⟩)⟩)⟩) ?_
      exact hk _ _ (Option.some.inj h).symm
    · rw [if_neg c20] at h
      refine zw_aload_n hX dX16_point_23 rfl ?_
      obtain ⟨b6, g, h⟩ := zb_some h
      refine zw_getr hX zl_X16_59 dX16_point_24 g ?_
      refine zw_iload_n hX dX16_point_27 rfl ?_
      refine zw_iconst (v := (1 : Int32)) hX dX16_point_28 (by decide) ?_
      refine zw_isub hX dX16_point_29 ?_
      obtain ⟨v7, g, h⟩ := zb_some h
      refine zw_xi hX dX16_point_30 g ?_
      refine zw_iload_n hX dX16_point_31 rfl ?_
      refine zw_icmp_gt (tgt := 59) hX dX16_point_32 (by decide) (fun c32 => ?_) (fun c32 => ?_)
      · rw [if_pos c32] at h
        refine zw_sub (lv' := [(0, .ref a0), (1, .int i1), (2, .int i2), (3, .int i3)]) (List.forall_mem_cons.mpr ⟨rfl, (List.forall_mem_cons.mpr ⟨rfl, (List.forall_mem_cons.mpr ⟨rfl, (List.forall_mem_cons.mpr ⟨rfl, zs_nil⟩)⟩)⟩)⟩) ?_
        exact zt_X16_point_J59 hX hr hR hd hf hk ih h
      · rw [if_neg c32] at h
        refine zw_aload_n hX dX16_point_35 rfl ?_
        obtain ⟨b16, g, h⟩ := zb_some h
        refine zw_getr hX zl_X16_59 dX16_point_36 g ?_
        refine zw_iload_n hX dX16_point_39 rfl ?_
        refine zw_iconst (v := (1 : Int32)) hX dX16_point_40 (by decide) ?_
        refine zw_isub hX dX16_point_41 ?_
        obtain ⟨v17, g, h⟩ := zb_some h
        refine zw_xi hX dX16_point_42 g ?_
        refine zw_iload_n hX dX16_point_43 rfl ?_
        refine zw_icmp_ne (tgt := 93) hX dX16_point_44 (by decide) (fun c44 => ?_) (fun c44 => ?_)
        · rw [if_neg c44] at h
          refine zw_sub (lv' := [(0, .ref a0), (1, .int i1), (2, .int i2), (3, .int i3)]) (List.forall_mem_cons.mpr ⟨rfl, (List.forall_mem_cons.mpr ⟨rfl, (List.forall_mem_cons.mpr ⟨rfl, (List.forall_mem_cons.mpr ⟨rfl, zs_nil⟩)⟩)⟩)⟩) ?_
          exact hk _ _ (Option.some.inj h).symm
        · rw [if_pos c44] at h
          refine zw_aload_n hX dX16_point_47 rfl ?_
          obtain ⟨b18, g, h⟩ := zb_some h
          refine zw_getr hX zl_X16_62 dX16_point_48 g ?_
          refine zw_iload_n hX dX16_point_51 rfl ?_
          refine zw_iconst (v := (1 : Int32)) hX dX16_point_52 (by decide) ?_
          refine zw_isub hX dX16_point_53 ?_
          obtain ⟨v19, g, h⟩ := zb_some h
          refine zw_xi hX dX16_point_54 g ?_
          refine zw_iload_n hX dX16_point_55 rfl ?_
          refine zw_icmp_le (tgt := 93) hX dX16_point_56 (by decide) (fun c56 => ?_) (fun c56 => ?_)
          · rw [if_pos c56] at h
            refine zw_sub (lv' := [(0, .ref a0), (1, .int i1), (2, .int i2), (3, .int i3)]) (List.forall_mem_cons.mpr ⟨rfl, (List.forall_mem_cons.mpr ⟨rfl, (List.forall_mem_cons.mpr ⟨rfl, (List.forall_mem_cons.mpr ⟨rfl, zs_nil⟩)⟩)⟩)⟩) ?_
            exact hk _ _ (Option.some.inj h).symm
          · rw [if_neg c56] at h
            refine zw_sub (lv' := [(0, .ref a0), (1, .int i1), (2, .int i2), (3, .int i3)]) (List.forall_mem_cons.mpr ⟨rfl, (List.forall_mem_cons.mpr ⟨rfl, (List.forall_mem_cons.mpr ⟨rfl, (List.forall_mem_cons.mpr ⟨rfl, zs_nil⟩)⟩)⟩)⟩) ?_
            exact zt_X16_point_J59 hX hr hR hd hf hk ih h
def zf_X16_point_J93 (N : Nat) (a0 : Nat) (i1 : Int32) (i2 : Int32) (i3 : Int32) (S : zm_S) : Option (Unit × zm_S) := (zg_r S a0 16 28).bind (fun b22 => (zs_i S b22 i3 i1).bind (fun S23 => (zg_r S23 a0 16 29).bind (fun b24 => (zs_i S23 b24 i3 i2).bind (fun S25 => (zg_i S25 a0 16 27).bind (fun v26 => (zp S25 a0 16 27 (.int (v26 + (1 : Int32)))).bind (fun S27 => some ((), S27)))))))
set_option maxHeartbeats 4000000 in
set_option maxRecDepth 100000 in
theorem zt_X16_point_J93 {p : Program} {l : Launch} {e : Env} {R : Room} {s : State} {m : MethodId} {args : Array Value} {below : List Frame} {meth : Method} {c : Code} {V : zm_V} {mc ms d rc rs : Nat} (hX : zm_X p R s m args meth c RX16 "point" cX16_point 4 zk_E V mc ms) (hr : meth.sig.returnType = none) (hR : R.frames = d ∧ R.locals = 64 * d) (hd : 2 ≤ d) {N : Nat} {a0 : Nat} {i1 : Int32} {i2 : Int32} {i3 : Int32} {out : (Unit × zm_S)} {S : zm_S} (h : zf_X16_point_J93 N a0 i1 i2 i3 S = some out) : zw p l e R s m args below meth c (vx_MQ below (zm_Qc zk_E V (zo_v out)) (zm_XC zk_E V zo_x) args s mc ms (fun q => V.2.2.2.1 ≤ q)) 4 zk_E V mc ms 93 [(0, .ref a0), (1, .int i1), (2, .int i2), (3, .int i3)] [] S rc rs := by
  unfold zf_X16_point_J93 at h
  refine zw_aload_n hX dX16_point_93 rfl ?_
  obtain ⟨b22, g, h⟩ := zb_some h
  refine zw_getr hX zl_X16_59 dX16_point_94 g ?_
  refine zw_iload_n hX dX16_point_97 rfl ?_
  refine zw_iload_n hX dX16_point_98 rfl ?_
  obtain ⟨S23, g, h⟩ := zb_some h
  refine zw_si hX dX16_point_99 g ?_
  refine zw_aload_n hX dX16_point_100 rfl ?_
  obtain ⟨b24, g, h⟩ := zb_some h
  refine zw_getr hX zl_X16_62 dX16_point_101 g ?_
  refine zw_iload_n hX dX16_point_104 rfl ?_
  refine zw_iload_n hX dX16_point_105 rfl ?_
  obtain ⟨S25, g, h⟩ := zb_some h
  refine zw_si hX dX16_point_106 g ?_
  refine zw_aload_n hX dX16_point_107 rfl ?_
  refine zw_dup hX dX16_point_108 rfl ?_
  obtain ⟨v26, g, h⟩ := zb_some h
  refine zw_geti hX zl_X16_129 dX16_point_109 g ?_
  refine zw_iconst (v := (1 : Int32)) hX dX16_point_112 (by decide) ?_
  refine zw_iadd hX dX16_point_113 ?_
  obtain ⟨S27, g, h⟩ := zb_some h
  refine zw_putv hX zl_X16_129 zt_16_27 dX16_point_114 rfl rfl g ?_
  obtain rfl := Option.some.inj h
  exact zw_vret hX hr dX16_point_117 ⟨rfl, rfl⟩
def zf_X16_point (N : Nat) (a0 : Nat) (i1 : Int32) (i2 : Int32) (S : zm_S) : Option (Unit × zm_S) := (zi S a0 16).bind (fun _ => (zf_X16_pointAt N a0 i1 i2 S).bind (fun r3 => (zg_i r3.2 a0 16 27).bind (fun v4 => if v4 ≤ r3.1 then (zg_i r3.2 a0 16 27).bind (fun v5 => (zf_X16_point_L19 N N a0 i1 i2 v5 r3.2).bind (fun r => match r with | .inl o => some o | .inr (v21, S20) => zf_X16_point_J93 N a0 i1 i2 v21 S20)) else some ((), r3.2))))
set_option maxHeartbeats 4000000 in
set_option maxRecDepth 100000 in
theorem zt_X16_point {l : Launch} {V : zm_V} {N : Nat} {S : zm_S} {out : (Unit × zm_S)} {d : Nat} {a0 : Nat} {i1 : Int32} {i2 : Int32} (hd : 2 ≤ d) (h : zf_X16_point N a0 i1 i2 S = some out) : zm_Met l zk_E V yX16_point (.code yX16_point cX16_point 4 none) d [.ref a0, .int i1, .int i2] S 0 0 (zo_v out) zo_x := by
  refine zm_of (by decide +kernel) (Nat.le_of_ble_eq_true rfl) ?_
  intro p e R s m args below meth c hRR hX hr hxt
  have hR : R.frames = d ∧ R.locals = 64 * d := by rw [hRR]; exact ⟨rfl, rfl⟩
  have hX : zm_X p R s m args meth c RX16 "point" cX16_point 4 zk_E V 0 0 := hX
  unfold zf_X16_point at h
  refine zw_sub (lv' := [(0, .ref a0), (1, .int i1), (2, .int i2)]) (List.forall_mem_cons.mpr ⟨rfl, (List.forall_mem_cons.mpr ⟨rfl, (List.forall_mem_cons.mpr ⟨rfl, zs_nil⟩)⟩)⟩) ?_
  refine zw_aload_n hX dX16_point_0 rfl ?_
  refine zw_iload_n hX dX16_point_1 rfl ?_
  refine zw_iload_n hX dX16_point_2 rfl ?_
  obtain ⟨_, gi, h⟩ := zb_some h
  obtain ⟨r3, g, h⟩ := zb_some h
  refine zc_Vi (as := [.int i1, .int i2]) hX gi (zt_X16_pointAt (d := d - 1) (by omega) g) zl_X16_132 rfl dX16_point_3 ⟨rfl, rfl, Nat.le_of_ble_eq_true rfl⟩ ⟨by omega, by omega⟩ ?_
  refine zw_aload_n hX dX16_point_6 rfl ?_
  obtain ⟨v4, g, h⟩ := zb_some h
  refine zw_geti hX zl_X16_129 dX16_point_7 g ?_
  refine zw_icmp_ge (tgt := 14) hX dX16_point_10 (by decide) (fun c10 => ?_) (fun c10 => ?_)
  · rw [if_pos c10] at h
    refine zw_aload_n hX dX16_point_14 rfl ?_
    obtain ⟨v5, g, h⟩ := zb_some h
    refine zw_geti hX zl_X16_129 dX16_point_15 g ?_
    refine zw_istore_n hX dX16_point_18 (by decide) ?_
    obtain ⟨r, g, h⟩ := zb_some h
    refine zw_sub (lv' := [(0, .ref a0), (1, .int i1), (2, .int i2), (3, .int v5)]) (List.forall_mem_cons.mpr ⟨rfl, (List.forall_mem_cons.mpr ⟨rfl, (List.forall_mem_cons.mpr ⟨rfl, (List.forall_mem_cons.mpr ⟨rfl, zs_nil⟩)⟩)⟩)⟩) ?_
    refine zt_X16_point_L19 hX hr hR hd (res := r) (out := out) a0 i1 i2 ?_ ?_ N _ _ g
    · intro o ho
      subst ho
      exact Option.some.inj h
    · intro v21 S20 hx
      subst hx
      try dsimp only at h
      refine zw_sub (lv' := [(0, .ref a0), (1, .int i1), (2, .int i2), (3, .int v21)]) (List.forall_mem_cons.mpr ⟨rfl, (List.forall_mem_cons.mpr ⟨rfl, (List.forall_mem_cons.mpr ⟨rfl, (List.forall_mem_cons.mpr ⟨rfl, zs_nil⟩)⟩)⟩)⟩) ?_
      exact zt_X16_point_J93 hX hr hR hd h
  · rw [if_neg c10] at h
    obtain rfl := Option.some.inj h
    exact zw_vret hX hr dX16_point_13 ⟨rfl, rfl⟩
def zf_X16_findPoints_L47 (N : Nat) : Nat → Nat → Int32 → Int32 → zm_S → Option ((Unit × zm_S) ⊕ ((Unit) × zm_S))
  | 0, _, _, _, _ => none
  | n + 1, a0, i1, i2, S => (zg_i S a0 16 0).bind (fun v19 => if v19 ≤ i2 then some (.inr ((), S)) else (zg_r S a0 16 3).bind (fun b20 => (za_x S 2 b20 i1).bind (fun v21 => if v21 = 0 then zf_X16_findPoints_L47 N n a0 i1 (i2 + (1 : Int32)) S else (zg_r S a0 16 3).bind (fun b22 => (za_x S 2 b22 i2).bind (fun v23 => if v23 = 0 then (zg_r S a0 16 1).bind (fun b24 => (za_x S 0 b24 i2).bind (fun v25 => (zg_r S a0 16 2).bind (fun b26 => (za_x S 0 b26 i1).bind (fun v27 => (zi S a0 16).bind (fun _ => (zf_X16_isOn N a0 i1 v25 v27 S).bind (fun r30 => if r30.1 = 0 then zf_X16_findPoints_L47 N n a0 i1 (i2 + (1 : Int32)) r30.2 else (zg_r r30.2 a0 16 1).bind (fun b31 => (za_x r30.2 0 b31 i2).bind (fun v32 => (zg_r r30.2 a0 16 2).bind (fun b33 => (za_x r30.2 0 b33 i1).bind (fun v34 => (zi r30.2 a0 16).bind (fun _ => (zf_X16_isOn N a0 i2 v32 v34 r30.2).bind (fun r37 => if r37.1 = 0 then zf_X16_findPoints_L47 N n a0 i1 (i2 + (1 : Int32)) r37.2 else (zg_r r37.2 a0 16 1).bind (fun b38 => (za_x r37.2 0 b38 i2).bind (fun v39 => (zg_r r37.2 a0 16 2).bind (fun b40 => (za_x r37.2 0 b40 i1).bind (fun v41 => (zi r37.2 a0 16).bind (fun _ => (zf_X16_point N a0 v39 v41 r37.2).bind (fun r44 => zf_X16_findPoints_L47 N n a0 i1 (i2 + (1 : Int32)) r44.2)))))))))))))))))) else zf_X16_findPoints_L47 N n a0 i1 (i2 + (1 : Int32)) S)))))
set_option maxHeartbeats 4000000 in
set_option maxRecDepth 100000 in
theorem zt_X16_findPoints_L47 {p : Program} {l : Launch} {e : Env} {R : Room} {s : State} {m : MethodId} {args : Array Value} {below : List Frame} {meth : Method} {c : Code} {V : zm_V} {mc ms d rc rs : Nat} (hX : zm_X p R s m args meth c RX16 "findPoints" cX16_findPoints 4 zk_E V mc ms) (hr : meth.sig.returnType = none) (hR : R.frames = d ∧ R.locals = 64 * d) (hd : 3 ≤ d) {N : Nat} {res : (Unit × zm_S) ⊕ ((Unit) × zm_S)} {out : (Unit × zm_S)} (a0 : Nat) (i1 : Int32) (hf : ∀ o, res = .inl o → o = out) (hk : ∀ (S' : zm_S), res = .inr ((), S') → zw p l e R s m args below meth c (vx_MQ below (zm_Qc zk_E V (zo_v out)) (zm_XC zk_E V zo_x) args s mc ms (fun q => V.2.2.2.1 ≤ q)) 4 zk_E V mc ms 135 [(0, .ref a0), (1, .int i1)] [] S' rc rs) : ∀ (n : Nat) (i2 : Int32) (S : zm_S), zf_X16_findPoints_L47 N n a0 i1 i2 S = some res → zw p l e R s m args below meth c (vx_MQ below (zm_Qc zk_E V (zo_v out)) (zm_XC zk_E V zo_x) args s mc ms (fun q => V.2.2.2.1 ≤ q)) 4 zk_E V mc ms 47 [(0, .ref a0), (1, .int i1), (2, .int i2)] [] S rc rs := by
  intro n
  induction n with
  | zero => intro i2 S h; cases h
  | succ n ih =>
    intro i2 S h
    rw [zf_X16_findPoints_L47] at h
    refine zw_iload_n hX dX16_findPoints_47 rfl ?_
    refine zw_aload_n hX dX16_findPoints_48 rfl ?_
    obtain ⟨v19, g, h⟩ := zb_some h
    refine zw_geti hX zl_X16_96 dX16_findPoints_49 g ?_
    refine zw_icmp_ge (tgt := 135) hX dX16_findPoints_52 (by decide) (fun c52 => ?_) (fun c52 => ?_)
    · rw [if_pos c52] at h
      refine zw_sub (lv' := [(0, .ref a0), (1, .int i1)]) (List.forall_mem_cons.mpr ⟨rfl, (List.forall_mem_cons.mpr ⟨rfl, zs_nil⟩)⟩) ?_
      exact hk  _ (Option.some.inj h).symm
    · rw [if_neg c52] at h
      refine zw_aload_n hX dX16_findPoints_55 rfl ?_
      obtain ⟨b20, g, h⟩ := zb_some h
      refine zw_getr hX zl_X16_16 dX16_findPoints_56 g ?_
      refine zw_iload_n hX dX16_findPoints_59 rfl ?_
      obtain ⟨v21, g, h⟩ := zb_some h
      refine zw_xz hX dX16_findPoints_60 g ?_
      refine zw_if_eq (tgt := 129) hX dX16_findPoints_61 (by decide) (fun c61 => ?_) (fun c61 => ?_)
      · rw [if_pos c61] at h
        refine zw_iinc (v := (i2 + (1 : Int32))) hX dX16_findPoints_129 rfl rfl (by decide) ?_
        refine zw_goto (tgt := 47) hX dX16_findPoints_132 (by decide) ?_
        refine zw_sub (lv' := [(0, .ref a0), (1, .int i1), (2, .int (i2 + (1 : Int32)))]) (List.forall_mem_cons.mpr ⟨rfl, (List.forall_mem_cons.mpr ⟨rfl, (List.forall_mem_cons.mpr ⟨rfl, zs_nil⟩)⟩)⟩) ?_
        exact ih _ _ h
      · rw [if_neg c61] at h
        refine zw_aload_n hX dX16_findPoints_64 rfl ?_
        obtain ⟨b22, g, h⟩ := zb_some h
        refine zw_getr hX zl_X16_16 dX16_findPoints_65 g ?_
        refine zw_iload_n hX dX16_findPoints_68 rfl ?_
        obtain ⟨v23, g, h⟩ := zb_some h
        refine zw_xz hX dX16_findPoints_69 g ?_
        refine zw_if_ne (tgt := 129) hX dX16_findPoints_70 (by decide) (fun c70 => ?_) (fun c70 => ?_)
        · rw [if_neg c70] at h
          refine zw_iinc (v := (i2 + (1 : Int32))) hX dX16_findPoints_129 rfl rfl (by decide) ?_
          refine zw_goto (tgt := 47) hX dX16_findPoints_132 (by decide) ?_
          refine zw_sub (lv' := [(0, .ref a0), (1, .int i1), (2, .int (i2 + (1 : Int32)))]) (List.forall_mem_cons.mpr ⟨rfl, (List.forall_mem_cons.mpr ⟨rfl, (List.forall_mem_cons.mpr ⟨rfl, zs_nil⟩)⟩)⟩) ?_
          exact ih _ _ h
        · rw [if_pos c70] at h
          refine zw_aload_n hX dX16_findPoints_73 rfl ?_
          refine zw_iload_n hX dX16_findPoints_74 rfl ?_
          refine zw_aload_n hX dX16_findPoints_75 rfl ?_
          obtain ⟨b24, g, h⟩ := zb_some h
          refine zw_getr hX zl_X16_7 dX16_findPoints_76 g ?_
          refine zw_iload_n hX dX16_findPoints_79 rfl ?_
          obtain ⟨v25, g, h⟩ := zb_some h
          refine zw_xi hX dX16_findPoints_80 g ?_
          refine zw_aload_n hX dX16_findPoints_81 rfl ?_
          obtain ⟨b26, g, h⟩ := zb_some h
          refine zw_getr hX zl_X16_13 dX16_findPoints_82 g ?_
          refine zw_iload_n hX dX16_findPoints_85 rfl ?_
          obtain ⟨v27, g, h⟩ := zb_some h
          refine zw_xi hX dX16_findPoints_86 g ?_
          obtain ⟨_, gi, h⟩ := zb_some h
          obtain ⟨r30, g, h⟩ := zb_some h
          refine zc_Vi (as := [.int i1, .int v25, .int v27]) hX gi (zt_X16_isOn (d := d - 1) (by omega) g) zl_X16_139 rfl dX16_findPoints_87 ⟨rfl, rfl, Nat.le_of_ble_eq_true rfl⟩ ⟨by omega, by omega⟩ ?_
          refine zw_if_eq (tgt := 129) hX dX16_findPoints_90 (by decide) (fun c90 => ?_) (fun c90 => ?_)
          · rw [if_pos c90] at h
            refine zw_iinc (v := (i2 + (1 : Int32))) hX dX16_findPoints_129 rfl rfl (by decide) ?_
            refine zw_goto (tgt := 47) hX dX16_findPoints_132 (by decide) ?_
            refine zw_sub (lv' := [(0, .ref a0), (1, .int i1), (2, .int (i2 + (1 : Int32)))]) (List.forall_mem_cons.mpr ⟨rfl, (List.forall_mem_cons.mpr ⟨rfl, (List.forall_mem_cons.mpr ⟨rfl, zs_nil⟩)⟩)⟩) ?_
            exact ih _ _ h
          · rw [if_neg c90] at h
            refine zw_aload_n hX dX16_findPoints_93 rfl ?_
            refine zw_iload_n hX dX16_findPoints_94 rfl ?_
            refine zw_aload_n hX dX16_findPoints_95 rfl ?_
            obtain ⟨b31, g, h⟩ := zb_some h
            refine zw_getr hX zl_X16_7 dX16_findPoints_96 g ?_
            refine zw_iload_n hX dX16_findPoints_99 rfl ?_
            obtain ⟨v32, g, h⟩ := zb_some h
            refine zw_xi hX dX16_findPoints_100 g ?_
            refine zw_aload_n hX dX16_findPoints_101 rfl ?_
            obtain ⟨b33, g, h⟩ := zb_some h
            refine zw_getr hX zl_X16_13 dX16_findPoints_102 g ?_
            refine zw_iload_n hX dX16_findPoints_105 rfl ?_
            obtain ⟨v34, g, h⟩ := zb_some h
            refine zw_xi hX dX16_findPoints_106 g ?_
            obtain ⟨_, gi, h⟩ := zb_some h
            obtain ⟨r37, g, h⟩ := zb_some h
            refine zc_Vi (as := [.int i2, .int v32, .int v34]) hX gi (zt_X16_isOn (d := d - 1) (by omega) g) zl_X16_139 rfl dX16_findPoints_107 ⟨rfl, rfl, Nat.le_of_ble_eq_true rfl⟩ ⟨by omega, by omega⟩ ?_
            refine zw_if_eq (tgt := 129) hX dX16_findPoints_110 (by decide) (fun c110 => ?_) (fun c110 => ?_)
            · rw [if_pos c110] at h
              refine zw_iinc (v := (i2 + (1 : Int32))) hX dX16_findPoints_129 rfl rfl (by decide) ?_
              refine zw_goto (tgt := 47) hX dX16_findPoints_132 (by decide) ?_
              refine zw_sub (lv' := [(0, .ref a0), (1, .int i1), (2, .int (i2 + (1 : Int32)))]) (List.forall_mem_cons.mpr ⟨rfl, (List.forall_mem_cons.mpr ⟨rfl, (List.forall_mem_cons.mpr ⟨rfl, zs_nil⟩)⟩)⟩) ?_
              exact ih _ _ h
            · rw [if_neg c110] at h
              refine zw_aload_n hX dX16_findPoints_113 rfl ?_
              refine zw_aload_n hX dX16_findPoints_114 rfl ?_
              obtain ⟨b38, g, h⟩ := zb_some h
              refine zw_getr hX zl_X16_7 dX16_findPoints_115 g ?_
              refine zw_iload_n hX dX16_findPoints_118 rfl ?_
              obtain ⟨v39, g, h⟩ := zb_some h
              refine zw_xi hX dX16_findPoints_119 g ?_
              refine zw_aload_n hX dX16_findPoints_120 rfl ?_
              obtain ⟨b40, g, h⟩ := zb_some h
              refine zw_getr hX zl_X16_13 dX16_findPoints_121 g ?_
              refine zw_iload_n hX dX16_findPoints_124 rfl ?_
              obtain ⟨v41, g, h⟩ := zb_some h
              refine zw_xi hX dX16_findPoints_125 g ?_
              obtain ⟨_, gi, h⟩ := zb_some h
              obtain ⟨r44, g, h⟩ := zb_some h
              refine zc_Vv (as := [.int v39, .int v41]) hX gi (zt_X16_point (d := d - 1) (by omega) g) zl_X16_135 rfl dX16_findPoints_126 ⟨rfl, rfl, Nat.le_of_ble_eq_true rfl⟩ ⟨by omega, by omega⟩ ?_
              refine zw_iinc (v := (i2 + (1 : Int32))) hX dX16_findPoints_129 rfl rfl (by decide) ?_
              refine zw_goto (tgt := 47) hX dX16_findPoints_132 (by decide) ?_
              refine zw_sub (lv' := [(0, .ref a0), (1, .int i1), (2, .int (i2 + (1 : Int32)))]) (List.forall_mem_cons.mpr ⟨rfl, (List.forall_mem_cons.mpr ⟨rfl, (List.forall_mem_cons.mpr ⟨rfl, zs_nil⟩)⟩)⟩) ?_
              exact ih _ _ h
def zf_X16_findPoints_L7 (N : Nat) : Nat → Nat → Int32 → zm_S → Option ((Unit × zm_S) ⊕ ((Unit) × zm_S))
  | 0, _, _, _ => none
  | n + 1, a0, i1, S => (zg_i S a0 16 0).bind (fun v2 => if v2 ≤ i1 then some (.inr ((), S)) else (zg_r S a0 16 1).bind (fun b3 => (za_x S 0 b3 i1).bind (fun v4 => (zg_r S a0 16 2).bind (fun b5 => (za_x S 0 b5 i1).bind (fun v6 => (zi S a0 16).bind (fun _ => (zf_X16_point N a0 v4 v6 S).bind (fun r9 => (zi r9.2 a0 16).bind (fun _ => (zf_X16_highX N a0 i1 r9.2).bind (fun r12 => (zi r12.2 a0 16).bind (fun _ => (zf_X16_highY N a0 i1 r12.2).bind (fun r15 => (zi r15.2 a0 16).bind (fun _ => (zf_X16_point N a0 r12.1 r15.1 r15.2).bind (fun r18 => (zf_X16_findPoints_L47 N N a0 i1 (0 : Int32) r18.2).bind (fun r => match r with | .inl o => some (.inl o) | .inr (_, S45) => zf_X16_findPoints_L7 N n a0 (i1 + (1 : Int32)) S45))))))))))))))
set_option maxHeartbeats 4000000 in
set_option maxRecDepth 100000 in
theorem zt_X16_findPoints_L7 {p : Program} {l : Launch} {e : Env} {R : Room} {s : State} {m : MethodId} {args : Array Value} {below : List Frame} {meth : Method} {c : Code} {V : zm_V} {mc ms d rc rs : Nat} (hX : zm_X p R s m args meth c RX16 "findPoints" cX16_findPoints 4 zk_E V mc ms) (hr : meth.sig.returnType = none) (hR : R.frames = d ∧ R.locals = 64 * d) (hd : 3 ≤ d) {N : Nat} {res : (Unit × zm_S) ⊕ ((Unit) × zm_S)} {out : (Unit × zm_S)} (a0 : Nat) (hf : ∀ o, res = .inl o → o = out) (hk : ∀ (S' : zm_S), res = .inr ((), S') → zw p l e R s m args below meth c (vx_MQ below (zm_Qc zk_E V (zo_v out)) (zm_XC zk_E V zo_x) args s mc ms (fun q => V.2.2.2.1 ≤ q)) 4 zk_E V mc ms 141 [(0, .ref a0)] [] S' rc rs) : ∀ (n : Nat) (i1 : Int32) (S : zm_S), zf_X16_findPoints_L7 N n a0 i1 S = some res → zw p l e R s m args below meth c (vx_MQ below (zm_Qc zk_E V (zo_v out)) (zm_XC zk_E V zo_x) args s mc ms (fun q => V.2.2.2.1 ≤ q)) 4 zk_E V mc ms 7 [(0, .ref a0), (1, .int i1)] [] S rc rs := by
  intro n
  induction n with
  | zero => intro i1 S h; cases h
  | succ n ih =>
    intro i1 S h
    rw [zf_X16_findPoints_L7] at h
    refine zw_iload_n hX dX16_findPoints_7 rfl ?_
    refine zw_aload_n hX dX16_findPoints_8 rfl ?_
    obtain ⟨v2, g, h⟩ := zb_some h
    refine zw_geti hX zl_X16_96 dX16_findPoints_9 g ?_
    refine zw_icmp_ge (tgt := 141) hX dX16_findPoints_12 (by decide) (fun c12 => ?_) (fun c12 => ?_)
    · rw [if_pos c12] at h
      refine zw_sub (lv' := [(0, .ref a0)]) (List.forall_mem_cons.mpr ⟨rfl, zs_nil⟩) ?_
      exact hk  _ (Option.some.inj h).symm
    · rw [if_neg c12] at h
      refine zw_aload_n hX dX16_findPoints_15 rfl ?_
      refine zw_aload_n hX dX16_findPoints_16 rfl ?_
      obtain ⟨b3, g, h⟩ := zb_some h
      refine zw_getr hX zl_X16_7 dX16_findPoints_17 g ?_
      refine zw_iload_n hX dX16_findPoints_20 rfl ?_
      obtain ⟨v4, g, h⟩ := zb_some h
      refine zw_xi hX dX16_findPoints_21 g ?_
      refine zw_aload_n hX dX16_findPoints_22 rfl ?_
      obtain ⟨b5, g, h⟩ := zb_some h
      refine zw_getr hX zl_X16_13 dX16_findPoints_23 g ?_
      refine zw_iload_n hX dX16_findPoints_26 rfl ?_
      obtain ⟨v6, g, h⟩ := zb_some h
      refine zw_xi hX dX16_findPoints_27 g ?_
      obtain ⟨_, gi, h⟩ := zb_some h
      obtain ⟨r9, g, h⟩ := zb_some h
      refine zc_Vv (as := [.int v4, .int v6]) hX gi (zt_X16_point (d := d - 1) (by omega) g) zl_X16_135 rfl dX16_findPoints_28 ⟨rfl, rfl, Nat.le_of_ble_eq_true rfl⟩ ⟨by omega, by omega⟩ ?_
      refine zw_aload_n hX dX16_findPoints_31 rfl ?_
      refine zw_aload_n hX dX16_findPoints_32 rfl ?_
      refine zw_iload_n hX dX16_findPoints_33 rfl ?_
      obtain ⟨_, gi, h⟩ := zb_some h
      obtain ⟨r12, g, h⟩ := zb_some h
      refine zc_Vi (as := [.int i1]) hX gi (zt_X16_highX (d := d - 1) (by omega) g) zl_X16_89 rfl dX16_findPoints_34 ⟨rfl, rfl, Nat.le_of_ble_eq_true rfl⟩ ⟨by omega, by omega⟩ ?_
      refine zw_aload_n hX dX16_findPoints_37 rfl ?_
      refine zw_iload_n hX dX16_findPoints_38 rfl ?_
      obtain ⟨_, gi, h⟩ := zb_some h
      obtain ⟨r15, g, h⟩ := zb_some h
      refine zc_Vi (as := [.int i1]) hX gi (zt_X16_highY (d := d - 1) (by omega) g) zl_X16_93 rfl dX16_findPoints_39 ⟨rfl, rfl, Nat.le_of_ble_eq_true rfl⟩ ⟨by omega, by omega⟩ ?_
      obtain ⟨_, gi, h⟩ := zb_some h
      obtain ⟨r18, g, h⟩ := zb_some h
      refine zc_Vv (as := [.int r12.1, .int r15.1]) hX gi (zt_X16_point (d := d - 1) (by omega) g) zl_X16_135 rfl dX16_findPoints_42 ⟨rfl, rfl, Nat.le_of_ble_eq_true rfl⟩ ⟨by omega, by omega⟩ ?_
      refine zw_iconst (v := (0 : Int32)) hX dX16_findPoints_45 (by decide) ?_
      refine zw_istore_n hX dX16_findPoints_46 (by decide) ?_
      obtain ⟨r, g, h⟩ := zb_some h
      refine zw_sub (lv' := [(0, .ref a0), (1, .int i1), (2, .int (0 : Int32))]) (List.forall_mem_cons.mpr ⟨rfl, (List.forall_mem_cons.mpr ⟨rfl, (List.forall_mem_cons.mpr ⟨rfl, zs_nil⟩)⟩)⟩) ?_
      refine zt_X16_findPoints_L47 hX hr hR hd (res := r) (out := out) a0 i1 ?_ ?_ N _ _ g
      · intro o ho
        subst ho
        exact hf _ (Option.some.inj h).symm
      · intro  S45 hx
        subst hx
        try dsimp only at h
        refine zw_iinc (v := (i1 + (1 : Int32))) hX dX16_findPoints_135 rfl rfl (by decide) ?_
        refine zw_goto (tgt := 7) hX dX16_findPoints_138 (by decide) ?_
        refine zw_sub (lv' := [(0, .ref a0), (1, .int (i1 + (1 : Int32)))]) (List.forall_mem_cons.mpr ⟨rfl, (List.forall_mem_cons.mpr ⟨rfl, zs_nil⟩)⟩) ?_
        exact ih _ _ h
def zf_X16_findPoints_J232 (N : Nat) (k : Nat → Int32 → Int32 → Int32 → zm_S → Option ((Unit × zm_S) ⊕ ((Unit) × zm_S))) (a0 : Nat) (i1 : Int32) (i3 : Int32) (S : zm_S) : Option ((Unit × zm_S) ⊕ ((Unit) × zm_S)) := k a0 i1 i3 (i3 + (1 : Int32)) S
set_option maxHeartbeats 4000000 in
set_option maxRecDepth 100000 in
theorem zt_X16_findPoints_J232 {p : Program} {l : Launch} {e : Env} {R : Room} {s : State} {m : MethodId} {args : Array Value} {below : List Frame} {meth : Method} {c : Code} {V : zm_V} {mc ms d rc rs : Nat} (hX : zm_X p R s m args meth c RX16 "findPoints" cX16_findPoints 4 zk_E V mc ms) (hr : meth.sig.returnType = none) (hR : R.frames = d ∧ R.locals = 64 * d) (hd : 3 ≤ d) {N : Nat} {k : Nat → Int32 → Int32 → Int32 → zm_S → Option ((Unit × zm_S) ⊕ ((Unit) × zm_S))} {a0 : Nat} {i1 : Int32} {i3 : Int32} {res : (Unit × zm_S) ⊕ ((Unit) × zm_S)} {out : (Unit × zm_S)}   (hf : ∀ o, res = .inl o → o = out) (hk : ∀ (S' : zm_S), res = .inr ((), S') → zw p l e R s m args below meth c (vx_MQ below (zm_Qc zk_E V (zo_v out)) (zm_XC zk_E V zo_x) args s mc ms (fun q => V.2.2.2.1 ≤ q)) 4 zk_E V mc ms 240 [(0, .ref a0), (1, .int i1)] [] S' rc rs) (hrec : ∀ (i2' : Int32) (i3' : Int32) (S : zm_S), k a0 i1 i2' i3' S = some res → zw p l e R s m args below meth c (vx_MQ below (zm_Qc zk_E V (zo_v out)) (zm_XC zk_E V zo_x) args s mc ms (fun q => V.2.2.2.1 ≤ q)) 4 zk_E V mc ms 160 [(0, .ref a0), (1, .int i1), (2, .int i2'), (3, .int i3')] [] S rc rs) {S : zm_S} (h : zf_X16_findPoints_J232 N k a0 i1 i3 S = some res) : zw p l e R s m args below meth c (vx_MQ below (zm_Qc zk_E V (zo_v out)) (zm_XC zk_E V zo_x) args s mc ms (fun q => V.2.2.2.1 ≤ q)) 4 zk_E V mc ms 232 [(0, .ref a0), (1, .int i1), (3, .int i3)] [] S rc rs := by
  unfold zf_X16_findPoints_J232 at h
  refine zw_iload_n hX dX16_findPoints_232 rfl ?_
  refine zw_istore_n hX dX16_findPoints_233 (by decide) ?_
  refine zw_iinc (v := (i3 + (1 : Int32))) hX dX16_findPoints_234 rfl rfl (by decide) ?_
  refine zw_goto (tgt := 160) hX dX16_findPoints_237 (by decide) ?_
  refine zw_sub (lv' := [(0, .ref a0), (1, .int i1), (2, .int i3), (3, .int (i3 + (1 : Int32)))]) (List.forall_mem_cons.mpr ⟨rfl, (List.forall_mem_cons.mpr ⟨rfl, (List.forall_mem_cons.mpr ⟨rfl, (List.forall_mem_cons.mpr ⟨rfl, zs_nil⟩)⟩)⟩)⟩) ?_
  exact hrec _ _ _ h
def zf_X16_findPoints_L160 (N : Nat) : Nat → Nat → Int32 → Int32 → Int32 → zm_S → Option ((Unit × zm_S) ⊕ ((Unit) × zm_S))
  | 0, _, _, _, _, _ => none
  | n + 1, a0, i1, i2, i3, S => (zg_i S a0 16 27).bind (fun v49 => if v49 ≤ i3 then some (.inr ((), S)) else (zg_r S a0 16 28).bind (fun b50 => (za_x S 0 b50 i3).bind (fun v51 => (zg_r S a0 16 29).bind (fun b52 => (za_x S 0 b52 i3).bind (fun v53 => (zi S a0 16).bind (fun _ => (zf_X16_isOn N a0 i1 v51 v53 S).bind (fun r56 => if r56.1 = 0 then zf_X16_findPoints_L160 N n a0 i1 i2 (i3 + (1 : Int32)) r56.2 else if i2 < 0 then zf_X16_findPoints_J232 N (zf_X16_findPoints_L160 N n) a0 i1 i3 r56.2 else (zg_r r56.2 a0 16 31).bind (fun b57 => (zg_i r56.2 a0 16 30).bind (fun v58 => (zs_i r56.2 b57 v58 i1).bind (fun S59 => (zg_r S59 a0 16 32).bind (fun b60 => (zg_i S59 a0 16 30).bind (fun v61 => (zs_i S59 b60 v61 i2).bind (fun S62 => (zg_r S62 a0 16 33).bind (fun b63 => (zg_i S62 a0 16 30).bind (fun v64 => (zs_i S62 b63 v64 i3).bind (fun S65 => (zg_i S65 a0 16 30).bind (fun v66 => (zp S65 a0 16 30 (.int (v66 + (1 : Int32)))).bind (fun S67 => zf_X16_findPoints_J232 N (zf_X16_findPoints_L160 N n) a0 i1 i3 S67))))))))))))))))))
set_option maxHeartbeats 4000000 in
set_option maxRecDepth 100000 in
theorem zt_X16_findPoints_L160 {p : Program} {l : Launch} {e : Env} {R : Room} {s : State} {m : MethodId} {args : Array Value} {below : List Frame} {meth : Method} {c : Code} {V : zm_V} {mc ms d rc rs : Nat} (hX : zm_X p R s m args meth c RX16 "findPoints" cX16_findPoints 4 zk_E V mc ms) (hr : meth.sig.returnType = none) (hR : R.frames = d ∧ R.locals = 64 * d) (hd : 3 ≤ d) {N : Nat} {res : (Unit × zm_S) ⊕ ((Unit) × zm_S)} {out : (Unit × zm_S)} (a0 : Nat) (i1 : Int32) (hf : ∀ o, res = .inl o → o = out) (hk : ∀ (S' : zm_S), res = .inr ((), S') → zw p l e R s m args below meth c (vx_MQ below (zm_Qc zk_E V (zo_v out)) (zm_XC zk_E V zo_x) args s mc ms (fun q => V.2.2.2.1 ≤ q)) 4 zk_E V mc ms 240 [(0, .ref a0), (1, .int i1)] [] S' rc rs) : ∀ (n : Nat) (i2 : Int32) (i3 : Int32) (S : zm_S), zf_X16_findPoints_L160 N n a0 i1 i2 i3 S = some res → zw p l e R s m args below meth c (vx_MQ below (zm_Qc zk_E V (zo_v out)) (zm_XC zk_E V zo_x) args s mc ms (fun q => V.2.2.2.1 ≤ q)) 4 zk_E V mc ms 160 [(0, .ref a0), (1, .int i1), (2, .int i2), (3, .int i3)] [] S rc rs := by
  intro n
  induction n with
  | zero => intro i2 i3 S h; cases h
  | succ n ih =>
    intro i2 i3 S h
    rw [zf_X16_findPoints_L160] at h
    refine zw_iload_n hX dX16_findPoints_160 rfl ?_
    refine zw_aload_n hX dX16_findPoints_161 rfl ?_
    obtain ⟨v49, g, h⟩ := zb_some h
    refine zw_geti hX zl_X16_129 dX16_findPoints_162 g ?_
    refine zw_icmp_ge (tgt := 240) hX dX16_findPoints_165 (by decide) (fun c165 => ?_) (fun c165 => ?_)
    · rw [if_pos c165] at h
      refine zw_sub (lv' := [(0, .ref a0), (1, .int i1)]) (List.forall_mem_cons.mpr ⟨rfl, (List.forall_mem_cons.mpr ⟨rfl, zs_nil⟩)⟩) ?_
      exact hk  _ (Option.some.inj h).symm
    · rw [if_neg c165] at h
      refine zw_aload_n hX dX16_findPoints_168 rfl ?_
      refine zw_iload_n hX dX16_findPoints_169 rfl ?_
      refine zw_aload_n hX dX16_findPoints_170 rfl ?_
      obtain ⟨b50, g, h⟩ := zb_some h
      refine zw_getr hX zl_X16_59 dX16_findPoints_171 g ?_
      refine zw_iload_n hX dX16_findPoints_174 rfl ?_
      obtain ⟨v51, g, h⟩ := zb_some h
      refine zw_xi hX dX16_findPoints_175 g ?_
      refine zw_aload_n hX dX16_findPoints_176 rfl ?_
      obtain ⟨b52, g, h⟩ := zb_some h
      refine zw_getr hX zl_X16_62 dX16_findPoints_177 g ?_
      refine zw_iload_n hX dX16_findPoints_180 rfl ?_
      obtain ⟨v53, g, h⟩ := zb_some h
      refine zw_xi hX dX16_findPoints_181 g ?_
      obtain ⟨_, gi, h⟩ := zb_some h
      obtain ⟨r56, g, h⟩ := zb_some h
      refine zc_Vi (as := [.int i1, .int v51, .int v53]) hX gi (zt_X16_isOn (d := d - 1) (by omega) g) zl_X16_139 rfl dX16_findPoints_182 ⟨rfl, rfl, Nat.le_of_ble_eq_true rfl⟩ ⟨by omega, by omega⟩ ?_
      refine zw_if_eq (tgt := 234) hX dX16_findPoints_185 (by decide) (fun c185 => ?_) (fun c185 => ?_)
      · rw [if_pos c185] at h
        refine zw_iinc (v := (i3 + (1 : Int32))) hX dX16_findPoints_234 rfl rfl (by decide) ?_
        refine zw_goto (tgt := 160) hX dX16_findPoints_237 (by decide) ?_
        refine zw_sub (lv' := [(0, .ref a0), (1, .int i1), (2, .int i2), (3, .int (i3 + (1 : Int32)))]) (List.forall_mem_cons.mpr ⟨rfl, (List.forall_mem_cons.mpr ⟨rfl, (List.forall_mem_cons.mpr ⟨rfl, (List.forall_mem_cons.mpr ⟨rfl, zs_nil⟩)⟩)⟩)⟩) ?_
        exact ih _ _ _ h
      · rw [if_neg c185] at h
        refine zw_iload_n hX dX16_findPoints_188 rfl ?_
        refine zw_if_lt (tgt := 232) hX dX16_findPoints_189 (by decide) (fun c189 => ?_) (fun c189 => ?_)
        · rw [if_pos c189] at h
          refine zw_sub (lv' := [(0, .ref a0), (1, .int i1), (3, .int i3)]) (List.forall_mem_cons.mpr ⟨rfl, (List.forall_mem_cons.mpr ⟨rfl, (List.forall_mem_cons.mpr ⟨rfl, zs_nil⟩)⟩)⟩) ?_
          exact zt_X16_findPoints_J232 hX hr hR hd hf hk ih h
        · rw [if_neg c189] at h
          refine zw_aload_n hX dX16_findPoints_192 rfl ?_
          obtain ⟨b57, g, h⟩ := zb_some h
          refine zw_getr hX zl_X16_65 dX16_findPoints_193 g ?_
          refine zw_aload_n hX dX16_findPoints_196 rfl ?_
          obtain ⟨v58, g, h⟩ := zb_some h
          refine zw_geti hX zl_X16_143 dX16_findPoints_197 g ?_
          refine zw_iload_n hX dX16_findPoints_200 rfl ?_
          obtain ⟨S59, g, h⟩ := zb_some h
          refine zw_si hX dX16_findPoints_201 g ?_
          refine zw_aload_n hX dX16_findPoints_202 rfl ?_
          obtain ⟨b60, g, h⟩ := zb_some h
          refine zw_getr hX zl_X16_68 dX16_findPoints_203 g ?_
          refine zw_aload_n hX dX16_findPoints_206 rfl ?_
          obtain ⟨v61, g, h⟩ := zb_some h
          refine zw_geti hX zl_X16_143 dX16_findPoints_207 g ?_
          refine zw_iload_n hX dX16_findPoints_210 rfl ?_
          obtain ⟨S62, g, h⟩ := zb_some h
          refine zw_si hX dX16_findPoints_211 g ?_
          refine zw_aload_n hX dX16_findPoints_212 rfl ?_
          obtain ⟨b63, g, h⟩ := zb_some h
          refine zw_getr hX zl_X16_71 dX16_findPoints_213 g ?_
          refine zw_aload_n hX dX16_findPoints_216 rfl ?_
          obtain ⟨v64, g, h⟩ := zb_some h
          refine zw_geti hX zl_X16_143 dX16_findPoints_217 g ?_
          refine zw_iload_n hX dX16_findPoints_220 rfl ?_
          obtain ⟨S65, g, h⟩ := zb_some h
          refine zw_si hX dX16_findPoints_221 g ?_
          refine zw_aload_n hX dX16_findPoints_222 rfl ?_
          refine zw_dup hX dX16_findPoints_223 rfl ?_
          obtain ⟨v66, g, h⟩ := zb_some h
          refine zw_geti hX zl_X16_143 dX16_findPoints_224 g ?_
          refine zw_iconst (v := (1 : Int32)) hX dX16_findPoints_227 (by decide) ?_
          refine zw_iadd hX dX16_findPoints_228 ?_
          obtain ⟨S67, g, h⟩ := zb_some h
          refine zw_putv hX zl_X16_143 zt_16_30 dX16_findPoints_229 rfl rfl g ?_
          refine zw_sub (lv' := [(0, .ref a0), (1, .int i1), (3, .int i3)]) (List.forall_mem_cons.mpr ⟨rfl, (List.forall_mem_cons.mpr ⟨rfl, (List.forall_mem_cons.mpr ⟨rfl, zs_nil⟩)⟩)⟩) ?_
          exact zt_X16_findPoints_J232 hX hr hR hd hf hk ih h
def zf_X16_findPoints_L148 (N : Nat) : Nat → Nat → Int32 → zm_S → Option ((Unit × zm_S) ⊕ ((Unit) × zm_S))
  | 0, _, _, _ => none
  | n + 1, a0, i1, S => (zg_i S a0 16 0).bind (fun v48 => if v48 ≤ i1 then some (.inr ((), S)) else (zf_X16_findPoints_L160 N N a0 i1 (-1 : Int32) (0 : Int32) S).bind (fun r => match r with | .inl o => some (.inl o) | .inr (_, S68) => zf_X16_findPoints_L148 N n a0 (i1 + (1 : Int32)) S68))
set_option maxHeartbeats 4000000 in
set_option maxRecDepth 100000 in
theorem zt_X16_findPoints_L148 {p : Program} {l : Launch} {e : Env} {R : Room} {s : State} {m : MethodId} {args : Array Value} {below : List Frame} {meth : Method} {c : Code} {V : zm_V} {mc ms d rc rs : Nat} (hX : zm_X p R s m args meth c RX16 "findPoints" cX16_findPoints 4 zk_E V mc ms) (hr : meth.sig.returnType = none) (hR : R.frames = d ∧ R.locals = 64 * d) (hd : 3 ≤ d) {N : Nat} {res : (Unit × zm_S) ⊕ ((Unit) × zm_S)} {out : (Unit × zm_S)} (a0 : Nat) (hf : ∀ o, res = .inl o → o = out) (hk : ∀ (S' : zm_S), res = .inr ((), S') → zw p l e R s m args below meth c (vx_MQ below (zm_Qc zk_E V (zo_v out)) (zm_XC zk_E V zo_x) args s mc ms (fun q => V.2.2.2.1 ≤ q)) 4 zk_E V mc ms 246 [] [] S' rc rs) : ∀ (n : Nat) (i1 : Int32) (S : zm_S), zf_X16_findPoints_L148 N n a0 i1 S = some res → zw p l e R s m args below meth c (vx_MQ below (zm_Qc zk_E V (zo_v out)) (zm_XC zk_E V zo_x) args s mc ms (fun q => V.2.2.2.1 ≤ q)) 4 zk_E V mc ms 148 [(0, .ref a0), (1, .int i1)] [] S rc rs := by
  intro n
  induction n with
  | zero => intro i1 S h; cases h
  | succ n ih =>
    intro i1 S h
    rw [zf_X16_findPoints_L148] at h
    refine zw_iload_n hX dX16_findPoints_148 rfl ?_
    refine zw_aload_n hX dX16_findPoints_149 rfl ?_
    obtain ⟨v48, g, h⟩ := zb_some h
    refine zw_geti hX zl_X16_96 dX16_findPoints_150 g ?_
    refine zw_icmp_ge (tgt := 246) hX dX16_findPoints_153 (by decide) (fun c153 => ?_) (fun c153 => ?_)
    · rw [if_pos c153] at h
      refine zw_sub (lv' := []) zs_nil ?_
      exact hk  _ (Option.some.inj h).symm
    · rw [if_neg c153] at h
      refine zw_iconst (v := (-1 : Int32)) hX dX16_findPoints_156 (by decide) ?_
      refine zw_istore_n hX dX16_findPoints_157 (by decide) ?_
      refine zw_iconst (v := (0 : Int32)) hX dX16_findPoints_158 (by decide) ?_
      refine zw_istore_n hX dX16_findPoints_159 (by decide) ?_
      obtain ⟨r, g, h⟩ := zb_some h
      refine zw_sub (lv' := [(0, .ref a0), (1, .int i1), (2, .int (-1 : Int32)), (3, .int (0 : Int32))]) (List.forall_mem_cons.mpr ⟨rfl, (List.forall_mem_cons.mpr ⟨rfl, (List.forall_mem_cons.mpr ⟨rfl, (List.forall_mem_cons.mpr ⟨rfl, zs_nil⟩)⟩)⟩)⟩) ?_
      refine zt_X16_findPoints_L160 hX hr hR hd (res := r) (out := out) a0 i1 ?_ ?_ N _ _ _ g
      · intro o ho
        subst ho
        exact hf _ (Option.some.inj h).symm
      · intro  S68 hx
        subst hx
        try dsimp only at h
        refine zw_iinc (v := (i1 + (1 : Int32))) hX dX16_findPoints_240 rfl rfl (by decide) ?_
        refine zw_goto (tgt := 148) hX dX16_findPoints_243 (by decide) ?_
        refine zw_sub (lv' := [(0, .ref a0), (1, .int (i1 + (1 : Int32)))]) (List.forall_mem_cons.mpr ⟨rfl, (List.forall_mem_cons.mpr ⟨rfl, zs_nil⟩)⟩) ?_
        exact ih _ _ h
def zf_X16_findPoints (N : Nat) (a0 : Nat) (S : zm_S) : Option (Unit × zm_S) := (zp S a0 16 27 (.int (0 : Int32))).bind (fun S1 => (zf_X16_findPoints_L7 N N a0 (0 : Int32) S1).bind (fun r => match r with | .inl o => some o | .inr (_, S46) => (zp S46 a0 16 30 (.int (0 : Int32))).bind (fun S47 => (zf_X16_findPoints_L148 N N a0 (0 : Int32) S47).bind (fun r => match r with | .inl o => some o | .inr (_, S69) => some ((), S69)))))
set_option maxHeartbeats 4000000 in
set_option maxRecDepth 100000 in
theorem zt_X16_findPoints {l : Launch} {V : zm_V} {N : Nat} {S : zm_S} {out : (Unit × zm_S)} {d : Nat} {a0 : Nat} (hd : 3 ≤ d) (h : zf_X16_findPoints N a0 S = some out) : zm_Met l zk_E V yX16_findPoints (.code yX16_findPoints cX16_findPoints 4 none) d [.ref a0] S 0 0 (zo_v out) zo_x := by
  refine zm_of (by decide +kernel) (Nat.le_of_ble_eq_true rfl) ?_
  intro p e R s m args below meth c hRR hX hr hxt
  have hR : R.frames = d ∧ R.locals = 64 * d := by rw [hRR]; exact ⟨rfl, rfl⟩
  have hX : zm_X p R s m args meth c RX16 "findPoints" cX16_findPoints 4 zk_E V 0 0 := hX
  unfold zf_X16_findPoints at h
  refine zw_sub (lv' := [(0, .ref a0)]) (List.forall_mem_cons.mpr ⟨rfl, zs_nil⟩) ?_
  refine zw_aload_n hX dX16_findPoints_0 rfl ?_
  refine zw_iconst (v := (0 : Int32)) hX dX16_findPoints_1 (by decide) ?_
  obtain ⟨S1, g, h⟩ := zb_some h
  refine zw_putv hX zl_X16_129 zt_16_27 dX16_findPoints_2 rfl rfl g ?_
  refine zw_iconst (v := (0 : Int32)) hX dX16_findPoints_5 (by decide) ?_
  refine zw_istore_n hX dX16_findPoints_6 (by decide) ?_
  obtain ⟨r, g, h⟩ := zb_some h
  refine zw_sub (lv' := [(0, .ref a0), (1, .int (0 : Int32))]) (List.forall_mem_cons.mpr ⟨rfl, (List.forall_mem_cons.mpr ⟨rfl, zs_nil⟩)⟩) ?_
  refine zt_X16_findPoints_L7 hX hr hR hd (res := r) (out := out) a0 ?_ ?_ N _ _ g
  · intro o ho
    subst ho
    exact Option.some.inj h
  · intro  S46 hx
    subst hx
    try dsimp only at h
    refine zw_aload_n hX dX16_findPoints_141 rfl ?_
    refine zw_iconst (v := (0 : Int32)) hX dX16_findPoints_142 (by decide) ?_
    obtain ⟨S47, g, h⟩ := zb_some h
    refine zw_putv hX zl_X16_143 zt_16_30 dX16_findPoints_143 rfl rfl g ?_
    refine zw_iconst (v := (0 : Int32)) hX dX16_findPoints_146 (by decide) ?_
    refine zw_istore_n hX dX16_findPoints_147 (by decide) ?_
    obtain ⟨r, g, h⟩ := zb_some h
    refine zw_sub (lv' := [(0, .ref a0), (1, .int (0 : Int32))]) (List.forall_mem_cons.mpr ⟨rfl, (List.forall_mem_cons.mpr ⟨rfl, zs_nil⟩)⟩) ?_
    refine zt_X16_findPoints_L148 hX hr hR hd (res := r) (out := out) a0 ?_ ?_ N _ _ g
    · intro o ho
      subst ho
      exact Option.some.inj h
    · intro  S69 hx
      subst hx
      try dsimp only at h
      obtain rfl := Option.some.inj h
      exact zw_vret hX hr dX16_findPoints_246 ⟨rfl, rfl⟩
def zf_X16_sideFrom (N : Nat) (a0 : Nat) (i1 : Int32) (S : zm_S) : Option (Int32 × zm_S) := if (i1 - i1 / (2 : Int32) * (2 : Int32)) = 0 then (zg_r S a0 16 32).bind (fun b3 => (za_x S 0 b3 (i1 / (2 : Int32))).bind (fun v4 => some (v4, S))) else (zg_r S a0 16 33).bind (fun b1 => (za_x S 0 b1 (i1 / (2 : Int32))).bind (fun v2 => some (v2, S)))
set_option maxHeartbeats 4000000 in
set_option maxRecDepth 100000 in
theorem zt_X16_sideFrom {l : Launch} {V : zm_V} {N : Nat} {S : zm_S} {out : (Int32 × zm_S)} {d : Nat} {a0 : Nat} {i1 : Int32} (hd : 1 ≤ d) (h : zf_X16_sideFrom N a0 i1 S = some out) : zm_Met l zk_E V yX16_sideFrom (.code yX16_sideFrom cX16_sideFrom 2 (some .int)) d [.ref a0, .int i1] S 0 0 (zo_i out) zo_x := by
  refine zm_of (by decide +kernel) (Nat.le_of_ble_eq_true rfl) ?_
  intro p e R s m args below meth c hRR hX hr hxt
  have hR : R.frames = d ∧ R.locals = 64 * d := by rw [hRR]; exact ⟨rfl, rfl⟩
  have hX : zm_X p R s m args meth c RX16 "sideFrom" cX16_sideFrom 2 zk_E V 0 0 := hX
  unfold zf_X16_sideFrom at h
  refine zw_sub (lv' := [(0, .ref a0), (1, .int i1)]) (List.forall_mem_cons.mpr ⟨rfl, (List.forall_mem_cons.mpr ⟨rfl, zs_nil⟩)⟩) ?_
  refine zw_iload_n hX dX16_sideFrom_0 rfl ?_
  refine zw_iconst (v := (2 : Int32)) hX dX16_sideFrom_1 (by decide) ?_
  refine zw_irem hX dX16_sideFrom_2 (by decide) ?_
  refine zw_if_ne (tgt := 17) hX dX16_sideFrom_3 (by decide) (fun c3 => ?_) (fun c3 => ?_)
  · rw [if_neg c3] at h
    refine zw_aload_n hX dX16_sideFrom_17 rfl ?_
    obtain ⟨b1, g, h⟩ := zb_some h
    refine zw_getr hX zl_X16_71 dX16_sideFrom_18 g ?_
    refine zw_iload_n hX dX16_sideFrom_21 rfl ?_
    refine zw_iconst (v := (2 : Int32)) hX dX16_sideFrom_22 (by decide) ?_
    refine zw_idiv hX dX16_sideFrom_23 (by decide) ?_
    obtain ⟨v2, g, h⟩ := zb_some h
    refine zw_xi hX dX16_sideFrom_24 g ?_
    obtain rfl := Option.some.inj h
    exact zw_iret hX hr dX16_sideFrom_25 rfl ⟨rfl, rfl⟩
  · rw [if_pos c3] at h
    refine zw_aload_n hX dX16_sideFrom_6 rfl ?_
    obtain ⟨b3, g, h⟩ := zb_some h
    refine zw_getr hX zl_X16_68 dX16_sideFrom_7 g ?_
    refine zw_iload_n hX dX16_sideFrom_10 rfl ?_
    refine zw_iconst (v := (2 : Int32)) hX dX16_sideFrom_11 (by decide) ?_
    refine zw_idiv hX dX16_sideFrom_12 (by decide) ?_
    obtain ⟨v4, g, h⟩ := zb_some h
    refine zw_xi hX dX16_sideFrom_13 g ?_
    refine zw_goto (tgt := 25) hX dX16_sideFrom_14 (by decide) ?_
    obtain rfl := Option.some.inj h
    exact zw_iret hX hr dX16_sideFrom_25 rfl ⟨rfl, rfl⟩
def zf_X16_sideTo (N : Nat) (a0 : Nat) (i1 : Int32) (S : zm_S) : Option (Int32 × zm_S) := if (i1 - i1 / (2 : Int32) * (2 : Int32)) = 0 then (zg_r S a0 16 33).bind (fun b3 => (za_x S 0 b3 (i1 / (2 : Int32))).bind (fun v4 => some (v4, S))) else (zg_r S a0 16 32).bind (fun b1 => (za_x S 0 b1 (i1 / (2 : Int32))).bind (fun v2 => some (v2, S)))
set_option maxHeartbeats 4000000 in
set_option maxRecDepth 100000 in
theorem zt_X16_sideTo {l : Launch} {V : zm_V} {N : Nat} {S : zm_S} {out : (Int32 × zm_S)} {d : Nat} {a0 : Nat} {i1 : Int32} (hd : 1 ≤ d) (h : zf_X16_sideTo N a0 i1 S = some out) : zm_Met l zk_E V yX16_sideTo (.code yX16_sideTo cX16_sideTo 2 (some .int)) d [.ref a0, .int i1] S 0 0 (zo_i out) zo_x := by
  refine zm_of (by decide +kernel) (Nat.le_of_ble_eq_true rfl) ?_
  intro p e R s m args below meth c hRR hX hr hxt
  have hR : R.frames = d ∧ R.locals = 64 * d := by rw [hRR]; exact ⟨rfl, rfl⟩
  have hX : zm_X p R s m args meth c RX16 "sideTo" cX16_sideTo 2 zk_E V 0 0 := hX
  unfold zf_X16_sideTo at h
  refine zw_sub (lv' := [(0, .ref a0), (1, .int i1)]) (List.forall_mem_cons.mpr ⟨rfl, (List.forall_mem_cons.mpr ⟨rfl, zs_nil⟩)⟩) ?_
  refine zw_iload_n hX dX16_sideTo_0 rfl ?_
  refine zw_iconst (v := (2 : Int32)) hX dX16_sideTo_1 (by decide) ?_
  refine zw_irem hX dX16_sideTo_2 (by decide) ?_
  refine zw_if_ne (tgt := 17) hX dX16_sideTo_3 (by decide) (fun c3 => ?_) (fun c3 => ?_)
  · rw [if_neg c3] at h
    refine zw_aload_n hX dX16_sideTo_17 rfl ?_
    obtain ⟨b1, g, h⟩ := zb_some h
    refine zw_getr hX zl_X16_68 dX16_sideTo_18 g ?_
    refine zw_iload_n hX dX16_sideTo_21 rfl ?_
    refine zw_iconst (v := (2 : Int32)) hX dX16_sideTo_22 (by decide) ?_
    refine zw_idiv hX dX16_sideTo_23 (by decide) ?_
    obtain ⟨v2, g, h⟩ := zb_some h
    refine zw_xi hX dX16_sideTo_24 g ?_
    obtain rfl := Option.some.inj h
    exact zw_iret hX hr dX16_sideTo_25 rfl ⟨rfl, rfl⟩
  · rw [if_pos c3] at h
    refine zw_aload_n hX dX16_sideTo_6 rfl ?_
    obtain ⟨b3, g, h⟩ := zb_some h
    refine zw_getr hX zl_X16_71 dX16_sideTo_7 g ?_
    refine zw_iload_n hX dX16_sideTo_10 rfl ?_
    refine zw_iconst (v := (2 : Int32)) hX dX16_sideTo_11 (by decide) ?_
    refine zw_idiv hX dX16_sideTo_12 (by decide) ?_
    obtain ⟨v4, g, h⟩ := zb_some h
    refine zw_xi hX dX16_sideTo_13 g ?_
    refine zw_goto (tgt := 25) hX dX16_sideTo_14 (by decide) ?_
    obtain rfl := Option.some.inj h
    exact zw_iret hX hr dX16_sideTo_25 rfl ⟨rfl, rfl⟩
def zf_X16_sideWay_J21 (N : Nat) (i1 : Int32) (t0 : Int32) (S : zm_S) : Option (Int32 × zm_S) := some ((t0 + ((2 : Int32) * (i1 - i1 / (2 : Int32) * (2 : Int32)))), S)
set_option maxHeartbeats 4000000 in
set_option maxRecDepth 100000 in
theorem zt_X16_sideWay_J21 {p : Program} {l : Launch} {e : Env} {R : Room} {s : State} {m : MethodId} {args : Array Value} {below : List Frame} {meth : Method} {c : Code} {V : zm_V} {mc ms d rc rs : Nat} (hX : zm_X p R s m args meth c RX16 "sideWay" cX16_sideWay 2 zk_E V mc ms) (hr : meth.sig.returnType = (some .int)) (hR : R.frames = d ∧ R.locals = 64 * d) (hd : 1 ≤ d) {N : Nat} {i1 : Int32} {t0 : Int32} {out : (Int32 × zm_S)} {S : zm_S} (h : zf_X16_sideWay_J21 N i1 t0 S = some out) : zw p l e R s m args below meth c (vx_MQ below (zm_Qc zk_E V (zo_i out)) (zm_XC zk_E V zo_x) args s mc ms (fun q => V.2.2.2.1 ≤ q)) 2 zk_E V mc ms 21 [(1, .int i1)] [.int t0] S rc rs := by
  unfold zf_X16_sideWay_J21 at h
  refine zw_iconst (v := (2 : Int32)) hX dX16_sideWay_21 (by decide) ?_
  refine zw_iload_n hX dX16_sideWay_22 rfl ?_
  refine zw_iconst (v := (2 : Int32)) hX dX16_sideWay_23 (by decide) ?_
  refine zw_irem hX dX16_sideWay_24 (by decide) ?_
  refine zw_imul hX dX16_sideWay_25 ?_
  refine zw_iadd hX dX16_sideWay_26 ?_
  obtain rfl := Option.some.inj h
  exact zw_iret hX hr dX16_sideWay_27 rfl ⟨rfl, rfl⟩
def zf_X16_sideWay (N : Nat) (a0 : Nat) (i1 : Int32) (S : zm_S) : Option (Int32 × zm_S) := (zg_r S a0 16 3).bind (fun b1 => (zg_r S a0 16 31).bind (fun b2 => (za_x S 0 b2 (i1 / (2 : Int32))).bind (fun v3 => (za_x S 2 b1 v3).bind (fun v4 => if v4 = 0 then zf_X16_sideWay_J21 N i1 (1 : Int32) S else zf_X16_sideWay_J21 N i1 (0 : Int32) S))))
set_option maxHeartbeats 4000000 in
set_option maxRecDepth 100000 in
theorem zt_X16_sideWay {l : Launch} {V : zm_V} {N : Nat} {S : zm_S} {out : (Int32 × zm_S)} {d : Nat} {a0 : Nat} {i1 : Int32} (hd : 1 ≤ d) (h : zf_X16_sideWay N a0 i1 S = some out) : zm_Met l zk_E V yX16_sideWay (.code yX16_sideWay cX16_sideWay 2 (some .int)) d [.ref a0, .int i1] S 0 0 (zo_i out) zo_x := by
  refine zm_of (by decide +kernel) (Nat.le_of_ble_eq_true rfl) ?_
  intro p e R s m args below meth c hRR hX hr hxt
  have hR : R.frames = d ∧ R.locals = 64 * d := by rw [hRR]; exact ⟨rfl, rfl⟩
  have hX : zm_X p R s m args meth c RX16 "sideWay" cX16_sideWay 2 zk_E V 0 0 := hX
  unfold zf_X16_sideWay at h
  refine zw_sub (lv' := [(0, .ref a0), (1, .int i1)]) (List.forall_mem_cons.mpr ⟨rfl, (List.forall_mem_cons.mpr ⟨rfl, zs_nil⟩)⟩) ?_
  refine zw_aload_n hX dX16_sideWay_0 rfl ?_
  obtain ⟨b1, g, h⟩ := zb_some h
  refine zw_getr hX zl_X16_16 dX16_sideWay_1 g ?_
  refine zw_aload_n hX dX16_sideWay_4 rfl ?_
  obtain ⟨b2, g, h⟩ := zb_some h
  refine zw_getr hX zl_X16_65 dX16_sideWay_5 g ?_
  refine zw_iload_n hX dX16_sideWay_8 rfl ?_
  refine zw_iconst (v := (2 : Int32)) hX dX16_sideWay_9 (by decide) ?_
  refine zw_idiv hX dX16_sideWay_10 (by decide) ?_
  obtain ⟨v3, g, h⟩ := zb_some h
  refine zw_xi hX dX16_sideWay_11 g ?_
  obtain ⟨v4, g, h⟩ := zb_some h
  refine zw_xz hX dX16_sideWay_12 g ?_
  refine zw_if_eq (tgt := 20) hX dX16_sideWay_13 (by decide) (fun c13 => ?_) (fun c13 => ?_)
  · rw [if_pos c13] at h
    refine zw_iconst (v := (1 : Int32)) hX dX16_sideWay_20 (by decide) ?_
    refine zw_sub (lv' := [(1, .int i1)]) (List.forall_mem_cons.mpr ⟨rfl, zs_nil⟩) ?_
    exact zt_X16_sideWay_J21 hX hr hR hd h
  · rw [if_neg c13] at h
    refine zw_iconst (v := (0 : Int32)) hX dX16_sideWay_16 (by decide) ?_
    refine zw_goto (tgt := 21) hX dX16_sideWay_17 (by decide) ?_
    refine zw_sub (lv' := [(1, .int i1)]) (List.forall_mem_cons.mpr ⟨rfl, zs_nil⟩) ?_
    exact zt_X16_sideWay_J21 hX hr hR hd h
def zf_X16_sideLength (N : Nat) (a0 : Nat) (i1 : Int32) (S : zm_S) : Option (Int32 × zm_S) := (zg_r S a0 16 32).bind (fun b1 => (za_x S 0 b1 (i1 / (2 : Int32))).bind (fun v2 => (zg_r S a0 16 33).bind (fun b3 => (za_x S 0 b3 (i1 / (2 : Int32))).bind (fun v4 => (zg_r S a0 16 28).bind (fun b5 => (za_x S 0 b5 v4).bind (fun v6 => (zg_r S a0 16 28).bind (fun b7 => (za_x S 0 b7 v2).bind (fun v8 => (zg_r S a0 16 29).bind (fun b9 => (za_x S 0 b9 v4).bind (fun v10 => (zg_r S a0 16 29).bind (fun b11 => (za_x S 0 b11 v2).bind (fun v12 => some ((((v6 - v8) + v10) - v12), S)))))))))))))
set_option maxHeartbeats 4000000 in
set_option maxRecDepth 100000 in
theorem zt_X16_sideLength {l : Launch} {V : zm_V} {N : Nat} {S : zm_S} {out : (Int32 × zm_S)} {d : Nat} {a0 : Nat} {i1 : Int32} (hd : 1 ≤ d) (h : zf_X16_sideLength N a0 i1 S = some out) : zm_Met l zk_E V yX16_sideLength (.code yX16_sideLength cX16_sideLength 4 (some .int)) d [.ref a0, .int i1] S 0 0 (zo_i out) zo_x := by
  refine zm_of (by decide +kernel) (Nat.le_of_ble_eq_true rfl) ?_
  intro p e R s m args below meth c hRR hX hr hxt
  have hR : R.frames = d ∧ R.locals = 64 * d := by rw [hRR]; exact ⟨rfl, rfl⟩
  have hX : zm_X p R s m args meth c RX16 "sideLength" cX16_sideLength 4 zk_E V 0 0 := hX
  unfold zf_X16_sideLength at h
  refine zw_sub (lv' := [(0, .ref a0), (1, .int i1)]) (List.forall_mem_cons.mpr ⟨rfl, (List.forall_mem_cons.mpr ⟨rfl, zs_nil⟩)⟩) ?_
  refine zw_aload_n hX dX16_sideLength_0 rfl ?_
  obtain ⟨b1, g, h⟩ := zb_some h
  refine zw_getr hX zl_X16_68 dX16_sideLength_1 g ?_
  refine zw_iload_n hX dX16_sideLength_4 rfl ?_
  refine zw_iconst (v := (2 : Int32)) hX dX16_sideLength_5 (by decide) ?_
  refine zw_idiv hX dX16_sideLength_6 (by decide) ?_
  obtain ⟨v2, g, h⟩ := zb_some h
  refine zw_xi hX dX16_sideLength_7 g ?_
  refine zw_istore_n hX dX16_sideLength_8 (by decide) ?_
  refine zw_aload_n hX dX16_sideLength_9 rfl ?_
  obtain ⟨b3, g, h⟩ := zb_some h
  refine zw_getr hX zl_X16_71 dX16_sideLength_10 g ?_
  refine zw_iload_n hX dX16_sideLength_13 rfl ?_
  refine zw_iconst (v := (2 : Int32)) hX dX16_sideLength_14 (by decide) ?_
  refine zw_idiv hX dX16_sideLength_15 (by decide) ?_
  obtain ⟨v4, g, h⟩ := zb_some h
  refine zw_xi hX dX16_sideLength_16 g ?_
  refine zw_istore_n hX dX16_sideLength_17 (by decide) ?_
  refine zw_aload_n hX dX16_sideLength_18 rfl ?_
  obtain ⟨b5, g, h⟩ := zb_some h
  refine zw_getr hX zl_X16_59 dX16_sideLength_19 g ?_
  refine zw_iload_n hX dX16_sideLength_22 rfl ?_
  obtain ⟨v6, g, h⟩ := zb_some h
  refine zw_xi hX dX16_sideLength_23 g ?_
  refine zw_aload_n hX dX16_sideLength_24 rfl ?_
  obtain ⟨b7, g, h⟩ := zb_some h
  refine zw_getr hX zl_X16_59 dX16_sideLength_25 g ?_
  refine zw_iload_n hX dX16_sideLength_28 rfl ?_
  obtain ⟨v8, g, h⟩ := zb_some h
  refine zw_xi hX dX16_sideLength_29 g ?_
  refine zw_isub hX dX16_sideLength_30 ?_
  refine zw_aload_n hX dX16_sideLength_31 rfl ?_
  obtain ⟨b9, g, h⟩ := zb_some h
  refine zw_getr hX zl_X16_62 dX16_sideLength_32 g ?_
  refine zw_iload_n hX dX16_sideLength_35 rfl ?_
  obtain ⟨v10, g, h⟩ := zb_some h
  refine zw_xi hX dX16_sideLength_36 g ?_
  refine zw_iadd hX dX16_sideLength_37 ?_
  refine zw_aload_n hX dX16_sideLength_38 rfl ?_
  obtain ⟨b11, g, h⟩ := zb_some h
  refine zw_getr hX zl_X16_62 dX16_sideLength_39 g ?_
  refine zw_iload_n hX dX16_sideLength_42 rfl ?_
  obtain ⟨v12, g, h⟩ := zb_some h
  refine zw_xi hX dX16_sideLength_43 g ?_
  refine zw_isub hX dX16_sideLength_44 ?_
  obtain rfl := Option.some.inj h
  exact zw_iret hX hr dX16_sideLength_45 rfl ⟨rfl, rfl⟩
def zf_X16_left (N : Nat) (a0 : Nat) (i1 : Int32) (S : zm_S) : Option (Int32 × zm_S) := (zg_r S a0 16 32).bind (fun b1 => (za_x S 0 b1 (i1 / (2 : Int32))).bind (fun v2 => (zg_r S a0 16 14).bind (fun b3 => (zg_r S a0 16 28).bind (fun b4 => (za_x S 0 b4 v2).bind (fun v5 => (zf_X16_indexOf N b3 v5 S).bind (fun r8 => (zg_r r8.2 a0 16 15).bind (fun b9 => (zg_r r8.2 a0 16 29).bind (fun b10 => (za_x r8.2 0 b10 v2).bind (fun v11 => (zf_X16_indexOf N b9 v11 r8.2).bind (fun r14 => (zi r14.2 a0 16).bind (fun _ => (zf_X16_sideWay N a0 i1 r14.2).bind (fun r17 => if (r17.1).toInt = 0 then (zg_r r17.2 a0 16 16).bind (fun b20 => (za_x r17.2 0 b20 ((((42 : Int32) * (r14.1 + (1 : Int32))) + r8.1) + (1 : Int32))).bind (fun v21 => some (v21, r17.2))) else if (r17.1).toInt = 1 then (zg_r r17.2 a0 16 16).bind (fun b22 => (za_x r17.2 0 b22 (((42 : Int32) * (r14.1 + (1 : Int32))) + r8.1)).bind (fun v23 => some (v23, r17.2))) else if (r17.1).toInt = 2 then (zg_r r17.2 a0 16 16).bind (fun b24 => (za_x r17.2 0 b24 ((((42 : Int32) * r14.1) + r8.1) + (1 : Int32))).bind (fun v25 => some (v25, r17.2))) else (zg_r r17.2 a0 16 16).bind (fun b18 => (za_x r17.2 0 b18 ((((42 : Int32) * (r14.1 + (1 : Int32))) + r8.1) + (1 : Int32))).bind (fun v19 => some (v19, r17.2)))))))))))))))
set_option maxHeartbeats 4000000 in
set_option maxRecDepth 100000 in
theorem zt_X16_left {l : Launch} {V : zm_V} {N : Nat} {S : zm_S} {out : (Int32 × zm_S)} {d : Nat} {a0 : Nat} {i1 : Int32} (hd : 2 ≤ d) (h : zf_X16_left N a0 i1 S = some out) : zm_Met l zk_E V yX16_left (.code yX16_left cX16_left 5 (some .int)) d [.ref a0, .int i1] S 0 0 (zo_i out) zo_x := by
  refine zm_of (by decide +kernel) (Nat.le_of_ble_eq_true rfl) ?_
  intro p e R s m args below meth c hRR hX hr hxt
  have hR : R.frames = d ∧ R.locals = 64 * d := by rw [hRR]; exact ⟨rfl, rfl⟩
  have hX : zm_X p R s m args meth c RX16 "left" cX16_left 5 zk_E V 0 0 := hX
  unfold zf_X16_left at h
  refine zw_sub (lv' := [(0, .ref a0), (1, .int i1)]) (List.forall_mem_cons.mpr ⟨rfl, (List.forall_mem_cons.mpr ⟨rfl, zs_nil⟩)⟩) ?_
  refine zw_aload_n hX dX16_left_0 rfl ?_
  obtain ⟨b1, g, h⟩ := zb_some h
  refine zw_getr hX zl_X16_68 dX16_left_1 g ?_
  refine zw_iload_n hX dX16_left_4 rfl ?_
  refine zw_iconst (v := (2 : Int32)) hX dX16_left_5 (by decide) ?_
  refine zw_idiv hX dX16_left_6 (by decide) ?_
  obtain ⟨v2, g, h⟩ := zb_some h
  refine zw_xi hX dX16_left_7 g ?_
  refine zw_istore_n hX dX16_left_8 (by decide) ?_
  refine zw_aload_n hX dX16_left_9 rfl ?_
  obtain ⟨b3, g, h⟩ := zb_some h
  refine zw_getr hX zl_X16_35 dX16_left_10 g ?_
  refine zw_aload_n hX dX16_left_13 rfl ?_
  obtain ⟨b4, g, h⟩ := zb_some h
  refine zw_getr hX zl_X16_59 dX16_left_14 g ?_
  refine zw_iload_n hX dX16_left_17 rfl ?_
  obtain ⟨v5, g, h⟩ := zb_some h
  refine zw_xi hX dX16_left_18 g ?_
  obtain ⟨r8, g, h⟩ := zb_some h
  refine zc_Si (as := [.ref b3, .int v5]) hX (zt_X16_indexOf (d := d - 1) (by omega) g) zl_X16_146 dX16_left_19 ⟨rfl, rfl, Nat.le_of_ble_eq_true rfl⟩ ⟨by omega, by omega⟩ ?_
  refine zw_istore_n hX dX16_left_22 (by decide) ?_
  refine zw_aload_n hX dX16_left_23 rfl ?_
  obtain ⟨b9, g, h⟩ := zb_some h
  refine zw_getr hX zl_X16_38 dX16_left_24 g ?_
  refine zw_aload_n hX dX16_left_27 rfl ?_
  obtain ⟨b10, g, h⟩ := zb_some h
  refine zw_getr hX zl_X16_62 dX16_left_28 g ?_
  refine zw_iload_n hX dX16_left_31 rfl ?_
  obtain ⟨v11, g, h⟩ := zb_some h
  refine zw_xi hX dX16_left_32 g ?_
  obtain ⟨r14, g, h⟩ := zb_some h
  refine zc_Si (as := [.ref b9, .int v11]) hX (zt_X16_indexOf (d := d - 1) (by omega) g) zl_X16_146 dX16_left_33 ⟨rfl, rfl, Nat.le_of_ble_eq_true rfl⟩ ⟨by omega, by omega⟩ ?_
  refine zw_istore hX dX16_left_36 (by decide) ?_
  refine zw_aload_n hX dX16_left_38 rfl ?_
  refine zw_iload_n hX dX16_left_39 rfl ?_
  obtain ⟨_, gi, h⟩ := zb_some h
  obtain ⟨r17, g, h⟩ := zb_some h
  refine zc_Vi (as := [.int i1]) hX gi (zt_X16_sideWay (d := d - 1) (by omega) g) zl_X16_150 rfl dX16_left_40 ⟨rfl, rfl, Nat.le_of_ble_eq_true rfl⟩ ⟨by omega, by omega⟩ ?_
  by_cases c43_0 : (r17.1).toInt = 0
  · rw [if_pos c43_0] at h
    refine zw_tableIn (off := 25) (tgt := 68) hX dX16_left_43 (by rw [c43_0]; decide) (by rw [c43_0]; decide) (by rw [c43_0]; decide) (by decide) ?_
    refine zw_aload_n hX dX16_left_68 rfl ?_
    obtain ⟨b20, g, h⟩ := zb_some h
    refine zw_getr hX zl_X16_41 dX16_left_69 g ?_
    refine zw_bipush (v := (42 : Int32)) hX dX16_left_72 (by decide) ?_
    refine zw_iload hX dX16_left_74 rfl ?_
    refine zw_iconst (v := (1 : Int32)) hX dX16_left_76 (by decide) ?_
    refine zw_iadd hX dX16_left_77 ?_
    refine zw_imul hX dX16_left_78 ?_
    refine zw_iload_n hX dX16_left_79 rfl ?_
    refine zw_iadd hX dX16_left_80 ?_
    refine zw_iconst (v := (1 : Int32)) hX dX16_left_81 (by decide) ?_
    refine zw_iadd hX dX16_left_82 ?_
    obtain ⟨v21, g, h⟩ := zb_some h
    refine zw_xi hX dX16_left_83 g ?_
    obtain rfl := Option.some.inj h
    exact zw_iret hX hr dX16_left_84 rfl ⟨rfl, rfl⟩
  rw [if_neg c43_0] at h
  by_cases c43_1 : (r17.1).toInt = 1
  · rw [if_pos c43_1] at h
    refine zw_tableIn (off := 57) (tgt := 100) hX dX16_left_43 (by rw [c43_1]; decide) (by rw [c43_1]; decide) (by rw [c43_1]; decide) (by decide) ?_
    refine zw_aload_n hX dX16_left_100 rfl ?_
    obtain ⟨b22, g, h⟩ := zb_some h
    refine zw_getr hX zl_X16_41 dX16_left_101 g ?_
    refine zw_bipush (v := (42 : Int32)) hX dX16_left_104 (by decide) ?_
    refine zw_iload hX dX16_left_106 rfl ?_
    refine zw_iconst (v := (1 : Int32)) hX dX16_left_108 (by decide) ?_
    refine zw_iadd hX dX16_left_109 ?_
    refine zw_imul hX dX16_left_110 ?_
    refine zw_iload_n hX dX16_left_111 rfl ?_
    refine zw_iadd hX dX16_left_112 ?_
    obtain ⟨v23, g, h⟩ := zb_some h
    refine zw_xi hX dX16_left_113 g ?_
    obtain rfl := Option.some.inj h
    exact zw_iret hX hr dX16_left_114 rfl ⟨rfl, rfl⟩
  rw [if_neg c43_1] at h
  by_cases c43_2 : (r17.1).toInt = 2
  · rw [if_pos c43_2] at h
    refine zw_tableIn (off := 42) (tgt := 85) hX dX16_left_43 (by rw [c43_2]; decide) (by rw [c43_2]; decide) (by rw [c43_2]; decide) (by decide) ?_
    refine zw_aload_n hX dX16_left_85 rfl ?_
    obtain ⟨b24, g, h⟩ := zb_some h
    refine zw_getr hX zl_X16_41 dX16_left_86 g ?_
    refine zw_bipush (v := (42 : Int32)) hX dX16_left_89 (by decide) ?_
    refine zw_iload hX dX16_left_91 rfl ?_
    refine zw_imul hX dX16_left_93 ?_
    refine zw_iload_n hX dX16_left_94 rfl ?_
    refine zw_iadd hX dX16_left_95 ?_
    refine zw_iconst (v := (1 : Int32)) hX dX16_left_96 (by decide) ?_
    refine zw_iadd hX dX16_left_97 ?_
    obtain ⟨v25, g, h⟩ := zb_some h
    refine zw_xi hX dX16_left_98 g ?_
    obtain rfl := Option.some.inj h
    exact zw_iret hX hr dX16_left_99 rfl ⟨rfl, rfl⟩
  rw [if_neg c43_2] at h
  refine zw_tableOut (tgt := 115) hX dX16_left_43 (by omega) (by decide) ?_
  refine zw_aload_n hX dX16_left_115 rfl ?_
  obtain ⟨b18, g, h⟩ := zb_some h
  refine zw_getr hX zl_X16_41 dX16_left_116 g ?_
  refine zw_bipush (v := (42 : Int32)) hX dX16_left_119 (by decide) ?_
  refine zw_iload hX dX16_left_121 rfl ?_
  refine zw_iconst (v := (1 : Int32)) hX dX16_left_123 (by decide) ?_
  refine zw_iadd hX dX16_left_124 ?_
  refine zw_imul hX dX16_left_125 ?_
  refine zw_iload_n hX dX16_left_126 rfl ?_
  refine zw_iadd hX dX16_left_127 ?_
  refine zw_iconst (v := (1 : Int32)) hX dX16_left_128 (by decide) ?_
  refine zw_iadd hX dX16_left_129 ?_
  obtain ⟨v19, g, h⟩ := zb_some h
  refine zw_xi hX dX16_left_130 g ?_
  obtain rfl := Option.some.inj h
  exact zw_iret hX hr dX16_left_131 rfl ⟨rfl, rfl⟩
def zf_X16_right (N : Nat) (a0 : Nat) (i1 : Int32) (S : zm_S) : Option (Int32 × zm_S) := if (i1 - i1 / (2 : Int32) * (2 : Int32)) = 0 then (zi S a0 16).bind (fun _ => (zf_X16_left N a0 (i1 + (1 : Int32)) S).bind (fun r6 => some (r6.1, r6.2))) else (zi S a0 16).bind (fun _ => (zf_X16_left N a0 (i1 - (1 : Int32)) S).bind (fun r3 => some (r3.1, r3.2)))
set_option maxHeartbeats 4000000 in
set_option maxRecDepth 100000 in
theorem zt_X16_right {l : Launch} {V : zm_V} {N : Nat} {S : zm_S} {out : (Int32 × zm_S)} {d : Nat} {a0 : Nat} {i1 : Int32} (hd : 3 ≤ d) (h : zf_X16_right N a0 i1 S = some out) : zm_Met l zk_E V yX16_right (.code yX16_right cX16_right 2 (some .int)) d [.ref a0, .int i1] S 0 0 (zo_i out) zo_x := by
  refine zm_of (by decide +kernel) (Nat.le_of_ble_eq_true rfl) ?_
  intro p e R s m args below meth c hRR hX hr hxt
  have hR : R.frames = d ∧ R.locals = 64 * d := by rw [hRR]; exact ⟨rfl, rfl⟩
  have hX : zm_X p R s m args meth c RX16 "right" cX16_right 2 zk_E V 0 0 := hX
  unfold zf_X16_right at h
  refine zw_sub (lv' := [(0, .ref a0), (1, .int i1)]) (List.forall_mem_cons.mpr ⟨rfl, (List.forall_mem_cons.mpr ⟨rfl, zs_nil⟩)⟩) ?_
  refine zw_aload_n hX dX16_right_0 rfl ?_
  refine zw_iload_n hX dX16_right_1 rfl ?_
  refine zw_iconst (v := (2 : Int32)) hX dX16_right_2 (by decide) ?_
  refine zw_irem hX dX16_right_3 (by decide) ?_
  refine zw_if_ne (tgt := 13) hX dX16_right_4 (by decide) (fun c4 => ?_) (fun c4 => ?_)
  · rw [if_neg c4] at h
    refine zw_iload_n hX dX16_right_13 rfl ?_
    refine zw_iconst (v := (1 : Int32)) hX dX16_right_14 (by decide) ?_
    refine zw_isub hX dX16_right_15 ?_
    obtain ⟨_, gi, h⟩ := zb_some h
    obtain ⟨r3, g, h⟩ := zb_some h
    refine zc_Vi (as := [.int (i1 - (1 : Int32))]) hX gi (zt_X16_left (d := d - 1) (by omega) g) zl_X16_153 rfl dX16_right_16 ⟨rfl, rfl, Nat.le_of_ble_eq_true rfl⟩ ⟨by omega, by omega⟩ ?_
    obtain rfl := Option.some.inj h
    exact zw_iret hX hr dX16_right_19 rfl ⟨rfl, rfl⟩
  · rw [if_pos c4] at h
    refine zw_iload_n hX dX16_right_7 rfl ?_
    refine zw_iconst (v := (1 : Int32)) hX dX16_right_8 (by decide) ?_
    refine zw_iadd hX dX16_right_9 ?_
    refine zw_goto (tgt := 16) hX dX16_right_10 (by decide) ?_
    obtain ⟨_, gi, h⟩ := zb_some h
    obtain ⟨r6, g, h⟩ := zb_some h
    refine zc_Vi (as := [.int (i1 + (1 : Int32))]) hX gi (zt_X16_left (d := d - 1) (by omega) g) zl_X16_153 rfl dX16_right_16 ⟨rfl, rfl, Nat.le_of_ble_eq_true rfl⟩ ⟨by omega, by omega⟩ ?_
    obtain rfl := Option.some.inj h
    exact zw_iret hX hr dX16_right_19 rfl ⟨rfl, rfl⟩
def zf_X16_leaving_J41 (N : Nat) (k : Nat → Int32 → Int32 → Int32 → Int32 → zm_S → Option ((Int32 × zm_S) ⊕ ((Int32) × zm_S))) (a0 : Nat) (i1 : Int32) (i2 : Int32) (i3 : Int32) (i4 : Int32) (S : zm_S) : Option ((Int32 × zm_S) ⊕ ((Int32) × zm_S)) := k a0 i1 i2 i3 (i4 + (1 : Int32)) S
set_option maxHeartbeats 4000000 in
set_option maxRecDepth 100000 in
theorem zt_X16_leaving_J41 {p : Program} {l : Launch} {e : Env} {R : Room} {s : State} {m : MethodId} {args : Array Value} {below : List Frame} {meth : Method} {c : Code} {V : zm_V} {mc ms d rc rs : Nat} (hX : zm_X p R s m args meth c RX16 "leaving" cX16_leaving 5 zk_E V mc ms) (hr : meth.sig.returnType = (some .int)) (hR : R.frames = d ∧ R.locals = 64 * d) (hd : 2 ≤ d) {N : Nat} {k : Nat → Int32 → Int32 → Int32 → Int32 → zm_S → Option ((Int32 × zm_S) ⊕ ((Int32) × zm_S))} {a0 : Nat} {i1 : Int32} {i2 : Int32} {i3 : Int32} {i4 : Int32} {res : (Int32 × zm_S) ⊕ ((Int32) × zm_S)} {out : (Int32 × zm_S)}   (hf : ∀ o, res = .inl o → o = out) (hk : ∀ (x3 : Int32) (S' : zm_S), res = .inr (x3, S') → zw p l e R s m args below meth c (vx_MQ below (zm_Qc zk_E V (zo_i out)) (zm_XC zk_E V zo_x) args s mc ms (fun q => V.2.2.2.1 ≤ q)) 5 zk_E V mc ms 49 [(3, .int x3)] [] S' rc rs) (hrec : ∀ (i3' : Int32) (i4' : Int32) (S : zm_S), k a0 i1 i2 i3' i4' S = some res → zw p l e R s m args below meth c (vx_MQ below (zm_Qc zk_E V (zo_i out)) (zm_XC zk_E V zo_x) args s mc ms (fun q => V.2.2.2.1 ≤ q)) 5 zk_E V mc ms 5 [(0, .ref a0), (1, .int i1), (2, .int i2), (3, .int i3'), (4, .int i4')] [] S rc rs) {S : zm_S} (h : zf_X16_leaving_J41 N k a0 i1 i2 i3 i4 S = some res) : zw p l e R s m args below meth c (vx_MQ below (zm_Qc zk_E V (zo_i out)) (zm_XC zk_E V zo_x) args s mc ms (fun q => V.2.2.2.1 ≤ q)) 5 zk_E V mc ms 41 [(0, .ref a0), (1, .int i1), (2, .int i2), (3, .int i3), (4, .int i4)] [] S rc rs := by
  unfold zf_X16_leaving_J41 at h
  refine zw_iload_n hX dX16_leaving_41 rfl ?_
  refine zw_istore_n hX dX16_leaving_42 (by decide) ?_
  refine zw_iinc (v := (i4 + (1 : Int32))) hX dX16_leaving_43 rfl rfl (by decide) ?_
  refine zw_goto (tgt := 5) hX dX16_leaving_46 (by decide) ?_
  refine zw_sub (lv' := [(0, .ref a0), (1, .int i1), (2, .int i2), (3, .int i3), (4, .int (i4 + (1 : Int32)))]) (List.forall_mem_cons.mpr ⟨rfl, (List.forall_mem_cons.mpr ⟨rfl, (List.forall_mem_cons.mpr ⟨rfl, (List.forall_mem_cons.mpr ⟨rfl, (List.forall_mem_cons.mpr ⟨rfl, zs_nil⟩)⟩)⟩)⟩)⟩) ?_
  exact hrec _ _ _ h
def zf_X16_leaving_L5 (N : Nat) : Nat → Nat → Int32 → Int32 → Int32 → Int32 → zm_S → Option ((Int32 × zm_S) ⊕ ((Int32) × zm_S))
  | 0, _, _, _, _, _, _ => none
  | n + 1, a0, i1, i2, i3, i4, S => (zg_i S a0 16 30).bind (fun v1 => if ((2 : Int32) * v1) ≤ i4 then some (.inr (i3, S)) else (zi S a0 16).bind (fun _ => (zf_X16_sideFrom N a0 i4 S).bind (fun r4 => if r4.1 = i1 then (zi r4.2 a0 16).bind (fun _ => (zf_X16_sideWay N a0 i4 r4.2).bind (fun r7 => if r7.1 = i2 then zf_X16_leaving_L5 N n a0 i1 i2 i4 (i4 + (1 : Int32)) r7.2 else zf_X16_leaving_J41 N (zf_X16_leaving_L5 N n) a0 i1 i2 i3 i4 r7.2)) else zf_X16_leaving_J41 N (zf_X16_leaving_L5 N n) a0 i1 i2 i3 i4 r4.2)))
set_option maxHeartbeats 4000000 in
set_option maxRecDepth 100000 in
theorem zt_X16_leaving_L5 {p : Program} {l : Launch} {e : Env} {R : Room} {s : State} {m : MethodId} {args : Array Value} {below : List Frame} {meth : Method} {c : Code} {V : zm_V} {mc ms d rc rs : Nat} (hX : zm_X p R s m args meth c RX16 "leaving" cX16_leaving 5 zk_E V mc ms) (hr : meth.sig.returnType = (some .int)) (hR : R.frames = d ∧ R.locals = 64 * d) (hd : 2 ≤ d) {N : Nat} {res : (Int32 × zm_S) ⊕ ((Int32) × zm_S)} {out : (Int32 × zm_S)} (a0 : Nat) (i1 : Int32) (i2 : Int32) (hf : ∀ o, res = .inl o → o = out) (hk : ∀ (x3 : Int32) (S' : zm_S), res = .inr (x3, S') → zw p l e R s m args below meth c (vx_MQ below (zm_Qc zk_E V (zo_i out)) (zm_XC zk_E V zo_x) args s mc ms (fun q => V.2.2.2.1 ≤ q)) 5 zk_E V mc ms 49 [(3, .int x3)] [] S' rc rs) : ∀ (n : Nat) (i3 : Int32) (i4 : Int32) (S : zm_S), zf_X16_leaving_L5 N n a0 i1 i2 i3 i4 S = some res → zw p l e R s m args below meth c (vx_MQ below (zm_Qc zk_E V (zo_i out)) (zm_XC zk_E V zo_x) args s mc ms (fun q => V.2.2.2.1 ≤ q)) 5 zk_E V mc ms 5 [(0, .ref a0), (1, .int i1), (2, .int i2), (3, .int i3), (4, .int i4)] [] S rc rs := by
  intro n
  induction n with
  | zero => intro i3 i4 S h; cases h
  | succ n ih =>
    intro i3 i4 S h
    rw [zf_X16_leaving_L5] at h
    refine zw_iload hX dX16_leaving_5 rfl ?_
    refine zw_iconst (v := (2 : Int32)) hX dX16_leaving_7 (by decide) ?_
    refine zw_aload_n hX dX16_leaving_8 rfl ?_
    obtain ⟨v1, g, h⟩ := zb_some h
    refine zw_geti hX zl_X16_143 dX16_leaving_9 g ?_
    refine zw_imul hX dX16_leaving_12 ?_
    refine zw_icmp_ge (tgt := 49) hX dX16_leaving_13 (by decide) (fun c13 => ?_) (fun c13 => ?_)
    · rw [if_pos c13] at h
      refine zw_sub (lv' := [(3, .int i3)]) (List.forall_mem_cons.mpr ⟨rfl, zs_nil⟩) ?_
      exact hk _ _ (Option.some.inj h).symm
    · rw [if_neg c13] at h
      refine zw_aload_n hX dX16_leaving_16 rfl ?_
      refine zw_iload hX dX16_leaving_17 rfl ?_
      obtain ⟨_, gi, h⟩ := zb_some h
      obtain ⟨r4, g, h⟩ := zb_some h
      refine zc_Vi (as := [.int i4]) hX gi (zt_X16_sideFrom (d := d - 1) (by omega) g) zl_X16_156 rfl dX16_leaving_19 ⟨rfl, rfl, Nat.le_of_ble_eq_true rfl⟩ ⟨by omega, by omega⟩ ?_
      refine zw_iload_n hX dX16_leaving_22 rfl ?_
      refine zw_icmp_ne (tgt := 41) hX dX16_leaving_23 (by decide) (fun c23 => ?_) (fun c23 => ?_)
      · rw [if_neg c23] at h
        refine zw_sub (lv' := [(0, .ref a0), (1, .int i1), (2, .int i2), (3, .int i3), (4, .int i4)]) (List.forall_mem_cons.mpr ⟨rfl, (List.forall_mem_cons.mpr ⟨rfl, (List.forall_mem_cons.mpr ⟨rfl, (List.forall_mem_cons.mpr ⟨rfl, (List.forall_mem_cons.mpr ⟨rfl, zs_nil⟩)⟩)⟩)⟩)⟩) ?_
        exact zt_X16_leaving_J41 hX hr hR hd hf hk ih h
      · rw [if_pos c23] at h
        refine zw_aload_n hX dX16_leaving_26 rfl ?_
        refine zw_iload hX dX16_leaving_27 rfl ?_
        obtain ⟨_, gi, h⟩ := zb_some h
        obtain ⟨r7, g, h⟩ := zb_some h
        refine zc_Vi (as := [.int i4]) hX gi (zt_X16_sideWay (d := d - 1) (by omega) g) zl_X16_150 rfl dX16_leaving_29 ⟨rfl, rfl, Nat.le_of_ble_eq_true rfl⟩ ⟨by omega, by omega⟩ ?_
        refine zw_iload_n hX dX16_leaving_32 rfl ?_
        refine zw_icmp_ne (tgt := 41) hX dX16_leaving_33 (by decide) (fun c33 => ?_) (fun c33 => ?_)
        · rw [if_neg c33] at h
          refine zw_sub (lv' := [(0, .ref a0), (1, .int i1), (2, .int i2), (3, .int i3), (4, .int i4)]) (List.forall_mem_cons.mpr ⟨rfl, (List.forall_mem_cons.mpr ⟨rfl, (List.forall_mem_cons.mpr ⟨rfl, (List.forall_mem_cons.mpr ⟨rfl, (List.forall_mem_cons.mpr ⟨rfl, zs_nil⟩)⟩)⟩)⟩)⟩) ?_
          exact zt_X16_leaving_J41 hX hr hR hd hf hk ih h
        · rw [if_pos c33] at h
          refine zw_iload hX dX16_leaving_36 rfl ?_
          refine zw_goto (tgt := 42) hX dX16_leaving_38 (by decide) ?_
          refine zw_istore_n hX dX16_leaving_42 (by decide) ?_
          refine zw_iinc (v := (i4 + (1 : Int32))) hX dX16_leaving_43 rfl rfl (by decide) ?_
          refine zw_goto (tgt := 5) hX dX16_leaving_46 (by decide) ?_
          refine zw_sub (lv' := [(0, .ref a0), (1, .int i1), (2, .int i2), (3, .int i4), (4, .int (i4 + (1 : Int32)))]) (List.forall_mem_cons.mpr ⟨rfl, (List.forall_mem_cons.mpr ⟨rfl, (List.forall_mem_cons.mpr ⟨rfl, (List.forall_mem_cons.mpr ⟨rfl, (List.forall_mem_cons.mpr ⟨rfl, zs_nil⟩)⟩)⟩)⟩)⟩) ?_
          exact ih _ _ _ h
def zf_X16_leaving (N : Nat) (a0 : Nat) (i1 : Int32) (i2 : Int32) (S : zm_S) : Option (Int32 × zm_S) := (zf_X16_leaving_L5 N N a0 i1 i2 (-1 : Int32) (0 : Int32) S).bind (fun r => match r with | .inl o => some o | .inr (v9, S8) => some (v9, S8))
set_option maxHeartbeats 4000000 in
set_option maxRecDepth 100000 in
theorem zt_X16_leaving {l : Launch} {V : zm_V} {N : Nat} {S : zm_S} {out : (Int32 × zm_S)} {d : Nat} {a0 : Nat} {i1 : Int32} {i2 : Int32} (hd : 2 ≤ d) (h : zf_X16_leaving N a0 i1 i2 S = some out) : zm_Met l zk_E V yX16_leaving (.code yX16_leaving cX16_leaving 5 (some .int)) d [.ref a0, .int i1, .int i2] S 0 0 (zo_i out) zo_x := by
  refine zm_of (by decide +kernel) (Nat.le_of_ble_eq_true rfl) ?_
  intro p e R s m args below meth c hRR hX hr hxt
  have hR : R.frames = d ∧ R.locals = 64 * d := by rw [hRR]; exact ⟨rfl, rfl⟩
  have hX : zm_X p R s m args meth c RX16 "leaving" cX16_leaving 5 zk_E V 0 0 := hX
  unfold zf_X16_leaving at h
  refine zw_sub (lv' := [(0, .ref a0), (1, .int i1), (2, .int i2)]) (List.forall_mem_cons.mpr ⟨rfl, (List.forall_mem_cons.mpr ⟨rfl, (List.forall_mem_cons.mpr ⟨rfl, zs_nil⟩)⟩)⟩) ?_
  refine zw_iconst (v := (-1 : Int32)) hX dX16_leaving_0 (by decide) ?_
  refine zw_istore_n hX dX16_leaving_1 (by decide) ?_
  refine zw_iconst (v := (0 : Int32)) hX dX16_leaving_2 (by decide) ?_
  refine zw_istore hX dX16_leaving_3 (by decide) ?_
  obtain ⟨r, g, h⟩ := zb_some h
  refine zw_sub (lv' := [(0, .ref a0), (1, .int i1), (2, .int i2), (3, .int (-1 : Int32)), (4, .int (0 : Int32))]) (List.forall_mem_cons.mpr ⟨rfl, (List.forall_mem_cons.mpr ⟨rfl, (List.forall_mem_cons.mpr ⟨rfl, (List.forall_mem_cons.mpr ⟨rfl, (List.forall_mem_cons.mpr ⟨rfl, zs_nil⟩)⟩)⟩)⟩)⟩) ?_
  refine zt_X16_leaving_L5 hX hr hR hd (res := r) (out := out) a0 i1 i2 ?_ ?_ N _ _ _ g
  · intro o ho
    subst ho
    exact Option.some.inj h
  · intro v9 S8 hx
    subst hx
    try dsimp only at h
    refine zw_iload_n hX dX16_leaving_49 rfl ?_
    obtain rfl := Option.some.inj h
    exact zw_iret hX hr dX16_leaving_50 rfl ⟨rfl, rfl⟩
def zf_X16_next_L4 (N : Nat) : Nat → Nat → Int32 → Int32 → Int32 → zm_S → Option ((Int32 × zm_S) ⊕ ((Int32) × zm_S))
  | 0, _, _, _, _, _ => none
  | n + 1, a0, i1, i2, i3, S => if i3 ≤ (-3 : Int32) then some (.inr (i2, S)) else if 0 ≤ i2 then some (.inr (i2, S)) else (zi S a0 16).bind (fun _ => (zf_X16_sideTo N a0 i1 S).bind (fun r3 => (zi r3.2 a0 16).bind (fun _ => (zf_X16_sideWay N a0 i1 r3.2).bind (fun r6 => (zi r6.2 a0 16).bind (fun _ => (zf_X16_leaving N a0 r3.1 (((r6.1 + i3) + (4 : Int32)) - ((r6.1 + i3) + (4 : Int32)) / (4 : Int32) * (4 : Int32)) r6.2).bind (fun r9 => zf_X16_next_L4 N n a0 i1 r9.1 (i3 + (-1 : Int32)) r9.2))))))
set_option maxHeartbeats 4000000 in
set_option maxRecDepth 100000 in
theorem zt_X16_next_L4 {p : Program} {l : Launch} {e : Env} {R : Room} {s : State} {m : MethodId} {args : Array Value} {below : List Frame} {meth : Method} {c : Code} {V : zm_V} {mc ms d rc rs : Nat} (hX : zm_X p R s m args meth c RX16 "next" cX16_next 4 zk_E V mc ms) (hr : meth.sig.returnType = (some .int)) (hR : R.frames = d ∧ R.locals = 64 * d) (hd : 3 ≤ d) {N : Nat} {res : (Int32 × zm_S) ⊕ ((Int32) × zm_S)} {out : (Int32 × zm_S)} (a0 : Nat) (i1 : Int32) (hf : ∀ o, res = .inl o → o = out) (hk : ∀ (x2 : Int32) (S' : zm_S), res = .inr (x2, S') → zw p l e R s m args below meth c (vx_MQ below (zm_Qc zk_E V (zo_i out)) (zm_XC zk_E V zo_x) args s mc ms (fun q => V.2.2.2.1 ≤ q)) 4 zk_E V mc ms 41 [(2, .int x2)] [] S' rc rs) : ∀ (n : Nat) (i2 : Int32) (i3 : Int32) (S : zm_S), zf_X16_next_L4 N n a0 i1 i2 i3 S = some res → zw p l e R s m args below meth c (vx_MQ below (zm_Qc zk_E V (zo_i out)) (zm_XC zk_E V zo_x) args s mc ms (fun q => V.2.2.2.1 ≤ q)) 4 zk_E V mc ms 4 [(0, .ref a0), (1, .int i1), (2, .int i2), (3, .int i3)] [] S rc rs := by
  intro n
  induction n with
  | zero => intro i2 i3 S h; cases h
  | succ n ih =>
    intro i2 i3 S h
    rw [zf_X16_next_L4] at h
    refine zw_iload_n hX dX16_next_4 rfl ?_
    refine zw_bipush (v := (-3 : Int32)) hX dX16_next_5 (by decide) ?_
    refine zw_icmp_le (tgt := 41) hX dX16_next_7 (by decide) (fun c7 => ?_) (fun c7 => ?_)
    · rw [if_pos c7] at h
      refine zw_sub (lv' := [(2, .int i2)]) (List.forall_mem_cons.mpr ⟨rfl, zs_nil⟩) ?_
      exact hk _ _ (Option.some.inj h).symm
    · rw [if_neg c7] at h
      refine zw_iload_n hX dX16_next_10 rfl ?_
      refine zw_if_ge (tgt := 41) hX dX16_next_11 (by decide) (fun c11 => ?_) (fun c11 => ?_)
      · rw [if_pos c11] at h
        refine zw_sub (lv' := [(2, .int i2)]) (List.forall_mem_cons.mpr ⟨rfl, zs_nil⟩) ?_
        exact hk _ _ (Option.some.inj h).symm
      · rw [if_neg c11] at h
        refine zw_aload_n hX dX16_next_14 rfl ?_
        refine zw_aload_n hX dX16_next_15 rfl ?_
        refine zw_iload_n hX dX16_next_16 rfl ?_
        obtain ⟨_, gi, h⟩ := zb_some h
        obtain ⟨r3, g, h⟩ := zb_some h
        refine zc_Vi (as := [.int i1]) hX gi (zt_X16_sideTo (d := d - 1) (by omega) g) zl_X16_159 rfl dX16_next_17 ⟨rfl, rfl, Nat.le_of_ble_eq_true rfl⟩ ⟨by omega, by omega⟩ ?_
        refine zw_aload_n hX dX16_next_20 rfl ?_
        refine zw_iload_n hX dX16_next_21 rfl ?_
        obtain ⟨_, gi, h⟩ := zb_some h
        obtain ⟨r6, g, h⟩ := zb_some h
        refine zc_Vi (as := [.int i1]) hX gi (zt_X16_sideWay (d := d - 1) (by omega) g) zl_X16_150 rfl dX16_next_22 ⟨rfl, rfl, Nat.le_of_ble_eq_true rfl⟩ ⟨by omega, by omega⟩ ?_
        refine zw_iload_n hX dX16_next_25 rfl ?_
        refine zw_iadd hX dX16_next_26 ?_
        refine zw_iconst (v := (4 : Int32)) hX dX16_next_27 (by decide) ?_
        refine zw_iadd hX dX16_next_28 ?_
        refine zw_iconst (v := (4 : Int32)) hX dX16_next_29 (by decide) ?_
        refine zw_irem hX dX16_next_30 (by decide) ?_
        obtain ⟨_, gi, h⟩ := zb_some h
        obtain ⟨r9, g, h⟩ := zb_some h
        refine zc_Vi (as := [.int r3.1, .int (((r6.1 + i3) + (4 : Int32)) - ((r6.1 + i3) + (4 : Int32)) / (4 : Int32) * (4 : Int32))]) hX gi (zt_X16_leaving (d := d - 1) (by omega) g) zl_X16_162 rfl dX16_next_31 ⟨rfl, rfl, Nat.le_of_ble_eq_true rfl⟩ ⟨by omega, by omega⟩ ?_
        refine zw_istore_n hX dX16_next_34 (by decide) ?_
        refine zw_iinc (v := (i3 + (-1 : Int32))) hX dX16_next_35 rfl rfl (by decide) ?_
        refine zw_goto (tgt := 4) hX dX16_next_38 (by decide) ?_
        refine zw_sub (lv' := [(0, .ref a0), (1, .int i1), (2, .int r9.1), (3, .int (i3 + (-1 : Int32)))]) (List.forall_mem_cons.mpr ⟨rfl, (List.forall_mem_cons.mpr ⟨rfl, (List.forall_mem_cons.mpr ⟨rfl, (List.forall_mem_cons.mpr ⟨rfl, zs_nil⟩)⟩)⟩)⟩) ?_
        exact ih _ _ _ h
def zf_X16_next (N : Nat) (a0 : Nat) (i1 : Int32) (S : zm_S) : Option (Int32 × zm_S) := (zf_X16_next_L4 N N a0 i1 (-1 : Int32) (1 : Int32) S).bind (fun r => match r with | .inl o => some o | .inr (v11, S10) => some (v11, S10))
set_option maxHeartbeats 4000000 in
set_option maxRecDepth 100000 in
theorem zt_X16_next {l : Launch} {V : zm_V} {N : Nat} {S : zm_S} {out : (Int32 × zm_S)} {d : Nat} {a0 : Nat} {i1 : Int32} (hd : 3 ≤ d) (h : zf_X16_next N a0 i1 S = some out) : zm_Met l zk_E V yX16_next (.code yX16_next cX16_next 4 (some .int)) d [.ref a0, .int i1] S 0 0 (zo_i out) zo_x := by
  refine zm_of (by decide +kernel) (Nat.le_of_ble_eq_true rfl) ?_
  intro p e R s m args below meth c hRR hX hr hxt
  have hR : R.frames = d ∧ R.locals = 64 * d := by rw [hRR]; exact ⟨rfl, rfl⟩
  have hX : zm_X p R s m args meth c RX16 "next" cX16_next 4 zk_E V 0 0 := hX
  unfold zf_X16_next at h
  refine zw_sub (lv' := [(0, .ref a0), (1, .int i1)]) (List.forall_mem_cons.mpr ⟨rfl, (List.forall_mem_cons.mpr ⟨rfl, zs_nil⟩)⟩) ?_
  refine zw_iconst (v := (-1 : Int32)) hX dX16_next_0 (by decide) ?_
  refine zw_istore_n hX dX16_next_1 (by decide) ?_
  refine zw_iconst (v := (1 : Int32)) hX dX16_next_2 (by decide) ?_
  refine zw_istore_n hX dX16_next_3 (by decide) ?_
  obtain ⟨r, g, h⟩ := zb_some h
  refine zw_sub (lv' := [(0, .ref a0), (1, .int i1), (2, .int (-1 : Int32)), (3, .int (1 : Int32))]) (List.forall_mem_cons.mpr ⟨rfl, (List.forall_mem_cons.mpr ⟨rfl, (List.forall_mem_cons.mpr ⟨rfl, (List.forall_mem_cons.mpr ⟨rfl, zs_nil⟩)⟩)⟩)⟩) ?_
  refine zt_X16_next_L4 hX hr hR hd (res := r) (out := out) a0 i1 ?_ ?_ N _ _ _ g
  · intro o ho
    subst ho
    exact Option.some.inj h
  · intro v11 S10 hx
    subst hx
    try dsimp only at h
    refine zw_iload_n hX dX16_next_41 rfl ?_
    obtain rfl := Option.some.inj h
    exact zw_iret hX hr dX16_next_42 rfl ⟨rfl, rfl⟩
def zf_X16_findRings_L7 (N : Nat) : Nat → Nat → Int32 → zm_S → Option ((Unit × zm_S) ⊕ ((Unit) × zm_S))
  | 0, _, _, _ => none
  | n + 1, a0, i1, S => (zg_i S a0 16 30).bind (fun v2 => if ((2 : Int32) * v2) ≤ i1 then some (.inr ((), S)) else (zg_r S a0 16 34).bind (fun b3 => (zs_z S b3 i1 (0 : Int32)).bind (fun S4 => zf_X16_findRings_L7 N n a0 (i1 + (1 : Int32)) S4)))
set_option maxHeartbeats 4000000 in
set_option maxRecDepth 100000 in
theorem zt_X16_findRings_L7 {p : Program} {l : Launch} {e : Env} {R : Room} {s : State} {m : MethodId} {args : Array Value} {below : List Frame} {meth : Method} {c : Code} {V : zm_V} {mc ms d rc rs : Nat} (hX : zm_X p R s m args meth c RX16 "findRings" cX16_findRings 4 zk_E V mc ms) (hr : meth.sig.returnType = none) (hR : R.frames = d ∧ R.locals = 64 * d) (hd : 4 ≤ d) {N : Nat} {res : (Unit × zm_S) ⊕ ((Unit) × zm_S)} {out : (Unit × zm_S)} (a0 : Nat) (hf : ∀ o, res = .inl o → o = out) (hk : ∀ (S' : zm_S), res = .inr ((), S') → zw p l e R s m args below meth c (vx_MQ below (zm_Qc zk_E V (zo_v out)) (zm_XC zk_E V zo_x) args s mc ms (fun q => V.2.2.2.1 ≤ q)) 4 zk_E V mc ms 30 [(0, .ref a0)] [] S' rc rs) : ∀ (n : Nat) (i1 : Int32) (S : zm_S), zf_X16_findRings_L7 N n a0 i1 S = some res → zw p l e R s m args below meth c (vx_MQ below (zm_Qc zk_E V (zo_v out)) (zm_XC zk_E V zo_x) args s mc ms (fun q => V.2.2.2.1 ≤ q)) 4 zk_E V mc ms 7 [(0, .ref a0), (1, .int i1)] [] S rc rs := by
  intro n
  induction n with
  | zero => intro i1 S h; cases h
  | succ n ih =>
    intro i1 S h
    rw [zf_X16_findRings_L7] at h
    refine zw_iload_n hX dX16_findRings_7 rfl ?_
    refine zw_iconst (v := (2 : Int32)) hX dX16_findRings_8 (by decide) ?_
    refine zw_aload_n hX dX16_findRings_9 rfl ?_
    obtain ⟨v2, g, h⟩ := zb_some h
    refine zw_geti hX zl_X16_143 dX16_findRings_10 g ?_
    refine zw_imul hX dX16_findRings_13 ?_
    refine zw_icmp_ge (tgt := 30) hX dX16_findRings_14 (by decide) (fun c14 => ?_) (fun c14 => ?_)
    · rw [if_pos c14] at h
      refine zw_sub (lv' := [(0, .ref a0)]) (List.forall_mem_cons.mpr ⟨rfl, zs_nil⟩) ?_
      exact hk  _ (Option.some.inj h).symm
    · rw [if_neg c14] at h
      refine zw_aload_n hX dX16_findRings_17 rfl ?_
      obtain ⟨b3, g, h⟩ := zb_some h
      refine zw_getr hX zl_X16_74 dX16_findRings_18 g ?_
      refine zw_iload_n hX dX16_findRings_21 rfl ?_
      refine zw_iconst (v := (0 : Int32)) hX dX16_findRings_22 (by decide) ?_
      obtain ⟨S4, g, h⟩ := zb_some h
      refine zw_sz hX dX16_findRings_23 g ?_
      refine zw_iinc (v := (i1 + (1 : Int32))) hX dX16_findRings_24 rfl rfl (by decide) ?_
      refine zw_goto (tgt := 7) hX dX16_findRings_27 (by decide) ?_
      refine zw_sub (lv' := [(0, .ref a0), (1, .int (i1 + (1 : Int32)))]) (List.forall_mem_cons.mpr ⟨rfl, (List.forall_mem_cons.mpr ⟨rfl, zs_nil⟩)⟩) ?_
      exact ih _ _ h
def zf_X16_findRings_L87 (N : Nat) : Nat → Nat → Int32 → Int32 → Int32 → zm_S → Option ((Unit × zm_S) ⊕ ((Unit) × zm_S))
  | 0, _, _, _, _, _ => none
  | n + 1, a0, i1, i2, i3, S => (zg_r S a0 16 34).bind (fun b18 => (za_x S 2 b18 i3).bind (fun v19 => if v19 = 0 then (zg_r S a0 16 34).bind (fun b20 => (zs_z S b20 i3 (1 : Int32)).bind (fun S21 => (zg_r S21 a0 16 37).bind (fun b22 => (zg_i S21 a0 16 35).bind (fun v23 => (za_x S21 0 b22 v23).bind (fun v24 => (zs_i S21 b22 v23 (v24 + (1 : Int32))).bind (fun S25 => (zi S25 a0 16).bind (fun _ => (zf_X16_next N a0 i3 S25).bind (fun r28 => zf_X16_findRings_L87 N n a0 i1 i2 r28.1 r28.2)))))))) else some (.inr ((), S))))
set_option maxHeartbeats 4000000 in
set_option maxRecDepth 100000 in
theorem zt_X16_findRings_L87 {p : Program} {l : Launch} {e : Env} {R : Room} {s : State} {m : MethodId} {args : Array Value} {below : List Frame} {meth : Method} {c : Code} {V : zm_V} {mc ms d rc rs : Nat} (hX : zm_X p R s m args meth c RX16 "findRings" cX16_findRings 4 zk_E V mc ms) (hr : meth.sig.returnType = none) (hR : R.frames = d ∧ R.locals = 64 * d) (hd : 4 ≤ d) {N : Nat} {res : (Unit × zm_S) ⊕ ((Unit) × zm_S)} {out : (Unit × zm_S)} (a0 : Nat) (i1 : Int32) (i2 : Int32) (hf : ∀ o, res = .inl o → o = out) (hk : ∀ (S' : zm_S), res = .inr ((), S') → zw p l e R s m args below meth c (vx_MQ below (zm_Qc zk_E V (zo_v out)) (zm_XC zk_E V zo_x) args s mc ms (fun q => V.2.2.2.1 ≤ q)) 4 zk_E V mc ms 125 [(0, .ref a0), (1, .int i1), (2, .int i2)] [] S' rc rs) : ∀ (n : Nat) (i3 : Int32) (S : zm_S), zf_X16_findRings_L87 N n a0 i1 i2 i3 S = some res → zw p l e R s m args below meth c (vx_MQ below (zm_Qc zk_E V (zo_v out)) (zm_XC zk_E V zo_x) args s mc ms (fun q => V.2.2.2.1 ≤ q)) 4 zk_E V mc ms 87 [(0, .ref a0), (1, .int i1), (2, .int i2), (3, .int i3)] [] S rc rs := by
  intro n
  induction n with
  | zero => intro i3 S h; cases h
  | succ n ih =>
    intro i3 S h
    rw [zf_X16_findRings_L87] at h
    refine zw_aload_n hX dX16_findRings_87 rfl ?_
    obtain ⟨b18, g, h⟩ := zb_some h
    refine zw_getr hX zl_X16_74 dX16_findRings_88 g ?_
    refine zw_iload_n hX dX16_findRings_91 rfl ?_
    obtain ⟨v19, g, h⟩ := zb_some h
    refine zw_xz hX dX16_findRings_92 g ?_
    refine zw_if_ne (tgt := 125) hX dX16_findRings_93 (by decide) (fun c93 => ?_) (fun c93 => ?_)
    · rw [if_neg c93] at h
      refine zw_sub (lv' := [(0, .ref a0), (1, .int i1), (2, .int i2)]) (List.forall_mem_cons.mpr ⟨rfl, (List.forall_mem_cons.mpr ⟨rfl, (List.forall_mem_cons.mpr ⟨rfl, zs_nil⟩)⟩)⟩) ?_
      exact hk  _ (Option.some.inj h).symm
    · rw [if_pos c93] at h
      refine zw_aload_n hX dX16_findRings_96 rfl ?_
      obtain ⟨b20, g, h⟩ := zb_some h
      refine zw_getr hX zl_X16_74 dX16_findRings_97 g ?_
      refine zw_iload_n hX dX16_findRings_100 rfl ?_
      refine zw_iconst (v := (1 : Int32)) hX dX16_findRings_101 (by decide) ?_
      obtain ⟨S21, g, h⟩ := zb_some h
      refine zw_sz hX dX16_findRings_102 g ?_
      refine zw_aload_n hX dX16_findRings_103 rfl ?_
      obtain ⟨b22, g, h⟩ := zb_some h
      refine zw_getr hX zl_X16_80 dX16_findRings_104 g ?_
      refine zw_aload_n hX dX16_findRings_107 rfl ?_
      obtain ⟨v23, g, h⟩ := zb_some h
      refine zw_geti hX zl_X16_165 dX16_findRings_108 g ?_
      refine zw_dup2 hX dX16_findRings_111 rfl rfl ?_
      obtain ⟨v24, g, h⟩ := zb_some h
      refine zw_xi hX dX16_findRings_112 g ?_
      refine zw_iconst (v := (1 : Int32)) hX dX16_findRings_113 (by decide) ?_
      refine zw_iadd hX dX16_findRings_114 ?_
      obtain ⟨S25, g, h⟩ := zb_some h
      refine zw_si hX dX16_findRings_115 g ?_
      refine zw_aload_n hX dX16_findRings_116 rfl ?_
      refine zw_iload_n hX dX16_findRings_117 rfl ?_
      obtain ⟨_, gi, h⟩ := zb_some h
      obtain ⟨r28, g, h⟩ := zb_some h
      refine zc_Vi (as := [.int i3]) hX gi (zt_X16_next (d := d - 1) (by omega) g) zl_X16_168 rfl dX16_findRings_118 ⟨rfl, rfl, Nat.le_of_ble_eq_true rfl⟩ ⟨by omega, by omega⟩ ?_
      refine zw_istore_n hX dX16_findRings_121 (by decide) ?_
      refine zw_goto (tgt := 87) hX dX16_findRings_122 (by decide) ?_
      refine zw_sub (lv' := [(0, .ref a0), (1, .int i1), (2, .int i2), (3, .int r28.1)]) (List.forall_mem_cons.mpr ⟨rfl, (List.forall_mem_cons.mpr ⟨rfl, (List.forall_mem_cons.mpr ⟨rfl, (List.forall_mem_cons.mpr ⟨rfl, zs_nil⟩)⟩)⟩)⟩) ?_
      exact ih _ _ h
def zf_X16_findRings_L42 (N : Nat) : Nat → Nat → Int32 → Int32 → zm_S → Option ((Unit × zm_S) ⊕ ((Unit) × zm_S))
  | 0, _, _, _, _ => none
  | n + 1, a0, i1, i2, S => if (4 : Int32) ≤ i2 then some (.inr ((), S)) else (zi S a0 16).bind (fun _ => (zf_X16_leaving N a0 i1 i2 S).bind (fun r9 => if r9.1 < 0 then zf_X16_findRings_L42 N n a0 i1 (i2 + (1 : Int32)) r9.2 else (zg_r r9.2 a0 16 34).bind (fun b10 => (za_x r9.2 2 b10 r9.1).bind (fun v11 => if v11 = 0 then (zg_r r9.2 a0 16 36).bind (fun b12 => (zg_i r9.2 a0 16 35).bind (fun v13 => (zs_i r9.2 b12 v13 r9.1).bind (fun S14 => (zg_r S14 a0 16 37).bind (fun b15 => (zg_i S14 a0 16 35).bind (fun v16 => (zs_i S14 b15 v16 (0 : Int32)).bind (fun S17 => (zf_X16_findRings_L87 N N a0 i1 i2 r9.1 S17).bind (fun r => match r with | .inl o => some (.inl o) | .inr (_, S29) => (zg_i S29 a0 16 35).bind (fun v30 => (zp S29 a0 16 35 (.int (v30 + (1 : Int32)))).bind (fun S31 => zf_X16_findRings_L42 N n a0 i1 (i2 + (1 : Int32)) S31))))))))) else zf_X16_findRings_L42 N n a0 i1 (i2 + (1 : Int32)) r9.2))))
set_option maxHeartbeats 4000000 in
set_option maxRecDepth 100000 in
theorem zt_X16_findRings_L42 {p : Program} {l : Launch} {e : Env} {R : Room} {s : State} {m : MethodId} {args : Array Value} {below : List Frame} {meth : Method} {c : Code} {V : zm_V} {mc ms d rc rs : Nat} (hX : zm_X p R s m args meth c RX16 "findRings" cX16_findRings 4 zk_E V mc ms) (hr : meth.sig.returnType = none) (hR : R.frames = d ∧ R.locals = 64 * d) (hd : 4 ≤ d) {N : Nat} {res : (Unit × zm_S) ⊕ ((Unit) × zm_S)} {out : (Unit × zm_S)} (a0 : Nat) (i1 : Int32) (hf : ∀ o, res = .inl o → o = out) (hk : ∀ (S' : zm_S), res = .inr ((), S') → zw p l e R s m args below meth c (vx_MQ below (zm_Qc zk_E V (zo_v out)) (zm_XC zk_E V zo_x) args s mc ms (fun q => V.2.2.2.1 ≤ q)) 4 zk_E V mc ms 141 [(0, .ref a0), (1, .int i1)] [] S' rc rs) : ∀ (n : Nat) (i2 : Int32) (S : zm_S), zf_X16_findRings_L42 N n a0 i1 i2 S = some res → zw p l e R s m args below meth c (vx_MQ below (zm_Qc zk_E V (zo_v out)) (zm_XC zk_E V zo_x) args s mc ms (fun q => V.2.2.2.1 ≤ q)) 4 zk_E V mc ms 42 [(0, .ref a0), (1, .int i1), (2, .int i2)] [] S rc rs := by
  intro n
  induction n with
  | zero => intro i2 S h; cases h
  | succ n ih =>
    intro i2 S h
    rw [zf_X16_findRings_L42] at h
    refine zw_iload_n hX dX16_findRings_42 rfl ?_
    refine zw_iconst (v := (4 : Int32)) hX dX16_findRings_43 (by decide) ?_
    refine zw_icmp_ge (tgt := 141) hX dX16_findRings_44 (by decide) (fun c44 => ?_) (fun c44 => ?_)
    · rw [if_pos c44] at h
      refine zw_sub (lv' := [(0, .ref a0), (1, .int i1)]) (List.forall_mem_cons.mpr ⟨rfl, (List.forall_mem_cons.mpr ⟨rfl, zs_nil⟩)⟩) ?_
      exact hk  _ (Option.some.inj h).symm
    · rw [if_neg c44] at h
      refine zw_aload_n hX dX16_findRings_47 rfl ?_
      refine zw_iload_n hX dX16_findRings_48 rfl ?_
      refine zw_iload_n hX dX16_findRings_49 rfl ?_
      obtain ⟨_, gi, h⟩ := zb_some h
      obtain ⟨r9, g, h⟩ := zb_some h
      refine zc_Vi (as := [.int i1, .int i2]) hX gi (zt_X16_leaving (d := d - 1) (by omega) g) zl_X16_162 rfl dX16_findRings_50 ⟨rfl, rfl, Nat.le_of_ble_eq_true rfl⟩ ⟨by omega, by omega⟩ ?_
      refine zw_istore_n hX dX16_findRings_53 (by decide) ?_
      refine zw_iload_n hX dX16_findRings_54 rfl ?_
      refine zw_if_lt (tgt := 135) hX dX16_findRings_55 (by decide) (fun c55 => ?_) (fun c55 => ?_)
      · rw [if_pos c55] at h
        refine zw_iinc (v := (i2 + (1 : Int32))) hX dX16_findRings_135 rfl rfl (by decide) ?_
        refine zw_goto (tgt := 42) hX dX16_findRings_138 (by decide) ?_
        refine zw_sub (lv' := [(0, .ref a0), (1, .int i1), (2, .int (i2 + (1 : Int32)))]) (List.forall_mem_cons.mpr ⟨rfl, (List.forall_mem_cons.mpr ⟨rfl, (List.forall_mem_cons.mpr ⟨rfl, zs_nil⟩)⟩)⟩) ?_
        exact ih _ _ h
      · rw [if_neg c55] at h
        refine zw_aload_n hX dX16_findRings_58 rfl ?_
        obtain ⟨b10, g, h⟩ := zb_some h
        refine zw_getr hX zl_X16_74 dX16_findRings_59 g ?_
        refine zw_iload_n hX dX16_findRings_62 rfl ?_
        obtain ⟨v11, g, h⟩ := zb_some h
        refine zw_xz hX dX16_findRings_63 g ?_
        refine zw_if_ne (tgt := 135) hX dX16_findRings_64 (by decide) (fun c64 => ?_) (fun c64 => ?_)
        · rw [if_neg c64] at h
          refine zw_iinc (v := (i2 + (1 : Int32))) hX dX16_findRings_135 rfl rfl (by decide) ?_
          refine zw_goto (tgt := 42) hX dX16_findRings_138 (by decide) ?_
          refine zw_sub (lv' := [(0, .ref a0), (1, .int i1), (2, .int (i2 + (1 : Int32)))]) (List.forall_mem_cons.mpr ⟨rfl, (List.forall_mem_cons.mpr ⟨rfl, (List.forall_mem_cons.mpr ⟨rfl, zs_nil⟩)⟩)⟩) ?_
          exact ih _ _ h
        · rw [if_pos c64] at h
          refine zw_aload_n hX dX16_findRings_67 rfl ?_
          obtain ⟨b12, g, h⟩ := zb_some h
          refine zw_getr hX zl_X16_77 dX16_findRings_68 g ?_
          refine zw_aload_n hX dX16_findRings_71 rfl ?_
          obtain ⟨v13, g, h⟩ := zb_some h
          refine zw_geti hX zl_X16_165 dX16_findRings_72 g ?_
          refine zw_iload_n hX dX16_findRings_75 rfl ?_
          obtain ⟨S14, g, h⟩ := zb_some h
          refine zw_si hX dX16_findRings_76 g ?_
          refine zw_aload_n hX dX16_findRings_77 rfl ?_
          obtain ⟨b15, g, h⟩ := zb_some h
          refine zw_getr hX zl_X16_80 dX16_findRings_78 g ?_
          refine zw_aload_n hX dX16_findRings_81 rfl ?_
          obtain ⟨v16, g, h⟩ := zb_some h
          refine zw_geti hX zl_X16_165 dX16_findRings_82 g ?_
          refine zw_iconst (v := (0 : Int32)) hX dX16_findRings_85 (by decide) ?_
          obtain ⟨S17, g, h⟩ := zb_some h
          refine zw_si hX dX16_findRings_86 g ?_
          obtain ⟨r, g, h⟩ := zb_some h
          refine zw_sub (lv' := [(0, .ref a0), (1, .int i1), (2, .int i2), (3, .int r9.1)]) (List.forall_mem_cons.mpr ⟨rfl, (List.forall_mem_cons.mpr ⟨rfl, (List.forall_mem_cons.mpr ⟨rfl, (List.forall_mem_cons.mpr ⟨rfl, zs_nil⟩)⟩)⟩)⟩) ?_
          refine zt_X16_findRings_L87 hX hr hR hd (res := r) (out := out) a0 i1 i2 ?_ ?_ N _ _ g
          · intro o ho
            subst ho
            exact hf _ (Option.some.inj h).symm
          · intro  S29 hx
            subst hx
            try dsimp only at h
            refine zw_aload_n hX dX16_findRings_125 rfl ?_
            refine zw_dup hX dX16_findRings_126 rfl ?_
            obtain ⟨v30, g, h⟩ := zb_some h
            refine zw_geti hX zl_X16_165 dX16_findRings_127 g ?_
            refine zw_iconst (v := (1 : Int32)) hX dX16_findRings_130 (by decide) ?_
            refine zw_iadd hX dX16_findRings_131 ?_
            obtain ⟨S31, g, h⟩ := zb_some h
            refine zw_putv hX zl_X16_165 zt_16_35 dX16_findRings_132 rfl rfl g ?_
            refine zw_iinc (v := (i2 + (1 : Int32))) hX dX16_findRings_135 rfl rfl (by decide) ?_
            refine zw_goto (tgt := 42) hX dX16_findRings_138 (by decide) ?_
            refine zw_sub (lv' := [(0, .ref a0), (1, .int i1), (2, .int (i2 + (1 : Int32)))]) (List.forall_mem_cons.mpr ⟨rfl, (List.forall_mem_cons.mpr ⟨rfl, (List.forall_mem_cons.mpr ⟨rfl, zs_nil⟩)⟩)⟩) ?_
            exact ih _ _ h
def zf_X16_findRings_L32 (N : Nat) : Nat → Nat → Int32 → zm_S → Option ((Unit × zm_S) ⊕ ((Unit) × zm_S))
  | 0, _, _, _ => none
  | n + 1, a0, i1, S => (zg_i S a0 16 27).bind (fun v6 => if v6 ≤ i1 then some (.inr ((), S)) else (zf_X16_findRings_L42 N N a0 i1 (0 : Int32) S).bind (fun r => match r with | .inl o => some (.inl o) | .inr (_, S32) => zf_X16_findRings_L32 N n a0 (i1 + (1 : Int32)) S32))
set_option maxHeartbeats 4000000 in
set_option maxRecDepth 100000 in
theorem zt_X16_findRings_L32 {p : Program} {l : Launch} {e : Env} {R : Room} {s : State} {m : MethodId} {args : Array Value} {below : List Frame} {meth : Method} {c : Code} {V : zm_V} {mc ms d rc rs : Nat} (hX : zm_X p R s m args meth c RX16 "findRings" cX16_findRings 4 zk_E V mc ms) (hr : meth.sig.returnType = none) (hR : R.frames = d ∧ R.locals = 64 * d) (hd : 4 ≤ d) {N : Nat} {res : (Unit × zm_S) ⊕ ((Unit) × zm_S)} {out : (Unit × zm_S)} (a0 : Nat) (hf : ∀ o, res = .inl o → o = out) (hk : ∀ (S' : zm_S), res = .inr ((), S') → zw p l e R s m args below meth c (vx_MQ below (zm_Qc zk_E V (zo_v out)) (zm_XC zk_E V zo_x) args s mc ms (fun q => V.2.2.2.1 ≤ q)) 4 zk_E V mc ms 147 [] [] S' rc rs) : ∀ (n : Nat) (i1 : Int32) (S : zm_S), zf_X16_findRings_L32 N n a0 i1 S = some res → zw p l e R s m args below meth c (vx_MQ below (zm_Qc zk_E V (zo_v out)) (zm_XC zk_E V zo_x) args s mc ms (fun q => V.2.2.2.1 ≤ q)) 4 zk_E V mc ms 32 [(0, .ref a0), (1, .int i1)] [] S rc rs := by
  intro n
  induction n with
  | zero => intro i1 S h; cases h
  | succ n ih =>
    intro i1 S h
    rw [zf_X16_findRings_L32] at h
    refine zw_iload_n hX dX16_findRings_32 rfl ?_
    refine zw_aload_n hX dX16_findRings_33 rfl ?_
    obtain ⟨v6, g, h⟩ := zb_some h
    refine zw_geti hX zl_X16_129 dX16_findRings_34 g ?_
    refine zw_icmp_ge (tgt := 147) hX dX16_findRings_37 (by decide) (fun c37 => ?_) (fun c37 => ?_)
    · rw [if_pos c37] at h
      refine zw_sub (lv' := []) zs_nil ?_
      exact hk  _ (Option.some.inj h).symm
    · rw [if_neg c37] at h
      refine zw_iconst (v := (0 : Int32)) hX dX16_findRings_40 (by decide) ?_
      refine zw_istore_n hX dX16_findRings_41 (by decide) ?_
      obtain ⟨r, g, h⟩ := zb_some h
      refine zw_sub (lv' := [(0, .ref a0), (1, .int i1), (2, .int (0 : Int32))]) (List.forall_mem_cons.mpr ⟨rfl, (List.forall_mem_cons.mpr ⟨rfl, (List.forall_mem_cons.mpr ⟨rfl, zs_nil⟩)⟩)⟩) ?_
      refine zt_X16_findRings_L42 hX hr hR hd (res := r) (out := out) a0 i1 ?_ ?_ N _ _ g
      · intro o ho
        subst ho
        exact hf _ (Option.some.inj h).symm
      · intro  S32 hx
        subst hx
        try dsimp only at h
        refine zw_iinc (v := (i1 + (1 : Int32))) hX dX16_findRings_141 rfl rfl (by decide) ?_
        refine zw_goto (tgt := 32) hX dX16_findRings_144 (by decide) ?_
        refine zw_sub (lv' := [(0, .ref a0), (1, .int (i1 + (1 : Int32)))]) (List.forall_mem_cons.mpr ⟨rfl, (List.forall_mem_cons.mpr ⟨rfl, zs_nil⟩)⟩) ?_
        exact ih _ _ h
def zf_X16_findRings (N : Nat) (a0 : Nat) (S : zm_S) : Option (Unit × zm_S) := (zp S a0 16 35 (.int (0 : Int32))).bind (fun S1 => (zf_X16_findRings_L7 N N a0 (0 : Int32) S1).bind (fun r => match r with | .inl o => some o | .inr (_, S5) => (zf_X16_findRings_L32 N N a0 (0 : Int32) S5).bind (fun r => match r with | .inl o => some o | .inr (_, S33) => some ((), S33))))
set_option maxHeartbeats 4000000 in
set_option maxRecDepth 100000 in
theorem zt_X16_findRings {l : Launch} {V : zm_V} {N : Nat} {S : zm_S} {out : (Unit × zm_S)} {d : Nat} {a0 : Nat} (hd : 4 ≤ d) (h : zf_X16_findRings N a0 S = some out) : zm_Met l zk_E V yX16_findRings (.code yX16_findRings cX16_findRings 4 none) d [.ref a0] S 0 0 (zo_v out) zo_x := by
  refine zm_of (by decide +kernel) (Nat.le_of_ble_eq_true rfl) ?_
  intro p e R s m args below meth c hRR hX hr hxt
  have hR : R.frames = d ∧ R.locals = 64 * d := by rw [hRR]; exact ⟨rfl, rfl⟩
  have hX : zm_X p R s m args meth c RX16 "findRings" cX16_findRings 4 zk_E V 0 0 := hX
  unfold zf_X16_findRings at h
  refine zw_sub (lv' := [(0, .ref a0)]) (List.forall_mem_cons.mpr ⟨rfl, zs_nil⟩) ?_
  refine zw_aload_n hX dX16_findRings_0 rfl ?_
  refine zw_iconst (v := (0 : Int32)) hX dX16_findRings_1 (by decide) ?_
  obtain ⟨S1, g, h⟩ := zb_some h
  refine zw_putv hX zl_X16_165 zt_16_35 dX16_findRings_2 rfl rfl g ?_
  refine zw_iconst (v := (0 : Int32)) hX dX16_findRings_5 (by decide) ?_
  refine zw_istore_n hX dX16_findRings_6 (by decide) ?_
  obtain ⟨r, g, h⟩ := zb_some h
  refine zw_sub (lv' := [(0, .ref a0), (1, .int (0 : Int32))]) (List.forall_mem_cons.mpr ⟨rfl, (List.forall_mem_cons.mpr ⟨rfl, zs_nil⟩)⟩) ?_
  refine zt_X16_findRings_L7 hX hr hR hd (res := r) (out := out) a0 ?_ ?_ N _ _ g
  · intro o ho
    subst ho
    exact Option.some.inj h
  · intro  S5 hx
    subst hx
    try dsimp only at h
    refine zw_iconst (v := (0 : Int32)) hX dX16_findRings_30 (by decide) ?_
    refine zw_istore_n hX dX16_findRings_31 (by decide) ?_
    obtain ⟨r, g, h⟩ := zb_some h
    refine zw_sub (lv' := [(0, .ref a0), (1, .int (0 : Int32))]) (List.forall_mem_cons.mpr ⟨rfl, (List.forall_mem_cons.mpr ⟨rfl, zs_nil⟩)⟩) ?_
    refine zt_X16_findRings_L32 hX hr hR hd (res := r) (out := out) a0 ?_ ?_ N _ _ g
    · intro o ho
      subst ho
      exact Option.some.inj h
    · intro  S33 hx
      subst hx
      try dsimp only at h
      obtain rfl := Option.some.inj h
      exact zw_vret hX hr dX16_findRings_147 ⟨rfl, rfl⟩
def zf_X16_number_L14 (N : Nat) : Nat → Nat → Int32 → Int32 → zm_S → Option ((Unit × zm_S) ⊕ ((Unit) × zm_S))
  | 0, _, _, _, _ => none
  | n + 1, a0, i1, i2, S => if (1764 : Int32) ≤ i2 then some (.inr ((), S)) else (zg_r S a0 16 38).bind (fun b4 => (zs_i S b4 i2 (-2 : Int32)).bind (fun S5 => zf_X16_number_L14 N n a0 i1 (i2 + (1 : Int32)) S5))
set_option maxHeartbeats 4000000 in
set_option maxRecDepth 100000 in
theorem zt_X16_number_L14 {p : Program} {l : Launch} {e : Env} {R : Room} {s : State} {m : MethodId} {args : Array Value} {below : List Frame} {meth : Method} {c : Code} {V : zm_V} {mc ms d rc rs : Nat} (hX : zm_X p R s m args meth c RX16 "number" cX16_number 4 zk_E V mc ms) (hr : meth.sig.returnType = none) (hR : R.frames = d ∧ R.locals = 64 * d) (hd : 3 ≤ d) {N : Nat} {res : (Unit × zm_S) ⊕ ((Unit) × zm_S)} {out : (Unit × zm_S)} (a0 : Nat) (i1 : Int32) (hf : ∀ o, res = .inl o → o = out) (hk : ∀ (S' : zm_S), res = .inr ((), S') → zw p l e R s m args below meth c (vx_MQ below (zm_Qc zk_E V (zo_v out)) (zm_XC zk_E V zo_x) args s mc ms (fun q => V.2.2.2.1 ≤ q)) 4 zk_E V mc ms 35 [(0, .ref a0), (1, .int i1)] [] S' rc rs) : ∀ (n : Nat) (i2 : Int32) (S : zm_S), zf_X16_number_L14 N n a0 i1 i2 S = some res → zw p l e R s m args below meth c (vx_MQ below (zm_Qc zk_E V (zo_v out)) (zm_XC zk_E V zo_x) args s mc ms (fun q => V.2.2.2.1 ≤ q)) 4 zk_E V mc ms 14 [(0, .ref a0), (1, .int i1), (2, .int i2)] [] S rc rs := by
  intro n
  induction n with
  | zero => intro i2 S h; cases h
  | succ n ih =>
    intro i2 S h
    rw [zf_X16_number_L14] at h
    refine zw_iload_n hX dX16_number_14 rfl ?_
    refine zw_sipush (v := (1764 : Int32)) hX dX16_number_15 (by decide) ?_
    refine zw_icmp_ge (tgt := 35) hX dX16_number_18 (by decide) (fun c18 => ?_) (fun c18 => ?_)
    · rw [if_pos c18] at h
      refine zw_sub (lv' := [(0, .ref a0), (1, .int i1)]) (List.forall_mem_cons.mpr ⟨rfl, (List.forall_mem_cons.mpr ⟨rfl, zs_nil⟩)⟩) ?_
      exact hk  _ (Option.some.inj h).symm
    · rw [if_neg c18] at h
      refine zw_aload_n hX dX16_number_21 rfl ?_
      obtain ⟨b4, g, h⟩ := zb_some h
      refine zw_getr hX zl_X16_83 dX16_number_22 g ?_
      refine zw_iload_n hX dX16_number_25 rfl ?_
      refine zw_bipush (v := (-2 : Int32)) hX dX16_number_26 (by decide) ?_
      obtain ⟨S5, g, h⟩ := zb_some h
      refine zw_si hX dX16_number_28 g ?_
      refine zw_iinc (v := (i2 + (1 : Int32))) hX dX16_number_29 rfl rfl (by decide) ?_
      refine zw_goto (tgt := 14) hX dX16_number_32 (by decide) ?_
      refine zw_sub (lv' := [(0, .ref a0), (1, .int i1), (2, .int (i2 + (1 : Int32)))]) (List.forall_mem_cons.mpr ⟨rfl, (List.forall_mem_cons.mpr ⟨rfl, (List.forall_mem_cons.mpr ⟨rfl, zs_nil⟩)⟩)⟩) ?_
      exact ih _ _ h
def zf_X16_number_L44 (N : Nat) : Nat → Nat → Int32 → zm_S → Option ((Unit × zm_S) ⊕ ((Unit) × zm_S))
  | 0, _, _, _ => none
  | n + 1, a0, i2, S => (zg_i S a0 16 35).bind (fun v9 => if v9 ≤ i2 then some (.inr ((), S)) else (zg_r S a0 16 36).bind (fun b10 => (za_x S 0 b10 i2).bind (fun v11 => (zi S a0 16).bind (fun _ => (zf_X16_left N a0 v11 S).bind (fun r14 => (zg_r r14.2 a0 16 38).bind (fun b15 => (za_x r14.2 0 b15 r14.1).bind (fun v16 => if v16 = (-2 : Int32) then (zg_r r14.2 a0 16 38).bind (fun b17 => (zg_i r14.2 a0 16 17).bind (fun v18 => (zs_i r14.2 b17 r14.1 v18).bind (fun S19 => (zg_i S19 a0 16 17).bind (fun v20 => (zp S19 a0 16 17 (.int (v20 + (1 : Int32)))).bind (fun S21 => zf_X16_number_L44 N n a0 (i2 + (1 : Int32)) S21))))) else zf_X16_number_L44 N n a0 (i2 + (1 : Int32)) r14.2)))))))
set_option maxHeartbeats 4000000 in
set_option maxRecDepth 100000 in
theorem zt_X16_number_L44 {p : Program} {l : Launch} {e : Env} {R : Room} {s : State} {m : MethodId} {args : Array Value} {below : List Frame} {meth : Method} {c : Code} {V : zm_V} {mc ms d rc rs : Nat} (hX : zm_X p R s m args meth c RX16 "number" cX16_number 4 zk_E V mc ms) (hr : meth.sig.returnType = none) (hR : R.frames = d ∧ R.locals = 64 * d) (hd : 3 ≤ d) {N : Nat} {res : (Unit × zm_S) ⊕ ((Unit) × zm_S)} {out : (Unit × zm_S)} (a0 : Nat) (hf : ∀ o, res = .inl o → o = out) (hk : ∀ (S' : zm_S), res = .inr ((), S') → zw p l e R s m args below meth c (vx_MQ below (zm_Qc zk_E V (zo_v out)) (zm_XC zk_E V zo_x) args s mc ms (fun q => V.2.2.2.1 ≤ q)) 4 zk_E V mc ms 100 [(0, .ref a0)] [] S' rc rs) : ∀ (n : Nat) (i2 : Int32) (S : zm_S), zf_X16_number_L44 N n a0 i2 S = some res → zw p l e R s m args below meth c (vx_MQ below (zm_Qc zk_E V (zo_v out)) (zm_XC zk_E V zo_x) args s mc ms (fun q => V.2.2.2.1 ≤ q)) 4 zk_E V mc ms 44 [(0, .ref a0), (2, .int i2)] [] S rc rs := by
  intro n
  induction n with
  | zero => intro i2 S h; cases h
  | succ n ih =>
    intro i2 S h
    rw [zf_X16_number_L44] at h
    refine zw_iload_n hX dX16_number_44 rfl ?_
    refine zw_aload_n hX dX16_number_45 rfl ?_
    obtain ⟨v9, g, h⟩ := zb_some h
    refine zw_geti hX zl_X16_165 dX16_number_46 g ?_
    refine zw_icmp_ge (tgt := 100) hX dX16_number_49 (by decide) (fun c49 => ?_) (fun c49 => ?_)
    · rw [if_pos c49] at h
      refine zw_sub (lv' := [(0, .ref a0)]) (List.forall_mem_cons.mpr ⟨rfl, zs_nil⟩) ?_
      exact hk  _ (Option.some.inj h).symm
    · rw [if_neg c49] at h
      refine zw_aload_n hX dX16_number_52 rfl ?_
      refine zw_aload_n hX dX16_number_53 rfl ?_
      obtain ⟨b10, g, h⟩ := zb_some h
      refine zw_getr hX zl_X16_77 dX16_number_54 g ?_
      refine zw_iload_n hX dX16_number_57 rfl ?_
      obtain ⟨v11, g, h⟩ := zb_some h
      refine zw_xi hX dX16_number_58 g ?_
      obtain ⟨_, gi, h⟩ := zb_some h
      obtain ⟨r14, g, h⟩ := zb_some h
      refine zc_Vi (as := [.int v11]) hX gi (zt_X16_left (d := d - 1) (by omega) g) zl_X16_153 rfl dX16_number_59 ⟨rfl, rfl, Nat.le_of_ble_eq_true rfl⟩ ⟨by omega, by omega⟩ ?_
      refine zw_istore_n hX dX16_number_62 (by decide) ?_
      refine zw_aload_n hX dX16_number_63 rfl ?_
      obtain ⟨b15, g, h⟩ := zb_some h
      refine zw_getr hX zl_X16_83 dX16_number_64 g ?_
      refine zw_iload_n hX dX16_number_67 rfl ?_
      obtain ⟨v16, g, h⟩ := zb_some h
      refine zw_xi hX dX16_number_68 g ?_
      refine zw_bipush (v := (-2 : Int32)) hX dX16_number_69 (by decide) ?_
      refine zw_icmp_ne (tgt := 94) hX dX16_number_71 (by decide) (fun c71 => ?_) (fun c71 => ?_)
      · rw [if_neg c71] at h
        refine zw_iinc (v := (i2 + (1 : Int32))) hX dX16_number_94 rfl rfl (by decide) ?_
        refine zw_goto (tgt := 44) hX dX16_number_97 (by decide) ?_
        refine zw_sub (lv' := [(0, .ref a0), (2, .int (i2 + (1 : Int32)))]) (List.forall_mem_cons.mpr ⟨rfl, (List.forall_mem_cons.mpr ⟨rfl, zs_nil⟩)⟩) ?_
        exact ih _ _ h
      · rw [if_pos c71] at h
        refine zw_aload_n hX dX16_number_74 rfl ?_
        obtain ⟨b17, g, h⟩ := zb_some h
        refine zw_getr hX zl_X16_83 dX16_number_75 g ?_
        refine zw_iload_n hX dX16_number_78 rfl ?_
        refine zw_aload_n hX dX16_number_79 rfl ?_
        obtain ⟨v18, g, h⟩ := zb_some h
        refine zw_geti hX zl_X16_171 dX16_number_80 g ?_
        obtain ⟨S19, g, h⟩ := zb_some h
        refine zw_si hX dX16_number_83 g ?_
        refine zw_aload_n hX dX16_number_84 rfl ?_
        refine zw_dup hX dX16_number_85 rfl ?_
        obtain ⟨v20, g, h⟩ := zb_some h
        refine zw_geti hX zl_X16_171 dX16_number_86 g ?_
        refine zw_iconst (v := (1 : Int32)) hX dX16_number_89 (by decide) ?_
        refine zw_iadd hX dX16_number_90 ?_
        obtain ⟨S21, g, h⟩ := zb_some h
        refine zw_putv hX zl_X16_171 zt_16_17 dX16_number_91 rfl rfl g ?_
        refine zw_iinc (v := (i2 + (1 : Int32))) hX dX16_number_94 rfl rfl (by decide) ?_
        refine zw_goto (tgt := 44) hX dX16_number_97 (by decide) ?_
        refine zw_sub (lv' := [(0, .ref a0), (2, .int (i2 + (1 : Int32)))]) (List.forall_mem_cons.mpr ⟨rfl, (List.forall_mem_cons.mpr ⟨rfl, zs_nil⟩)⟩) ?_
        exact ih _ _ h
def zf_X16_number_L112 (N : Nat) : Nat → Nat → Int32 → Int32 → zm_S → Option ((Unit × zm_S) ⊕ ((Unit) × zm_S))
  | 0, _, _, _, _ => none
  | n + 1, a0, i2, i3, S => (zg_i S a0 16 12).bind (fun v24 => if v24 < i3 then some (.inr ((), S)) else (zg_r S a0 16 16).bind (fun b25 => (zg_r S a0 16 38).bind (fun b26 => (zg_r S a0 16 16).bind (fun b27 => (za_x S 0 b27 (((42 : Int32) * i2) + i3)).bind (fun v28 => (za_x S 0 b26 v28).bind (fun v29 => (zs_i S b25 (((42 : Int32) * i2) + i3) v29).bind (fun S30 => zf_X16_number_L112 N n a0 i2 (i3 + (1 : Int32)) S30)))))))
set_option maxHeartbeats 4000000 in
set_option maxRecDepth 100000 in
theorem zt_X16_number_L112 {p : Program} {l : Launch} {e : Env} {R : Room} {s : State} {m : MethodId} {args : Array Value} {below : List Frame} {meth : Method} {c : Code} {V : zm_V} {mc ms d rc rs : Nat} (hX : zm_X p R s m args meth c RX16 "number" cX16_number 4 zk_E V mc ms) (hr : meth.sig.returnType = none) (hR : R.frames = d ∧ R.locals = 64 * d) (hd : 3 ≤ d) {N : Nat} {res : (Unit × zm_S) ⊕ ((Unit) × zm_S)} {out : (Unit × zm_S)} (a0 : Nat) (i2 : Int32) (hf : ∀ o, res = .inl o → o = out) (hk : ∀ (S' : zm_S), res = .inr ((), S') → zw p l e R s m args below meth c (vx_MQ below (zm_Qc zk_E V (zo_v out)) (zm_XC zk_E V zo_x) args s mc ms (fun q => V.2.2.2.1 ≤ q)) 4 zk_E V mc ms 153 [(0, .ref a0), (2, .int i2)] [] S' rc rs) : ∀ (n : Nat) (i3 : Int32) (S : zm_S), zf_X16_number_L112 N n a0 i2 i3 S = some res → zw p l e R s m args below meth c (vx_MQ below (zm_Qc zk_E V (zo_v out)) (zm_XC zk_E V zo_x) args s mc ms (fun q => V.2.2.2.1 ≤ q)) 4 zk_E V mc ms 112 [(0, .ref a0), (2, .int i2), (3, .int i3)] [] S rc rs := by
  intro n
  induction n with
  | zero => intro i3 S h; cases h
  | succ n ih =>
    intro i3 S h
    rw [zf_X16_number_L112] at h
    refine zw_iload_n hX dX16_number_112 rfl ?_
    refine zw_aload_n hX dX16_number_113 rfl ?_
    obtain ⟨v24, g, h⟩ := zb_some h
    refine zw_geti hX zl_X16_118 dX16_number_114 g ?_
    refine zw_icmp_gt (tgt := 153) hX dX16_number_117 (by decide) (fun c117 => ?_) (fun c117 => ?_)
    · rw [if_pos c117] at h
      refine zw_sub (lv' := [(0, .ref a0), (2, .int i2)]) (List.forall_mem_cons.mpr ⟨rfl, (List.forall_mem_cons.mpr ⟨rfl, zs_nil⟩)⟩) ?_
      exact hk  _ (Option.some.inj h).symm
    · rw [if_neg c117] at h
      refine zw_aload_n hX dX16_number_120 rfl ?_
      obtain ⟨b25, g, h⟩ := zb_some h
      refine zw_getr hX zl_X16_41 dX16_number_121 g ?_
      refine zw_bipush (v := (42 : Int32)) hX dX16_number_124 (by decide) ?_
      refine zw_iload_n hX dX16_number_126 rfl ?_
      refine zw_imul hX dX16_number_127 ?_
      refine zw_iload_n hX dX16_number_128 rfl ?_
      refine zw_iadd hX dX16_number_129 ?_
      refine zw_aload_n hX dX16_number_130 rfl ?_
      obtain ⟨b26, g, h⟩ := zb_some h
      refine zw_getr hX zl_X16_83 dX16_number_131 g ?_
      refine zw_aload_n hX dX16_number_134 rfl ?_
      obtain ⟨b27, g, h⟩ := zb_some h
      refine zw_getr hX zl_X16_41 dX16_number_135 g ?_
      refine zw_bipush (v := (42 : Int32)) hX dX16_number_138 (by decide) ?_
      refine zw_iload_n hX dX16_number_140 rfl ?_
      refine zw_imul hX dX16_number_141 ?_
      refine zw_iload_n hX dX16_number_142 rfl ?_
      refine zw_iadd hX dX16_number_143 ?_
      obtain ⟨v28, g, h⟩ := zb_some h
      refine zw_xi hX dX16_number_144 g ?_
      obtain ⟨v29, g, h⟩ := zb_some h
      refine zw_xi hX dX16_number_145 g ?_
      obtain ⟨S30, g, h⟩ := zb_some h
      refine zw_si hX dX16_number_146 g ?_
      refine zw_iinc (v := (i3 + (1 : Int32))) hX dX16_number_147 rfl rfl (by decide) ?_
      refine zw_goto (tgt := 112) hX dX16_number_150 (by decide) ?_
      refine zw_sub (lv' := [(0, .ref a0), (2, .int i2), (3, .int (i3 + (1 : Int32)))]) (List.forall_mem_cons.mpr ⟨rfl, (List.forall_mem_cons.mpr ⟨rfl, (List.forall_mem_cons.mpr ⟨rfl, zs_nil⟩)⟩)⟩) ?_
      exact ih _ _ h
def zf_X16_number_L102 (N : Nat) : Nat → Nat → Int32 → zm_S → Option ((Unit × zm_S) ⊕ ((Unit) × zm_S))
  | 0, _, _, _ => none
  | n + 1, a0, i2, S => (zg_i S a0 16 13).bind (fun v23 => if v23 < i2 then some (.inr ((), S)) else (zf_X16_number_L112 N N a0 i2 (0 : Int32) S).bind (fun r => match r with | .inl o => some (.inl o) | .inr (_, S31) => zf_X16_number_L102 N n a0 (i2 + (1 : Int32)) S31))
set_option maxHeartbeats 4000000 in
set_option maxRecDepth 100000 in
theorem zt_X16_number_L102 {p : Program} {l : Launch} {e : Env} {R : Room} {s : State} {m : MethodId} {args : Array Value} {below : List Frame} {meth : Method} {c : Code} {V : zm_V} {mc ms d rc rs : Nat} (hX : zm_X p R s m args meth c RX16 "number" cX16_number 4 zk_E V mc ms) (hr : meth.sig.returnType = none) (hR : R.frames = d ∧ R.locals = 64 * d) (hd : 3 ≤ d) {N : Nat} {res : (Unit × zm_S) ⊕ ((Unit) × zm_S)} {out : (Unit × zm_S)} (a0 : Nat) (hf : ∀ o, res = .inl o → o = out) (hk : ∀ (S' : zm_S), res = .inr ((), S') → zw p l e R s m args below meth c (vx_MQ below (zm_Qc zk_E V (zo_v out)) (zm_XC zk_E V zo_x) args s mc ms (fun q => V.2.2.2.1 ≤ q)) 4 zk_E V mc ms 159 [] [] S' rc rs) : ∀ (n : Nat) (i2 : Int32) (S : zm_S), zf_X16_number_L102 N n a0 i2 S = some res → zw p l e R s m args below meth c (vx_MQ below (zm_Qc zk_E V (zo_v out)) (zm_XC zk_E V zo_x) args s mc ms (fun q => V.2.2.2.1 ≤ q)) 4 zk_E V mc ms 102 [(0, .ref a0), (2, .int i2)] [] S rc rs := by
  intro n
  induction n with
  | zero => intro i2 S h; cases h
  | succ n ih =>
    intro i2 S h
    rw [zf_X16_number_L102] at h
    refine zw_iload_n hX dX16_number_102 rfl ?_
    refine zw_aload_n hX dX16_number_103 rfl ?_
    obtain ⟨v23, g, h⟩ := zb_some h
    refine zw_geti hX zl_X16_115 dX16_number_104 g ?_
    refine zw_icmp_gt (tgt := 159) hX dX16_number_107 (by decide) (fun c107 => ?_) (fun c107 => ?_)
    · rw [if_pos c107] at h
      refine zw_sub (lv' := []) zs_nil ?_
      exact hk  _ (Option.some.inj h).symm
    · rw [if_neg c107] at h
      refine zw_iconst (v := (0 : Int32)) hX dX16_number_110 (by decide) ?_
      refine zw_istore_n hX dX16_number_111 (by decide) ?_
      obtain ⟨r, g, h⟩ := zb_some h
      refine zw_sub (lv' := [(0, .ref a0), (2, .int i2), (3, .int (0 : Int32))]) (List.forall_mem_cons.mpr ⟨rfl, (List.forall_mem_cons.mpr ⟨rfl, (List.forall_mem_cons.mpr ⟨rfl, zs_nil⟩)⟩)⟩) ?_
      refine zt_X16_number_L112 hX hr hR hd (res := r) (out := out) a0 i2 ?_ ?_ N _ _ g
      · intro o ho
        subst ho
        exact hf _ (Option.some.inj h).symm
      · intro  S31 hx
        subst hx
        try dsimp only at h
        refine zw_iinc (v := (i2 + (1 : Int32))) hX dX16_number_153 rfl rfl (by decide) ?_
        refine zw_goto (tgt := 102) hX dX16_number_156 (by decide) ?_
        refine zw_sub (lv' := [(0, .ref a0), (2, .int (i2 + (1 : Int32)))]) (List.forall_mem_cons.mpr ⟨rfl, (List.forall_mem_cons.mpr ⟨rfl, zs_nil⟩)⟩) ?_
        exact ih _ _ h
def zf_X16_number (N : Nat) (a0 : Nat) (S : zm_S) : Option (Unit × zm_S) := (zp S a0 16 17 (.int (0 : Int32))).bind (fun S1 => (zg_r S1 a0 16 16).bind (fun b2 => (za_x S1 0 b2 (0 : Int32)).bind (fun v3 => (zf_X16_number_L14 N N a0 v3 (0 : Int32) S1).bind (fun r => match r with | .inl o => some o | .inr (_, S6) => (zg_r S6 a0 16 38).bind (fun b7 => (zs_i S6 b7 v3 (-1 : Int32)).bind (fun S8 => (zf_X16_number_L44 N N a0 (0 : Int32) S8).bind (fun r => match r with | .inl o => some o | .inr (_, S22) => (zf_X16_number_L102 N N a0 (0 : Int32) S22).bind (fun r => match r with | .inl o => some o | .inr (_, S32) => some ((), S32)))))))))
set_option maxHeartbeats 4000000 in
set_option maxRecDepth 100000 in
theorem zt_X16_number {l : Launch} {V : zm_V} {N : Nat} {S : zm_S} {out : (Unit × zm_S)} {d : Nat} {a0 : Nat} (hd : 3 ≤ d) (h : zf_X16_number N a0 S = some out) : zm_Met l zk_E V yX16_number (.code yX16_number cX16_number 4 none) d [.ref a0] S 0 0 (zo_v out) zo_x := by
  refine zm_of (by decide +kernel) (Nat.le_of_ble_eq_true rfl) ?_
  intro p e R s m args below meth c hRR hX hr hxt
  have hR : R.frames = d ∧ R.locals = 64 * d := by rw [hRR]; exact ⟨rfl, rfl⟩
  have hX : zm_X p R s m args meth c RX16 "number" cX16_number 4 zk_E V 0 0 := hX
  unfold zf_X16_number at h
  refine zw_sub (lv' := [(0, .ref a0)]) (List.forall_mem_cons.mpr ⟨rfl, zs_nil⟩) ?_
  refine zw_aload_n hX dX16_number_0 rfl ?_
  refine zw_iconst (v := (0 : Int32)) hX dX16_number_1 (by decide) ?_
  obtain ⟨S1, g, h⟩ := zb_some h
  refine zw_putv hX zl_X16_171 zt_16_17 dX16_number_2 rfl rfl g ?_
  refine zw_aload_n hX dX16_number_5 rfl ?_
  obtain ⟨b2, g, h⟩ := zb_some h
  refine zw_getr hX zl_X16_41 dX16_number_6 g ?_
  refine zw_iconst (v := (0 : Int32)) hX dX16_number_9 (by decide) ?_
  obtain ⟨v3, g, h⟩ := zb_some h
  refine zw_xi hX dX16_number_10 g ?_
  refine zw_istore_n hX dX16_number_11 (by decide) ?_
  refine zw_iconst (v := (0 : Int32)) hX dX16_number_12 (by decide) ?_
  refine zw_istore_n hX dX16_number_13 (by decide) ?_
  obtain ⟨r, g, h⟩ := zb_some h
  refine zw_sub (lv' := [(0, .ref a0), (1, .int v3), (2, .int (0 : Int32))]) (List.forall_mem_cons.mpr ⟨rfl, (List.forall_mem_cons.mpr ⟨rfl, (List.forall_mem_cons.mpr ⟨rfl, zs_nil⟩)⟩)⟩) ?_
  refine zt_X16_number_L14 hX hr hR hd (res := r) (out := out) a0 v3 ?_ ?_ N _ _ g
  · intro o ho
    subst ho
    exact Option.some.inj h
  · intro  S6 hx
    subst hx
    try dsimp only at h
    refine zw_aload_n hX dX16_number_35 rfl ?_
    obtain ⟨b7, g, h⟩ := zb_some h
    refine zw_getr hX zl_X16_83 dX16_number_36 g ?_
    refine zw_iload_n hX dX16_number_39 rfl ?_
    refine zw_iconst (v := (-1 : Int32)) hX dX16_number_40 (by decide) ?_
    obtain ⟨S8, g, h⟩ := zb_some h
    refine zw_si hX dX16_number_41 g ?_
    refine zw_iconst (v := (0 : Int32)) hX dX16_number_42 (by decide) ?_
    refine zw_istore_n hX dX16_number_43 (by decide) ?_
    obtain ⟨r, g, h⟩ := zb_some h
    refine zw_sub (lv' := [(0, .ref a0), (2, .int (0 : Int32))]) (List.forall_mem_cons.mpr ⟨rfl, (List.forall_mem_cons.mpr ⟨rfl, zs_nil⟩)⟩) ?_
    refine zt_X16_number_L44 hX hr hR hd (res := r) (out := out) a0 ?_ ?_ N _ _ g
    · intro o ho
      subst ho
      exact Option.some.inj h
    · intro  S22 hx
      subst hx
      try dsimp only at h
      refine zw_iconst (v := (0 : Int32)) hX dX16_number_100 (by decide) ?_
      refine zw_istore_n hX dX16_number_101 (by decide) ?_
      obtain ⟨r, g, h⟩ := zb_some h
      refine zw_sub (lv' := [(0, .ref a0), (2, .int (0 : Int32))]) (List.forall_mem_cons.mpr ⟨rfl, (List.forall_mem_cons.mpr ⟨rfl, zs_nil⟩)⟩) ?_
      refine zt_X16_number_L102 hX hr hR hd (res := r) (out := out) a0 ?_ ?_ N _ _ g
      · intro o ho
        subst ho
        exact Option.some.inj h
      · intro  S32 hx
        subst hx
        try dsimp only at h
        obtain rfl := Option.some.inj h
        exact zw_vret hX hr dX16_number_159 ⟨rfl, rfl⟩
def zf_X16_turn (N : Nat) (a0 : Nat) (S : zm_S) : Option (Unit × zm_S) := (zg_r S a0 16 21).bind (fun b1 => (zg_r S a0 16 14).bind (fun b2 => (zp S a0 16 21 (.ref b2)).bind (fun S3 => (zp S3 a0 16 14 (.ref b1)).bind (fun S4 => (zg_r S4 a0 16 22).bind (fun b5 => (zg_r S4 a0 16 15).bind (fun b6 => (zp S4 a0 16 22 (.ref b6)).bind (fun S7 => (zp S7 a0 16 15 (.ref b5)).bind (fun S8 => (zg_r S8 a0 16 23).bind (fun b9 => (zg_r S8 a0 16 16).bind (fun b10 => (zp S8 a0 16 23 (.ref b10)).bind (fun S11 => (zp S11 a0 16 16 (.ref b9)).bind (fun S12 => (zg_r S12 a0 16 26).bind (fun b13 => (zg_r S12 a0 16 25).bind (fun b14 => (zp S12 a0 16 26 (.ref b14)).bind (fun S15 => (zp S15 a0 16 25 (.ref b13)).bind (fun S16 => (zg_i S16 a0 16 12).bind (fun v17 => (zp S16 a0 16 19 (.int v17)).bind (fun S18 => (zg_i S18 a0 16 13).bind (fun v19 => (zp S18 a0 16 20 (.int v19)).bind (fun S20 => (zg_i S20 a0 16 17).bind (fun v21 => (zp S20 a0 16 24 (.int v21)).bind (fun S22 => (zg_i S22 a0 16 9).bind (fun v23 => (zp_z S22 a0 16 18 v23).bind (fun S24 => some ((), S24)))))))))))))))))))))))))
set_option maxHeartbeats 4000000 in
set_option maxRecDepth 100000 in
theorem zt_X16_turn {l : Launch} {V : zm_V} {N : Nat} {S : zm_S} {out : (Unit × zm_S)} {d : Nat} {a0 : Nat} (hd : 1 ≤ d) (h : zf_X16_turn N a0 S = some out) : zm_Met l zk_E V yX16_turn (.code yX16_turn cX16_turn 2 none) d [.ref a0] S 0 0 (zo_v out) zo_x := by
  refine zm_of (by decide +kernel) (Nat.le_of_ble_eq_true rfl) ?_
  intro p e R s m args below meth c hRR hX hr hxt
  have hR : R.frames = d ∧ R.locals = 64 * d := by rw [hRR]; exact ⟨rfl, rfl⟩
  have hX : zm_X p R s m args meth c RX16 "turn" cX16_turn 2 zk_E V 0 0 := hX
  unfold zf_X16_turn at h
  refine zw_sub (lv' := [(0, .ref a0)]) (List.forall_mem_cons.mpr ⟨rfl, zs_nil⟩) ?_
  refine zw_aload_n hX dX16_turn_0 rfl ?_
  obtain ⟨b1, g, h⟩ := zb_some h
  refine zw_getr hX zl_X16_44 dX16_turn_1 g ?_
  refine zw_astore_n hX dX16_turn_4 (by decide) ?_
  refine zw_aload_n hX dX16_turn_5 rfl ?_
  refine zw_aload_n hX dX16_turn_6 rfl ?_
  obtain ⟨b2, g, h⟩ := zb_some h
  refine zw_getr hX zl_X16_35 dX16_turn_7 g ?_
  obtain ⟨S3, g, h⟩ := zb_some h
  refine zw_putv hX zl_X16_44 zt_16_21 dX16_turn_10 rfl rfl g ?_
  refine zw_aload_n hX dX16_turn_13 rfl ?_
  refine zw_aload_n hX dX16_turn_14 rfl ?_
  obtain ⟨S4, g, h⟩ := zb_some h
  refine zw_putv hX zl_X16_35 zt_16_14 dX16_turn_15 rfl rfl g ?_
  refine zw_aload_n hX dX16_turn_18 rfl ?_
  obtain ⟨b5, g, h⟩ := zb_some h
  refine zw_getr hX zl_X16_47 dX16_turn_19 g ?_
  refine zw_astore_n hX dX16_turn_22 (by decide) ?_
  refine zw_aload_n hX dX16_turn_23 rfl ?_
  refine zw_aload_n hX dX16_turn_24 rfl ?_
  obtain ⟨b6, g, h⟩ := zb_some h
  refine zw_getr hX zl_X16_38 dX16_turn_25 g ?_
  obtain ⟨S7, g, h⟩ := zb_some h
  refine zw_putv hX zl_X16_47 zt_16_22 dX16_turn_28 rfl rfl g ?_
  refine zw_aload_n hX dX16_turn_31 rfl ?_
  refine zw_aload_n hX dX16_turn_32 rfl ?_
  obtain ⟨S8, g, h⟩ := zb_some h
  refine zw_putv hX zl_X16_38 zt_16_15 dX16_turn_33 rfl rfl g ?_
  refine zw_aload_n hX dX16_turn_36 rfl ?_
  obtain ⟨b9, g, h⟩ := zb_some h
  refine zw_getr hX zl_X16_50 dX16_turn_37 g ?_
  refine zw_astore_n hX dX16_turn_40 (by decide) ?_
  refine zw_aload_n hX dX16_turn_41 rfl ?_
  refine zw_aload_n hX dX16_turn_42 rfl ?_
  obtain ⟨b10, g, h⟩ := zb_some h
  refine zw_getr hX zl_X16_41 dX16_turn_43 g ?_
  obtain ⟨S11, g, h⟩ := zb_some h
  refine zw_putv hX zl_X16_50 zt_16_23 dX16_turn_46 rfl rfl g ?_
  refine zw_aload_n hX dX16_turn_49 rfl ?_
  refine zw_aload_n hX dX16_turn_50 rfl ?_
  obtain ⟨S12, g, h⟩ := zb_some h
  refine zw_putv hX zl_X16_41 zt_16_16 dX16_turn_51 rfl rfl g ?_
  refine zw_aload_n hX dX16_turn_54 rfl ?_
  obtain ⟨b13, g, h⟩ := zb_some h
  refine zw_getr hX zl_X16_56 dX16_turn_55 g ?_
  refine zw_astore_n hX dX16_turn_58 (by decide) ?_
  refine zw_aload_n hX dX16_turn_59 rfl ?_
  refine zw_aload_n hX dX16_turn_60 rfl ?_
  obtain ⟨b14, g, h⟩ := zb_some h
  refine zw_getr hX zl_X16_53 dX16_turn_61 g ?_
  obtain ⟨S15, g, h⟩ := zb_some h
  refine zw_putv hX zl_X16_56 zt_16_26 dX16_turn_64 rfl rfl g ?_
  refine zw_aload_n hX dX16_turn_67 rfl ?_
  refine zw_aload_n hX dX16_turn_68 rfl ?_
  obtain ⟨S16, g, h⟩ := zb_some h
  refine zw_putv hX zl_X16_53 zt_16_25 dX16_turn_69 rfl rfl g ?_
  refine zw_aload_n hX dX16_turn_72 rfl ?_
  refine zw_aload_n hX dX16_turn_73 rfl ?_
  obtain ⟨v17, g, h⟩ := zb_some h
  refine zw_geti hX zl_X16_118 dX16_turn_74 g ?_
  obtain ⟨S18, g, h⟩ := zb_some h
  refine zw_putv hX zl_X16_174 zt_16_19 dX16_turn_77 rfl rfl g ?_
  refine zw_aload_n hX dX16_turn_80 rfl ?_
  refine zw_aload_n hX dX16_turn_81 rfl ?_
  obtain ⟨v19, g, h⟩ := zb_some h
  refine zw_geti hX zl_X16_115 dX16_turn_82 g ?_
  obtain ⟨S20, g, h⟩ := zb_some h
  refine zw_putv hX zl_X16_177 zt_16_20 dX16_turn_85 rfl rfl g ?_
  refine zw_aload_n hX dX16_turn_88 rfl ?_
  refine zw_aload_n hX dX16_turn_89 rfl ?_
  obtain ⟨v21, g, h⟩ := zb_some h
  refine zw_geti hX zl_X16_171 dX16_turn_90 g ?_
  obtain ⟨S22, g, h⟩ := zb_some h
  refine zw_putv hX zl_X16_180 zt_16_24 dX16_turn_93 rfl rfl g ?_
  refine zw_aload_n hX dX16_turn_96 rfl ?_
  refine zw_aload_n hX dX16_turn_97 rfl ?_
  obtain ⟨v23, g, h⟩ := zb_some h
  refine zw_geti hX zl_X16_183 dX16_turn_98 g ?_
  obtain ⟨S24, g, h⟩ := zb_some h
  obtain ⟨gz, g⟩ := zp_z_spec g
  refine zw_putv hX zl_X16_186 zt_16_18 dX16_turn_101 (zn_z gz) (zf_z gz) g ?_
  obtain rfl := Option.some.inj h
  exact zw_vret hX hr dX16_turn_104 ⟨rfl, rfl⟩
def zf_X16_shared_J22 (N : Nat) (i4 : Int32) (t0 : Int32) (S : zm_S) : Option (Int32 × zm_S) := if t0 ≤ i4 then some ((0 : Int32), S) else some ((t0 - i4), S)
set_option maxHeartbeats 4000000 in
set_option maxRecDepth 100000 in
theorem zt_X16_shared_J22 {p : Program} {l : Launch} {e : Env} {R : Room} {s : State} {m : MethodId} {args : Array Value} {below : List Frame} {meth : Method} {c : Code} {V : zm_V} {mc ms d rc rs : Nat} (hX : zm_X p R s m args meth c RX16 "shared" cX16_shared 6 zk_E V mc ms) (hr : meth.sig.returnType = (some .int)) (hR : R.frames = d ∧ R.locals = 64 * d) (hd : 1 ≤ d) {N : Nat} {i4 : Int32} {t0 : Int32} {out : (Int32 × zm_S)} {S : zm_S} (h : zf_X16_shared_J22 N i4 t0 S = some out) : zw p l e R s m args below meth c (vx_MQ below (zm_Qc zk_E V (zo_i out)) (zm_XC zk_E V zo_x) args s mc ms (fun q => V.2.2.2.1 ≤ q)) 6 zk_E V mc ms 22 [(4, .int i4)] [.int t0] S rc rs := by
  unfold zf_X16_shared_J22 at h
  refine zw_istore hX dX16_shared_22 (by decide) ?_
  refine zw_iload hX dX16_shared_24 rfl ?_
  refine zw_iload hX dX16_shared_26 rfl ?_
  refine zw_icmp_le (tgt := 39) hX dX16_shared_28 (by decide) (fun c28 => ?_) (fun c28 => ?_)
  · rw [if_pos c28] at h
    refine zw_iconst (v := (0 : Int32)) hX dX16_shared_39 (by decide) ?_
    obtain rfl := Option.some.inj h
    exact zw_iret hX hr dX16_shared_40 rfl ⟨rfl, rfl⟩
  · rw [if_neg c28] at h
    refine zw_iload hX dX16_shared_31 rfl ?_
    refine zw_iload hX dX16_shared_33 rfl ?_
    refine zw_isub hX dX16_shared_35 ?_
    refine zw_goto (tgt := 40) hX dX16_shared_36 (by decide) ?_
    obtain rfl := Option.some.inj h
    exact zw_iret hX hr dX16_shared_40 rfl ⟨rfl, rfl⟩
def zf_X16_shared_J10 (N : Nat) (i1 : Int32) (i3 : Int32) (t0 : Int32) (S : zm_S) : Option (Int32 × zm_S) := if i3 ≤ i1 then zf_X16_shared_J22 N t0 i3 S else zf_X16_shared_J22 N t0 i1 S
set_option maxHeartbeats 4000000 in
set_option maxRecDepth 100000 in
theorem zt_X16_shared_J10 {p : Program} {l : Launch} {e : Env} {R : Room} {s : State} {m : MethodId} {args : Array Value} {below : List Frame} {meth : Method} {c : Code} {V : zm_V} {mc ms d rc rs : Nat} (hX : zm_X p R s m args meth c RX16 "shared" cX16_shared 6 zk_E V mc ms) (hr : meth.sig.returnType = (some .int)) (hR : R.frames = d ∧ R.locals = 64 * d) (hd : 1 ≤ d) {N : Nat} {i1 : Int32} {i3 : Int32} {t0 : Int32} {out : (Int32 × zm_S)} {S : zm_S} (h : zf_X16_shared_J10 N i1 i3 t0 S = some out) : zw p l e R s m args below meth c (vx_MQ below (zm_Qc zk_E V (zo_i out)) (zm_XC zk_E V zo_x) args s mc ms (fun q => V.2.2.2.1 ≤ q)) 6 zk_E V mc ms 10 [(1, .int i1), (3, .int i3)] [.int t0] S rc rs := by
  unfold zf_X16_shared_J10 at h
  refine zw_istore hX dX16_shared_10 (by decide) ?_
  refine zw_iload_n hX dX16_shared_12 rfl ?_
  refine zw_iload_n hX dX16_shared_13 rfl ?_
  refine zw_icmp_ge (tgt := 21) hX dX16_shared_14 (by decide) (fun c14 => ?_) (fun c14 => ?_)
  · rw [if_pos c14] at h
    refine zw_iload_n hX dX16_shared_21 rfl ?_
    refine zw_sub (lv' := [(4, .int t0)]) (List.forall_mem_cons.mpr ⟨rfl, zs_nil⟩) ?_
    exact zt_X16_shared_J22 hX hr hR hd h
  · rw [if_neg c14] at h
    refine zw_iload_n hX dX16_shared_17 rfl ?_
    refine zw_goto (tgt := 22) hX dX16_shared_18 (by decide) ?_
    refine zw_sub (lv' := [(4, .int t0)]) (List.forall_mem_cons.mpr ⟨rfl, zs_nil⟩) ?_
    exact zt_X16_shared_J22 hX hr hR hd h
def zf_X16_shared (N : Nat) (i0 : Int32) (i1 : Int32) (i2 : Int32) (i3 : Int32) (S : zm_S) : Option (Int32 × zm_S) := if i0 ≤ i2 then zf_X16_shared_J10 N i1 i3 i2 S else zf_X16_shared_J10 N i1 i3 i0 S
set_option maxHeartbeats 4000000 in
set_option maxRecDepth 100000 in
theorem zt_X16_shared {l : Launch} {V : zm_V} {N : Nat} {S : zm_S} {out : (Int32 × zm_S)} {d : Nat} {i0 : Int32} {i1 : Int32} {i2 : Int32} {i3 : Int32} (hd : 1 ≤ d) (h : zf_X16_shared N i0 i1 i2 i3 S = some out) : zm_Met l zk_E V yX16_shared (.code yX16_shared cX16_shared 6 (some .int)) d [.int i0, .int i1, .int i2, .int i3] S 0 0 (zo_i out) zo_x := by
  refine zm_of (by decide +kernel) (Nat.le_of_ble_eq_true rfl) ?_
  intro p e R s m args below meth c hRR hX hr hxt
  have hR : R.frames = d ∧ R.locals = 64 * d := by rw [hRR]; exact ⟨rfl, rfl⟩
  have hX : zm_X p R s m args meth c RX16 "shared" cX16_shared 6 zk_E V 0 0 := hX
  unfold zf_X16_shared at h
  refine zw_sub (lv' := [(0, .int i0), (1, .int i1), (2, .int i2), (3, .int i3)]) (List.forall_mem_cons.mpr ⟨rfl, (List.forall_mem_cons.mpr ⟨rfl, (List.forall_mem_cons.mpr ⟨rfl, (List.forall_mem_cons.mpr ⟨rfl, zs_nil⟩)⟩)⟩)⟩) ?_
  refine zw_iload_n hX dX16_shared_0 rfl ?_
  refine zw_iload_n hX dX16_shared_1 rfl ?_
  refine zw_icmp_le (tgt := 9) hX dX16_shared_2 (by decide) (fun c2 => ?_) (fun c2 => ?_)
  · rw [if_pos c2] at h
    refine zw_iload_n hX dX16_shared_9 rfl ?_
    refine zw_sub (lv' := [(1, .int i1), (3, .int i3)]) (List.forall_mem_cons.mpr ⟨rfl, (List.forall_mem_cons.mpr ⟨rfl, zs_nil⟩)⟩) ?_
    exact zt_X16_shared_J10 hX hr hR hd h
  · rw [if_neg c2] at h
    refine zw_iload_n hX dX16_shared_5 rfl ?_
    refine zw_goto (tgt := 10) hX dX16_shared_6 (by decide) ?_
    refine zw_sub (lv' := [(1, .int i1), (3, .int i3)]) (List.forall_mem_cons.mpr ⟨rfl, (List.forall_mem_cons.mpr ⟨rfl, zs_nil⟩)⟩) ?_
    exact zt_X16_shared_J10 hX hr hR hd h
def zf_X16_common_J169 (N : Nat) (k : Nat → Int32 → Int32 → Int32 → Int32 → Int32 → Int32 → Int32 → Int32 → zm_S → Option ((Int32 × zm_S) ⊕ ((Int32) × zm_S))) (a0 : Nat) (i1 : Int32) (i2 : Int32) (i4 : Int32) (i5 : Int32) (i6 : Int32) (i7 : Int32) (i8 : Int32) (t0 : Int32) (t1 : Int32) (S : zm_S) : Option ((Int32 × zm_S) ⊕ ((Int32) × zm_S)) := k a0 i1 i2 (t0 + t1) i4 i5 i6 i7 (i8 + (1 : Int32)) S
set_option maxHeartbeats 4000000 in
set_option maxRecDepth 100000 in
theorem zt_X16_common_J169 {p : Program} {l : Launch} {e : Env} {R : Room} {s : State} {m : MethodId} {args : Array Value} {below : List Frame} {meth : Method} {c : Code} {V : zm_V} {mc ms d rc rs : Nat} (hX : zm_X p R s m args meth c RX16 "common" cX16_common 9 zk_E V mc ms) (hr : meth.sig.returnType = (some .int)) (hR : R.frames = d ∧ R.locals = 64 * d) (hd : 2 ≤ d) {N : Nat} {k : Nat → Int32 → Int32 → Int32 → Int32 → Int32 → Int32 → Int32 → Int32 → zm_S → Option ((Int32 × zm_S) ⊕ ((Int32) × zm_S))} {a0 : Nat} {i1 : Int32} {i2 : Int32} {i4 : Int32} {i5 : Int32} {i6 : Int32} {i7 : Int32} {i8 : Int32} {t0 : Int32} {t1 : Int32} {res : (Int32 × zm_S) ⊕ ((Int32) × zm_S)} {out : (Int32 × zm_S)}   (hf : ∀ o, res = .inl o → o = out) (hk : ∀ (x3 : Int32) (S' : zm_S), res = .inr (x3, S') → zw p l e R s m args below meth c (vx_MQ below (zm_Qc zk_E V (zo_i out)) (zm_XC zk_E V zo_x) args s mc ms (fun q => V.2.2.2.1 ≤ q)) 9 zk_E V mc ms 177 [(0, .ref a0), (1, .int i1), (2, .int i2), (3, .int x3), (4, .int i4), (5, .int i5), (6, .int i6)] [] S' rc rs) (hrec : ∀ (i3' : Int32) (i8' : Int32) (S : zm_S), k a0 i1 i2 i3' i4 i5 i6 i7 i8' S = some res → zw p l e R s m args below meth c (vx_MQ below (zm_Qc zk_E V (zo_i out)) (zm_XC zk_E V zo_x) args s mc ms (fun q => V.2.2.2.1 ≤ q)) 9 zk_E V mc ms 95 [(0, .ref a0), (1, .int i1), (2, .int i2), (3, .int i3'), (4, .int i4), (5, .int i5), (6, .int i6), (7, .int i7), (8, .int i8')] [] S rc rs) {S : zm_S} (h : zf_X16_common_J169 N k a0 i1 i2 i4 i5 i6 i7 i8 t0 t1 S = some res) : zw p l e R s m args below meth c (vx_MQ below (zm_Qc zk_E V (zo_i out)) (zm_XC zk_E V zo_x) args s mc ms (fun q => V.2.2.2.1 ≤ q)) 9 zk_E V mc ms 169 [(0, .ref a0), (1, .int i1), (2, .int i2), (4, .int i4), (5, .int i5), (6, .int i6), (7, .int i7), (8, .int i8)] [.int t1, .int t0] S rc rs := by
  unfold zf_X16_common_J169 at h
  refine zw_iadd hX dX16_common_169 ?_
  refine zw_istore_n hX dX16_common_170 (by decide) ?_
  refine zw_iinc (v := (i8 + (1 : Int32))) hX dX16_common_171 rfl rfl (by decide) ?_
  refine zw_goto (tgt := 95) hX dX16_common_174 (by decide) ?_
  refine zw_sub (lv' := [(0, .ref a0), (1, .int i1), (2, .int i2), (3, .int (t0 + t1)), (4, .int i4), (5, .int i5), (6, .int i6), (7, .int i7), (8, .int (i8 + (1 : Int32)))]) (List.forall_mem_cons.mpr ⟨rfl, (List.forall_mem_cons.mpr ⟨rfl, (List.forall_mem_cons.mpr ⟨rfl, (List.forall_mem_cons.mpr ⟨rfl, (List.forall_mem_cons.mpr ⟨rfl, (List.forall_mem_cons.mpr ⟨rfl, (List.forall_mem_cons.mpr ⟨rfl, (List.forall_mem_cons.mpr ⟨rfl, (List.forall_mem_cons.mpr ⟨rfl, zs_nil⟩)⟩)⟩)⟩)⟩)⟩)⟩)⟩)⟩) ?_
  exact hrec _ _ _ h
def zf_X16_common_L95 (N : Nat) : Nat → Nat → Int32 → Int32 → Int32 → Int32 → Int32 → Int32 → Int32 → Int32 → zm_S → Option ((Int32 × zm_S) ⊕ ((Int32) × zm_S))
  | 0, _, _, _, _, _, _, _, _, _, _ => none
  | n + 1, a0, i1, i2, i3, i4, i5, i6, i7, i8, S => (zg_i S a0 16 19).bind (fun v17 => if v17 ≤ i8 then some (.inr (i3, S)) else if i7 ≤ 0 then some (.inr (i3, S)) else (zg_r S a0 16 23).bind (fun b18 => (za_x S 0 b18 (((42 : Int32) * i6) + i8)).bind (fun v19 => if v19 = i1 then (zg_r S a0 16 14).bind (fun b20 => (za_x S 0 b20 (i5 - (1 : Int32))).bind (fun v21 => (zg_r S a0 16 14).bind (fun b22 => (za_x S 0 b22 i5).bind (fun v23 => (zg_r S a0 16 21).bind (fun b24 => (za_x S 0 b24 (i8 - (1 : Int32))).bind (fun v25 => (zg_r S a0 16 21).bind (fun b26 => (za_x S 0 b26 i8).bind (fun v27 => (zf_X16_shared N v21 v23 v25 v27 S).bind (fun r30 => zf_X16_common_J169 N (zf_X16_common_L95 N n) a0 i1 i2 i4 i5 i6 i7 i8 i3 (i7 * r30.1) r30.2))))))))) else zf_X16_common_J169 N (zf_X16_common_L95 N n) a0 i1 i2 i4 i5 i6 i7 i8 i3 (0 : Int32) S)))
set_option maxHeartbeats 4000000 in
set_option maxRecDepth 100000 in
theorem zt_X16_common_L95 {p : Program} {l : Launch} {e : Env} {R : Room} {s : State} {m : MethodId} {args : Array Value} {below : List Frame} {meth : Method} {c : Code} {V : zm_V} {mc ms d rc rs : Nat} (hX : zm_X p R s m args meth c RX16 "common" cX16_common 9 zk_E V mc ms) (hr : meth.sig.returnType = (some .int)) (hR : R.frames = d ∧ R.locals = 64 * d) (hd : 2 ≤ d) {N : Nat} {res : (Int32 × zm_S) ⊕ ((Int32) × zm_S)} {out : (Int32 × zm_S)} (a0 : Nat) (i1 : Int32) (i2 : Int32) (i4 : Int32) (i5 : Int32) (i6 : Int32) (i7 : Int32) (hf : ∀ o, res = .inl o → o = out) (hk : ∀ (x3 : Int32) (S' : zm_S), res = .inr (x3, S') → zw p l e R s m args below meth c (vx_MQ below (zm_Qc zk_E V (zo_i out)) (zm_XC zk_E V zo_x) args s mc ms (fun q => V.2.2.2.1 ≤ q)) 9 zk_E V mc ms 177 [(0, .ref a0), (1, .int i1), (2, .int i2), (3, .int x3), (4, .int i4), (5, .int i5), (6, .int i6)] [] S' rc rs) : ∀ (n : Nat) (i3 : Int32) (i8 : Int32) (S : zm_S), zf_X16_common_L95 N n a0 i1 i2 i3 i4 i5 i6 i7 i8 S = some res → zw p l e R s m args below meth c (vx_MQ below (zm_Qc zk_E V (zo_i out)) (zm_XC zk_E V zo_x) args s mc ms (fun q => V.2.2.2.1 ≤ q)) 9 zk_E V mc ms 95 [(0, .ref a0), (1, .int i1), (2, .int i2), (3, .int i3), (4, .int i4), (5, .int i5), (6, .int i6), (7, .int i7), (8, .int i8)] [] S rc rs := by
  intro n
  induction n with
  | zero => intro i3 i8 S h; cases h
  | succ n ih =>
    intro i3 i8 S h
    rw [zf_X16_common_L95] at h
    refine zw_iload hX dX16_common_95 rfl ?_
    refine zw_aload_n hX dX16_common_97 rfl ?_
    obtain ⟨v17, g, h⟩ := zb_some h
    refine zw_geti hX zl_X16_174 dX16_common_98 g ?_
    refine zw_icmp_ge (tgt := 177) hX dX16_common_101 (by decide) (fun c101 => ?_) (fun c101 => ?_)
    · rw [if_pos c101] at h
      refine zw_sub (lv' := [(0, .ref a0), (1, .int i1), (2, .int i2), (3, .int i3), (4, .int i4), (5, .int i5), (6, .int i6)]) (List.forall_mem_cons.mpr ⟨rfl, (List.forall_mem_cons.mpr ⟨rfl, (List.forall_mem_cons.mpr ⟨rfl, (List.forall_mem_cons.mpr ⟨rfl, (List.forall_mem_cons.mpr ⟨rfl, (List.forall_mem_cons.mpr ⟨rfl, (List.forall_mem_cons.mpr ⟨rfl, zs_nil⟩)⟩)⟩)⟩)⟩)⟩)⟩) ?_
      exact hk _ _ (Option.some.inj h).symm
    · rw [if_neg c101] at h
      refine zw_iload hX dX16_common_104 rfl ?_
      refine zw_if_le (tgt := 177) hX dX16_common_106 (by decide) (fun c106 => ?_) (fun c106 => ?_)
      · rw [if_pos c106] at h
        refine zw_sub (lv' := [(0, .ref a0), (1, .int i1), (2, .int i2), (3, .int i3), (4, .int i4), (5, .int i5), (6, .int i6)]) (List.forall_mem_cons.mpr ⟨rfl, (List.forall_mem_cons.mpr ⟨rfl, (List.forall_mem_cons.mpr ⟨rfl, (List.forall_mem_cons.mpr ⟨rfl, (List.forall_mem_cons.mpr ⟨rfl, (List.forall_mem_cons.mpr ⟨rfl, (List.forall_mem_cons.mpr ⟨rfl, zs_nil⟩)⟩)⟩)⟩)⟩)⟩)⟩) ?_
        exact hk _ _ (Option.some.inj h).symm
      · rw [if_neg c106] at h
        refine zw_iload_n hX dX16_common_109 rfl ?_
        refine zw_aload_n hX dX16_common_110 rfl ?_
        obtain ⟨b18, g, h⟩ := zb_some h
        refine zw_getr hX zl_X16_50 dX16_common_111 g ?_
        refine zw_bipush (v := (42 : Int32)) hX dX16_common_114 (by decide) ?_
        refine zw_iload hX dX16_common_116 rfl ?_
        refine zw_imul hX dX16_common_118 ?_
        refine zw_iload hX dX16_common_119 rfl ?_
        refine zw_iadd hX dX16_common_121 ?_
        obtain ⟨v19, g, h⟩ := zb_some h
        refine zw_xi hX dX16_common_122 g ?_
        refine zw_iload_n hX dX16_common_123 rfl ?_
        refine zw_icmp_ne (tgt := 168) hX dX16_common_124 (by decide) (fun c124 => ?_) (fun c124 => ?_)
        · rw [if_neg c124] at h
          refine zw_iconst (v := (0 : Int32)) hX dX16_common_168 (by decide) ?_
          refine zw_sub (lv' := [(0, .ref a0), (1, .int i1), (2, .int i2), (4, .int i4), (5, .int i5), (6, .int i6), (7, .int i7), (8, .int i8)]) (List.forall_mem_cons.mpr ⟨rfl, (List.forall_mem_cons.mpr ⟨rfl, (List.forall_mem_cons.mpr ⟨rfl, (List.forall_mem_cons.mpr ⟨rfl, (List.forall_mem_cons.mpr ⟨rfl, (List.forall_mem_cons.mpr ⟨rfl, (List.forall_mem_cons.mpr ⟨rfl, (List.forall_mem_cons.mpr ⟨rfl, zs_nil⟩)⟩)⟩)⟩)⟩)⟩)⟩)⟩) ?_
          exact zt_X16_common_J169 hX hr hR hd hf hk ih h
        · rw [if_pos c124] at h
          refine zw_iload hX dX16_common_127 rfl ?_
          refine zw_aload_n hX dX16_common_129 rfl ?_
          obtain ⟨b20, g, h⟩ := zb_some h
          refine zw_getr hX zl_X16_35 dX16_common_130 g ?_
          refine zw_iload hX dX16_common_133 rfl ?_
          refine zw_iconst (v := (1 : Int32)) hX dX16_common_135 (by decide) ?_
          refine zw_isub hX dX16_common_136 ?_
          obtain ⟨v21, g, h⟩ := zb_some h
          refine zw_xi hX dX16_common_137 g ?_
          refine zw_aload_n hX dX16_common_138 rfl ?_
          obtain ⟨b22, g, h⟩ := zb_some h
          refine zw_getr hX zl_X16_35 dX16_common_139 g ?_
          refine zw_iload hX dX16_common_142 rfl ?_
          obtain ⟨v23, g, h⟩ := zb_some h
          refine zw_xi hX dX16_common_144 g ?_
          refine zw_aload_n hX dX16_common_145 rfl ?_
          obtain ⟨b24, g, h⟩ := zb_some h
          refine zw_getr hX zl_X16_44 dX16_common_146 g ?_
          refine zw_iload hX dX16_common_149 rfl ?_
          refine zw_iconst (v := (1 : Int32)) hX dX16_common_151 (by decide) ?_
          refine zw_isub hX dX16_common_152 ?_
          obtain ⟨v25, g, h⟩ := zb_some h
          refine zw_xi hX dX16_common_153 g ?_
          refine zw_aload_n hX dX16_common_154 rfl ?_
          obtain ⟨b26, g, h⟩ := zb_some h
          refine zw_getr hX zl_X16_44 dX16_common_155 g ?_
          refine zw_iload hX dX16_common_158 rfl ?_
          obtain ⟨v27, g, h⟩ := zb_some h
          refine zw_xi hX dX16_common_160 g ?_
          obtain ⟨r30, g, h⟩ := zb_some h
          refine zc_Si (as := [.int v21, .int v23, .int v25, .int v27]) hX (zt_X16_shared (d := d - 1) (by omega) g) zl_X16_214 dX16_common_161 ⟨rfl, rfl, Nat.le_of_ble_eq_true rfl⟩ ⟨by omega, by omega⟩ ?_
          refine zw_imul hX dX16_common_164 ?_
          refine zw_goto (tgt := 169) hX dX16_common_165 (by decide) ?_
          refine zw_sub (lv' := [(0, .ref a0), (1, .int i1), (2, .int i2), (4, .int i4), (5, .int i5), (6, .int i6), (7, .int i7), (8, .int i8)]) (List.forall_mem_cons.mpr ⟨rfl, (List.forall_mem_cons.mpr ⟨rfl, (List.forall_mem_cons.mpr ⟨rfl, (List.forall_mem_cons.mpr ⟨rfl, (List.forall_mem_cons.mpr ⟨rfl, (List.forall_mem_cons.mpr ⟨rfl, (List.forall_mem_cons.mpr ⟨rfl, (List.forall_mem_cons.mpr ⟨rfl, zs_nil⟩)⟩)⟩)⟩)⟩)⟩)⟩)⟩) ?_
          exact zt_X16_common_J169 hX hr hR hd hf hk ih h
def zf_X16_common_L29 (N : Nat) : Nat → Nat → Int32 → Int32 → Int32 → Int32 → Int32 → Int32 → zm_S → Option ((Int32 × zm_S) ⊕ ((Int32) × zm_S))
  | 0, _, _, _, _, _, _, _, _ => none
  | n + 1, a0, i1, i2, i3, i4, i5, i6, S => (zg_i S a0 16 20).bind (fun v3 => if v3 ≤ i6 then some (.inr (i3, S)) else (zg_r S a0 16 16).bind (fun b4 => (za_x S 0 b4 (((42 : Int32) * i4) + i5)).bind (fun v5 => if v5 = i2 then (zg_r S a0 16 15).bind (fun b6 => (za_x S 0 b6 (i4 - (1 : Int32))).bind (fun v7 => (zg_r S a0 16 15).bind (fun b8 => (za_x S 0 b8 i4).bind (fun v9 => (zg_r S a0 16 22).bind (fun b10 => (za_x S 0 b10 (i6 - (1 : Int32))).bind (fun v11 => (zg_r S a0 16 22).bind (fun b12 => (za_x S 0 b12 i6).bind (fun v13 => (zf_X16_shared N v7 v9 v11 v13 S).bind (fun r16 => (zf_X16_common_L95 N N a0 i1 i2 i3 i4 i5 i6 r16.1 (1 : Int32) r16.2).bind (fun r => match r with | .inl o => some (.inl o) | .inr (v32, S31) => zf_X16_common_L29 N n a0 i1 i2 v32 i4 i5 (i6 + (1 : Int32)) S31)))))))))) else some (.inr (i3, S)))))
set_option maxHeartbeats 4000000 in
set_option maxRecDepth 100000 in
theorem zt_X16_common_L29 {p : Program} {l : Launch} {e : Env} {R : Room} {s : State} {m : MethodId} {args : Array Value} {below : List Frame} {meth : Method} {c : Code} {V : zm_V} {mc ms d rc rs : Nat} (hX : zm_X p R s m args meth c RX16 "common" cX16_common 9 zk_E V mc ms) (hr : meth.sig.returnType = (some .int)) (hR : R.frames = d ∧ R.locals = 64 * d) (hd : 2 ≤ d) {N : Nat} {res : (Int32 × zm_S) ⊕ ((Int32) × zm_S)} {out : (Int32 × zm_S)} (a0 : Nat) (i1 : Int32) (i2 : Int32) (i4 : Int32) (i5 : Int32) (hf : ∀ o, res = .inl o → o = out) (hk : ∀ (x3 : Int32) (S' : zm_S), res = .inr (x3, S') → zw p l e R s m args below meth c (vx_MQ below (zm_Qc zk_E V (zo_i out)) (zm_XC zk_E V zo_x) args s mc ms (fun q => V.2.2.2.1 ≤ q)) 9 zk_E V mc ms 183 [(0, .ref a0), (1, .int i1), (2, .int i2), (3, .int x3), (4, .int i4), (5, .int i5)] [] S' rc rs) : ∀ (n : Nat) (i3 : Int32) (i6 : Int32) (S : zm_S), zf_X16_common_L29 N n a0 i1 i2 i3 i4 i5 i6 S = some res → zw p l e R s m args below meth c (vx_MQ below (zm_Qc zk_E V (zo_i out)) (zm_XC zk_E V zo_x) args s mc ms (fun q => V.2.2.2.1 ≤ q)) 9 zk_E V mc ms 29 [(0, .ref a0), (1, .int i1), (2, .int i2), (3, .int i3), (4, .int i4), (5, .int i5), (6, .int i6)] [] S rc rs := by
  intro n
  induction n with
  | zero => intro i3 i6 S h; cases h
  | succ n ih =>
    intro i3 i6 S h
    rw [zf_X16_common_L29] at h
    refine zw_iload hX dX16_common_29 rfl ?_
    refine zw_aload_n hX dX16_common_31 rfl ?_
    obtain ⟨v3, g, h⟩ := zb_some h
    refine zw_geti hX zl_X16_177 dX16_common_32 g ?_
    refine zw_icmp_ge (tgt := 183) hX dX16_common_35 (by decide) (fun c35 => ?_) (fun c35 => ?_)
    · rw [if_pos c35] at h
      refine zw_sub (lv' := [(0, .ref a0), (1, .int i1), (2, .int i2), (3, .int i3), (4, .int i4), (5, .int i5)]) (List.forall_mem_cons.mpr ⟨rfl, (List.forall_mem_cons.mpr ⟨rfl, (List.forall_mem_cons.mpr ⟨rfl, (List.forall_mem_cons.mpr ⟨rfl, (List.forall_mem_cons.mpr ⟨rfl, (List.forall_mem_cons.mpr ⟨rfl, zs_nil⟩)⟩)⟩)⟩)⟩)⟩) ?_
      exact hk _ _ (Option.some.inj h).symm
    · rw [if_neg c35] at h
      refine zw_aload_n hX dX16_common_38 rfl ?_
      obtain ⟨b4, g, h⟩ := zb_some h
      refine zw_getr hX zl_X16_41 dX16_common_39 g ?_
      refine zw_bipush (v := (42 : Int32)) hX dX16_common_42 (by decide) ?_
      refine zw_iload hX dX16_common_44 rfl ?_
      refine zw_imul hX dX16_common_46 ?_
      refine zw_iload hX dX16_common_47 rfl ?_
      refine zw_iadd hX dX16_common_49 ?_
      obtain ⟨v5, g, h⟩ := zb_some h
      refine zw_xi hX dX16_common_50 g ?_
      refine zw_iload_n hX dX16_common_51 rfl ?_
      refine zw_icmp_ne (tgt := 183) hX dX16_common_52 (by decide) (fun c52 => ?_) (fun c52 => ?_)
      · rw [if_neg c52] at h
        refine zw_sub (lv' := [(0, .ref a0), (1, .int i1), (2, .int i2), (3, .int i3), (4, .int i4), (5, .int i5)]) (List.forall_mem_cons.mpr ⟨rfl, (List.forall_mem_cons.mpr ⟨rfl, (List.forall_mem_cons.mpr ⟨rfl, (List.forall_mem_cons.mpr ⟨rfl, (List.forall_mem_cons.mpr ⟨rfl, (List.forall_mem_cons.mpr ⟨rfl, zs_nil⟩)⟩)⟩)⟩)⟩)⟩) ?_
        exact hk _ _ (Option.some.inj h).symm
      · rw [if_pos c52] at h
        refine zw_aload_n hX dX16_common_55 rfl ?_
        obtain ⟨b6, g, h⟩ := zb_some h
        refine zw_getr hX zl_X16_38 dX16_common_56 g ?_
        refine zw_iload hX dX16_common_59 rfl ?_
        refine zw_iconst (v := (1 : Int32)) hX dX16_common_61 (by decide) ?_
        refine zw_isub hX dX16_common_62 ?_
        obtain ⟨v7, g, h⟩ := zb_some h
        refine zw_xi hX dX16_common_63 g ?_
        refine zw_aload_n hX dX16_common_64 rfl ?_
        obtain ⟨b8, g, h⟩ := zb_some h
        refine zw_getr hX zl_X16_38 dX16_common_65 g ?_
        refine zw_iload hX dX16_common_68 rfl ?_
        obtain ⟨v9, g, h⟩ := zb_some h
        refine zw_xi hX dX16_common_70 g ?_
        refine zw_aload_n hX dX16_common_71 rfl ?_
        obtain ⟨b10, g, h⟩ := zb_some h
        refine zw_getr hX zl_X16_47 dX16_common_72 g ?_
        refine zw_iload hX dX16_common_75 rfl ?_
        refine zw_iconst (v := (1 : Int32)) hX dX16_common_77 (by decide) ?_
        refine zw_isub hX dX16_common_78 ?_
        obtain ⟨v11, g, h⟩ := zb_some h
        refine zw_xi hX dX16_common_79 g ?_
        refine zw_aload_n hX dX16_common_80 rfl ?_
        obtain ⟨b12, g, h⟩ := zb_some h
        refine zw_getr hX zl_X16_47 dX16_common_81 g ?_
        refine zw_iload hX dX16_common_84 rfl ?_
        obtain ⟨v13, g, h⟩ := zb_some h
        refine zw_xi hX dX16_common_86 g ?_
        obtain ⟨r16, g, h⟩ := zb_some h
        refine zc_Si (as := [.int v7, .int v9, .int v11, .int v13]) hX (zt_X16_shared (d := d - 1) (by omega) g) zl_X16_214 dX16_common_87 ⟨rfl, rfl, Nat.le_of_ble_eq_true rfl⟩ ⟨by omega, by omega⟩ ?_
        refine zw_istore hX dX16_common_90 (by decide) ?_
        refine zw_iconst (v := (1 : Int32)) hX dX16_common_92 (by decide) ?_
        refine zw_istore hX dX16_common_93 (by decide) ?_
        obtain ⟨r, g, h⟩ := zb_some h
        refine zw_sub (lv' := [(0, .ref a0), (1, .int i1), (2, .int i2), (3, .int i3), (4, .int i4), (5, .int i5), (6, .int i6), (7, .int r16.1), (8, .int (1 : Int32))]) (List.forall_mem_cons.mpr ⟨rfl, (List.forall_mem_cons.mpr ⟨rfl, (List.forall_mem_cons.mpr ⟨rfl, (List.forall_mem_cons.mpr ⟨rfl, (List.forall_mem_cons.mpr ⟨rfl, (List.forall_mem_cons.mpr ⟨rfl, (List.forall_mem_cons.mpr ⟨rfl, (List.forall_mem_cons.mpr ⟨rfl, (List.forall_mem_cons.mpr ⟨rfl, zs_nil⟩)⟩)⟩)⟩)⟩)⟩)⟩)⟩)⟩) ?_
        refine zt_X16_common_L95 hX hr hR hd (res := r) (out := out) a0 i1 i2 i4 i5 i6 r16.1 ?_ ?_ N _ _ _ g
        · intro o ho
          subst ho
          exact hf _ (Option.some.inj h).symm
        · intro v32 S31 hx
          subst hx
          try dsimp only at h
          refine zw_iinc (v := (i6 + (1 : Int32))) hX dX16_common_177 rfl rfl (by decide) ?_
          refine zw_goto (tgt := 29) hX dX16_common_180 (by decide) ?_
          refine zw_sub (lv' := [(0, .ref a0), (1, .int i1), (2, .int i2), (3, .int v32), (4, .int i4), (5, .int i5), (6, .int (i6 + (1 : Int32)))]) (List.forall_mem_cons.mpr ⟨rfl, (List.forall_mem_cons.mpr ⟨rfl, (List.forall_mem_cons.mpr ⟨rfl, (List.forall_mem_cons.mpr ⟨rfl, (List.forall_mem_cons.mpr ⟨rfl, (List.forall_mem_cons.mpr ⟨rfl, (List.forall_mem_cons.mpr ⟨rfl, zs_nil⟩)⟩)⟩)⟩)⟩)⟩)⟩) ?_
          exact ih _ _ _ h
def zf_X16_common_L17 (N : Nat) : Nat → Nat → Int32 → Int32 → Int32 → Int32 → Int32 → zm_S → Option ((Int32 × zm_S) ⊕ ((Int32) × zm_S))
  | 0, _, _, _, _, _, _, _ => none
  | n + 1, a0, i1, i2, i3, i4, i5, S => (zg_i S a0 16 12).bind (fun v2 => if v2 ≤ i5 then some (.inr (i3, S)) else (zf_X16_common_L29 N N a0 i1 i2 i3 i4 i5 (1 : Int32) S).bind (fun r => match r with | .inl o => some (.inl o) | .inr (v34, S33) => zf_X16_common_L17 N n a0 i1 i2 v34 i4 (i5 + (1 : Int32)) S33))
set_option maxHeartbeats 4000000 in
set_option maxRecDepth 100000 in
theorem zt_X16_common_L17 {p : Program} {l : Launch} {e : Env} {R : Room} {s : State} {m : MethodId} {args : Array Value} {below : List Frame} {meth : Method} {c : Code} {V : zm_V} {mc ms d rc rs : Nat} (hX : zm_X p R s m args meth c RX16 "common" cX16_common 9 zk_E V mc ms) (hr : meth.sig.returnType = (some .int)) (hR : R.frames = d ∧ R.locals = 64 * d) (hd : 2 ≤ d) {N : Nat} {res : (Int32 × zm_S) ⊕ ((Int32) × zm_S)} {out : (Int32 × zm_S)} (a0 : Nat) (i1 : Int32) (i2 : Int32) (i4 : Int32) (hf : ∀ o, res = .inl o → o = out) (hk : ∀ (x3 : Int32) (S' : zm_S), res = .inr (x3, S') → zw p l e R s m args below meth c (vx_MQ below (zm_Qc zk_E V (zo_i out)) (zm_XC zk_E V zo_x) args s mc ms (fun q => V.2.2.2.1 ≤ q)) 9 zk_E V mc ms 189 [(0, .ref a0), (1, .int i1), (2, .int i2), (3, .int x3), (4, .int i4)] [] S' rc rs) : ∀ (n : Nat) (i3 : Int32) (i5 : Int32) (S : zm_S), zf_X16_common_L17 N n a0 i1 i2 i3 i4 i5 S = some res → zw p l e R s m args below meth c (vx_MQ below (zm_Qc zk_E V (zo_i out)) (zm_XC zk_E V zo_x) args s mc ms (fun q => V.2.2.2.1 ≤ q)) 9 zk_E V mc ms 17 [(0, .ref a0), (1, .int i1), (2, .int i2), (3, .int i3), (4, .int i4), (5, .int i5)] [] S rc rs := by
  intro n
  induction n with
  | zero => intro i3 i5 S h; cases h
  | succ n ih =>
    intro i3 i5 S h
    rw [zf_X16_common_L17] at h
    refine zw_iload hX dX16_common_17 rfl ?_
    refine zw_aload_n hX dX16_common_19 rfl ?_
    obtain ⟨v2, g, h⟩ := zb_some h
    refine zw_geti hX zl_X16_118 dX16_common_20 g ?_
    refine zw_icmp_ge (tgt := 189) hX dX16_common_23 (by decide) (fun c23 => ?_) (fun c23 => ?_)
    · rw [if_pos c23] at h
      refine zw_sub (lv' := [(0, .ref a0), (1, .int i1), (2, .int i2), (3, .int i3), (4, .int i4)]) (List.forall_mem_cons.mpr ⟨rfl, (List.forall_mem_cons.mpr ⟨rfl, (List.forall_mem_cons.mpr ⟨rfl, (List.forall_mem_cons.mpr ⟨rfl, (List.forall_mem_cons.mpr ⟨rfl, zs_nil⟩)⟩)⟩)⟩)⟩) ?_
      exact hk _ _ (Option.some.inj h).symm
    · rw [if_neg c23] at h
      refine zw_iconst (v := (1 : Int32)) hX dX16_common_26 (by decide) ?_
      refine zw_istore hX dX16_common_27 (by decide) ?_
      obtain ⟨r, g, h⟩ := zb_some h
      refine zw_sub (lv' := [(0, .ref a0), (1, .int i1), (2, .int i2), (3, .int i3), (4, .int i4), (5, .int i5), (6, .int (1 : Int32))]) (List.forall_mem_cons.mpr ⟨rfl, (List.forall_mem_cons.mpr ⟨rfl, (List.forall_mem_cons.mpr ⟨rfl, (List.forall_mem_cons.mpr ⟨rfl, (List.forall_mem_cons.mpr ⟨rfl, (List.forall_mem_cons.mpr ⟨rfl, (List.forall_mem_cons.mpr ⟨rfl, zs_nil⟩)⟩)⟩)⟩)⟩)⟩)⟩) ?_
      refine zt_X16_common_L29 hX hr hR hd (res := r) (out := out) a0 i1 i2 i4 i5 ?_ ?_ N _ _ _ g
      · intro o ho
        subst ho
        exact hf _ (Option.some.inj h).symm
      · intro v34 S33 hx
        subst hx
        try dsimp only at h
        refine zw_iinc (v := (i5 + (1 : Int32))) hX dX16_common_183 rfl rfl (by decide) ?_
        refine zw_goto (tgt := 17) hX dX16_common_186 (by decide) ?_
        refine zw_sub (lv' := [(0, .ref a0), (1, .int i1), (2, .int i2), (3, .int v34), (4, .int i4), (5, .int (i5 + (1 : Int32)))]) (List.forall_mem_cons.mpr ⟨rfl, (List.forall_mem_cons.mpr ⟨rfl, (List.forall_mem_cons.mpr ⟨rfl, (List.forall_mem_cons.mpr ⟨rfl, (List.forall_mem_cons.mpr ⟨rfl, (List.forall_mem_cons.mpr ⟨rfl, zs_nil⟩)⟩)⟩)⟩)⟩)⟩) ?_
        exact ih _ _ _ h
def zf_X16_common_L5 (N : Nat) : Nat → Nat → Int32 → Int32 → Int32 → Int32 → zm_S → Option ((Int32 × zm_S) ⊕ ((Int32) × zm_S))
  | 0, _, _, _, _, _, _ => none
  | n + 1, a0, i1, i2, i3, i4, S => (zg_i S a0 16 13).bind (fun v1 => if v1 ≤ i4 then some (.inr (i3, S)) else (zf_X16_common_L17 N N a0 i1 i2 i3 i4 (1 : Int32) S).bind (fun r => match r with | .inl o => some (.inl o) | .inr (v36, S35) => zf_X16_common_L5 N n a0 i1 i2 v36 (i4 + (1 : Int32)) S35))
set_option maxHeartbeats 4000000 in
set_option maxRecDepth 100000 in
theorem zt_X16_common_L5 {p : Program} {l : Launch} {e : Env} {R : Room} {s : State} {m : MethodId} {args : Array Value} {below : List Frame} {meth : Method} {c : Code} {V : zm_V} {mc ms d rc rs : Nat} (hX : zm_X p R s m args meth c RX16 "common" cX16_common 9 zk_E V mc ms) (hr : meth.sig.returnType = (some .int)) (hR : R.frames = d ∧ R.locals = 64 * d) (hd : 2 ≤ d) {N : Nat} {res : (Int32 × zm_S) ⊕ ((Int32) × zm_S)} {out : (Int32 × zm_S)} (a0 : Nat) (i1 : Int32) (i2 : Int32) (hf : ∀ o, res = .inl o → o = out) (hk : ∀ (x3 : Int32) (S' : zm_S), res = .inr (x3, S') → zw p l e R s m args below meth c (vx_MQ below (zm_Qc zk_E V (zo_i out)) (zm_XC zk_E V zo_x) args s mc ms (fun q => V.2.2.2.1 ≤ q)) 9 zk_E V mc ms 195 [(3, .int x3)] [] S' rc rs) : ∀ (n : Nat) (i3 : Int32) (i4 : Int32) (S : zm_S), zf_X16_common_L5 N n a0 i1 i2 i3 i4 S = some res → zw p l e R s m args below meth c (vx_MQ below (zm_Qc zk_E V (zo_i out)) (zm_XC zk_E V zo_x) args s mc ms (fun q => V.2.2.2.1 ≤ q)) 9 zk_E V mc ms 5 [(0, .ref a0), (1, .int i1), (2, .int i2), (3, .int i3), (4, .int i4)] [] S rc rs := by
  intro n
  induction n with
  | zero => intro i3 i4 S h; cases h
  | succ n ih =>
    intro i3 i4 S h
    rw [zf_X16_common_L5] at h
    refine zw_iload hX dX16_common_5 rfl ?_
    refine zw_aload_n hX dX16_common_7 rfl ?_
    obtain ⟨v1, g, h⟩ := zb_some h
    refine zw_geti hX zl_X16_115 dX16_common_8 g ?_
    refine zw_icmp_ge (tgt := 195) hX dX16_common_11 (by decide) (fun c11 => ?_) (fun c11 => ?_)
    · rw [if_pos c11] at h
      refine zw_sub (lv' := [(3, .int i3)]) (List.forall_mem_cons.mpr ⟨rfl, zs_nil⟩) ?_
      exact hk _ _ (Option.some.inj h).symm
    · rw [if_neg c11] at h
      refine zw_iconst (v := (1 : Int32)) hX dX16_common_14 (by decide) ?_
      refine zw_istore hX dX16_common_15 (by decide) ?_
      obtain ⟨r, g, h⟩ := zb_some h
      refine zw_sub (lv' := [(0, .ref a0), (1, .int i1), (2, .int i2), (3, .int i3), (4, .int i4), (5, .int (1 : Int32))]) (List.forall_mem_cons.mpr ⟨rfl, (List.forall_mem_cons.mpr ⟨rfl, (List.forall_mem_cons.mpr ⟨rfl, (List.forall_mem_cons.mpr ⟨rfl, (List.forall_mem_cons.mpr ⟨rfl, (List.forall_mem_cons.mpr ⟨rfl, zs_nil⟩)⟩)⟩)⟩)⟩)⟩) ?_
      refine zt_X16_common_L17 hX hr hR hd (res := r) (out := out) a0 i1 i2 i4 ?_ ?_ N _ _ _ g
      · intro o ho
        subst ho
        exact hf _ (Option.some.inj h).symm
      · intro v36 S35 hx
        subst hx
        try dsimp only at h
        refine zw_iinc (v := (i4 + (1 : Int32))) hX dX16_common_189 rfl rfl (by decide) ?_
        refine zw_goto (tgt := 5) hX dX16_common_192 (by decide) ?_
        refine zw_sub (lv' := [(0, .ref a0), (1, .int i1), (2, .int i2), (3, .int v36), (4, .int (i4 + (1 : Int32)))]) (List.forall_mem_cons.mpr ⟨rfl, (List.forall_mem_cons.mpr ⟨rfl, (List.forall_mem_cons.mpr ⟨rfl, (List.forall_mem_cons.mpr ⟨rfl, (List.forall_mem_cons.mpr ⟨rfl, zs_nil⟩)⟩)⟩)⟩)⟩) ?_
        exact ih _ _ _ h
def zf_X16_common (N : Nat) (a0 : Nat) (i1 : Int32) (i2 : Int32) (S : zm_S) : Option (Int32 × zm_S) := (zf_X16_common_L5 N N a0 i1 i2 (0 : Int32) (1 : Int32) S).bind (fun r => match r with | .inl o => some o | .inr (v38, S37) => some (v38, S37))
set_option maxHeartbeats 4000000 in
set_option maxRecDepth 100000 in
theorem zt_X16_common {l : Launch} {V : zm_V} {N : Nat} {S : zm_S} {out : (Int32 × zm_S)} {d : Nat} {a0 : Nat} {i1 : Int32} {i2 : Int32} (hd : 2 ≤ d) (h : zf_X16_common N a0 i1 i2 S = some out) : zm_Met l zk_E V yX16_common (.code yX16_common cX16_common 9 (some .int)) d [.ref a0, .int i1, .int i2] S 0 0 (zo_i out) zo_x := by
  refine zm_of (by decide +kernel) (Nat.le_of_ble_eq_true rfl) ?_
  intro p e R s m args below meth c hRR hX hr hxt
  have hR : R.frames = d ∧ R.locals = 64 * d := by rw [hRR]; exact ⟨rfl, rfl⟩
  have hX : zm_X p R s m args meth c RX16 "common" cX16_common 9 zk_E V 0 0 := hX
  unfold zf_X16_common at h
  refine zw_sub (lv' := [(0, .ref a0), (1, .int i1), (2, .int i2)]) (List.forall_mem_cons.mpr ⟨rfl, (List.forall_mem_cons.mpr ⟨rfl, (List.forall_mem_cons.mpr ⟨rfl, zs_nil⟩)⟩)⟩) ?_
  refine zw_iconst (v := (0 : Int32)) hX dX16_common_0 (by decide) ?_
  refine zw_istore_n hX dX16_common_1 (by decide) ?_
  refine zw_iconst (v := (1 : Int32)) hX dX16_common_2 (by decide) ?_
  refine zw_istore hX dX16_common_3 (by decide) ?_
  obtain ⟨r, g, h⟩ := zb_some h
  refine zw_sub (lv' := [(0, .ref a0), (1, .int i1), (2, .int i2), (3, .int (0 : Int32)), (4, .int (1 : Int32))]) (List.forall_mem_cons.mpr ⟨rfl, (List.forall_mem_cons.mpr ⟨rfl, (List.forall_mem_cons.mpr ⟨rfl, (List.forall_mem_cons.mpr ⟨rfl, (List.forall_mem_cons.mpr ⟨rfl, zs_nil⟩)⟩)⟩)⟩)⟩) ?_
  refine zt_X16_common_L5 hX hr hR hd (res := r) (out := out) a0 i1 i2 ?_ ?_ N _ _ _ g
  · intro o ho
    subst ho
    exact Option.some.inj h
  · intro v38 S37 hx
    subst hx
    try dsimp only at h
    refine zw_iload_n hX dX16_common_195 rfl ?_
    obtain rfl := Option.some.inj h
    exact zw_iret hX hr dX16_common_196 rfl ⟨rfl, rfl⟩
def zf_X16_carry_L2 (N : Nat) : Nat → Nat → Int32 → zm_S → Option ((Unit × zm_S) ⊕ ((Unit) × zm_S))
  | 0, _, _, _ => none
  | n + 1, a0, i1, S => (zg_i S a0 16 17).bind (fun v1 => if v1 ≤ i1 then some (.inr ((), S)) else (zg_r S a0 16 39).bind (fun b2 => (zs_i S b2 i1 (0 : Int32)).bind (fun S3 => zf_X16_carry_L2 N n a0 (i1 + (1 : Int32)) S3)))
set_option maxHeartbeats 4000000 in
set_option maxRecDepth 100000 in
theorem zt_X16_carry_L2 {p : Program} {l : Launch} {e : Env} {R : Room} {s : State} {m : MethodId} {args : Array Value} {below : List Frame} {meth : Method} {c : Code} {V : zm_V} {mc ms d rc rs : Nat} (hX : zm_X p R s m args meth c RX16 "carry" cX16_carry 6 zk_E V mc ms) (hr : meth.sig.returnType = none) (hR : R.frames = d ∧ R.locals = 64 * d) (hd : 3 ≤ d) {N : Nat} {res : (Unit × zm_S) ⊕ ((Unit) × zm_S)} {out : (Unit × zm_S)} (a0 : Nat) (hf : ∀ o, res = .inl o → o = out) (hk : ∀ (S' : zm_S), res = .inr ((), S') → zw p l e R s m args below meth c (vx_MQ below (zm_Qc zk_E V (zo_v out)) (zm_XC zk_E V zo_x) args s mc ms (fun q => V.2.2.2.1 ≤ q)) 6 zk_E V mc ms 23 [(0, .ref a0)] [] S' rc rs) : ∀ (n : Nat) (i1 : Int32) (S : zm_S), zf_X16_carry_L2 N n a0 i1 S = some res → zw p l e R s m args below meth c (vx_MQ below (zm_Qc zk_E V (zo_v out)) (zm_XC zk_E V zo_x) args s mc ms (fun q => V.2.2.2.1 ≤ q)) 6 zk_E V mc ms 2 [(0, .ref a0), (1, .int i1)] [] S rc rs := by
  intro n
  induction n with
  | zero => intro i1 S h; cases h
  | succ n ih =>
    intro i1 S h
    rw [zf_X16_carry_L2] at h
    refine zw_iload_n hX dX16_carry_2 rfl ?_
    refine zw_aload_n hX dX16_carry_3 rfl ?_
    obtain ⟨v1, g, h⟩ := zb_some h
    refine zw_geti hX zl_X16_171 dX16_carry_4 g ?_
    refine zw_icmp_ge (tgt := 23) hX dX16_carry_7 (by decide) (fun c7 => ?_) (fun c7 => ?_)
    · rw [if_pos c7] at h
      refine zw_sub (lv' := [(0, .ref a0)]) (List.forall_mem_cons.mpr ⟨rfl, zs_nil⟩) ?_
      exact hk  _ (Option.some.inj h).symm
    · rw [if_neg c7] at h
      refine zw_aload_n hX dX16_carry_10 rfl ?_
      obtain ⟨b2, g, h⟩ := zb_some h
      refine zw_getr hX zl_X16_86 dX16_carry_11 g ?_
      refine zw_iload_n hX dX16_carry_14 rfl ?_
      refine zw_iconst (v := (0 : Int32)) hX dX16_carry_15 (by decide) ?_
      obtain ⟨S3, g, h⟩ := zb_some h
      refine zw_si hX dX16_carry_16 g ?_
      refine zw_iinc (v := (i1 + (1 : Int32))) hX dX16_carry_17 rfl rfl (by decide) ?_
      refine zw_goto (tgt := 2) hX dX16_carry_20 (by decide) ?_
      refine zw_sub (lv' := [(0, .ref a0), (1, .int (i1 + (1 : Int32)))]) (List.forall_mem_cons.mpr ⟨rfl, (List.forall_mem_cons.mpr ⟨rfl, zs_nil⟩)⟩) ?_
      exact ih _ _ h
def zf_X16_carry_J79 (N : Nat) (k : Nat → Int32 → Int32 → Int32 → Int32 → zm_S → Option ((Unit × zm_S) ⊕ ((Int32 × Int32) × zm_S))) (a0 : Nat) (i1 : Int32) (i3 : Int32) (i4 : Int32) (i5 : Int32) (t0 : Int32) (S : zm_S) : Option ((Unit × zm_S) ⊕ ((Int32 × Int32) × zm_S)) := if i5 ≤ i3 then k a0 i1 t0 i3 (i4 + (1 : Int32)) S else k a0 i1 t0 i5 (i4 + (1 : Int32)) S
set_option maxHeartbeats 4000000 in
set_option maxRecDepth 100000 in
theorem zt_X16_carry_J79 {p : Program} {l : Launch} {e : Env} {R : Room} {s : State} {m : MethodId} {args : Array Value} {below : List Frame} {meth : Method} {c : Code} {V : zm_V} {mc ms d rc rs : Nat} (hX : zm_X p R s m args meth c RX16 "carry" cX16_carry 6 zk_E V mc ms) (hr : meth.sig.returnType = none) (hR : R.frames = d ∧ R.locals = 64 * d) (hd : 3 ≤ d) {N : Nat} {k : Nat → Int32 → Int32 → Int32 → Int32 → zm_S → Option ((Unit × zm_S) ⊕ ((Int32 × Int32) × zm_S))} {a0 : Nat} {i1 : Int32} {i3 : Int32} {i4 : Int32} {i5 : Int32} {t0 : Int32} {res : (Unit × zm_S) ⊕ ((Int32 × Int32) × zm_S)} {out : (Unit × zm_S)}   (hf : ∀ o, res = .inl o → o = out) (hk : ∀ (x2 : Int32) (x3 : Int32) (S' : zm_S), res = .inr ((x2, x3), S') → zw p l e R s m args below meth c (vx_MQ below (zm_Qc zk_E V (zo_v out)) (zm_XC zk_E V zo_x) args s mc ms (fun q => V.2.2.2.1 ≤ q)) 6 zk_E V mc ms 99 [(0, .ref a0), (1, .int i1), (2, .int x2), (3, .int x3)] [] S' rc rs) (hrec : ∀ (i2' : Int32) (i3' : Int32) (i4' : Int32) (S : zm_S), k a0 i1 i2' i3' i4' S = some res → zw p l e R s m args below meth c (vx_MQ below (zm_Qc zk_E V (zo_v out)) (zm_XC zk_E V zo_x) args s mc ms (fun q => V.2.2.2.1 ≤ q)) 6 zk_E V mc ms 40 [(0, .ref a0), (1, .int i1), (2, .int i2'), (3, .int i3'), (4, .int i4')] [] S rc rs) {S : zm_S} (h : zf_X16_carry_J79 N k a0 i1 i3 i4 i5 t0 S = some res) : zw p l e R s m args below meth c (vx_MQ below (zm_Qc zk_E V (zo_v out)) (zm_XC zk_E V zo_x) args s mc ms (fun q => V.2.2.2.1 ≤ q)) 6 zk_E V mc ms 79 [(0, .ref a0), (1, .int i1), (3, .int i3), (4, .int i4), (5, .int i5)] [.int t0] S rc rs := by
  unfold zf_X16_carry_J79 at h
  refine zw_istore_n hX dX16_carry_79 (by decide) ?_
  refine zw_iload hX dX16_carry_80 rfl ?_
  refine zw_iload_n hX dX16_carry_82 rfl ?_
  refine zw_icmp_le (tgt := 91) hX dX16_carry_83 (by decide) (fun c83 => ?_) (fun c83 => ?_)
  · rw [if_pos c83] at h
    refine zw_iload_n hX dX16_carry_91 rfl ?_
    refine zw_istore_n hX dX16_carry_92 (by decide) ?_
    refine zw_iinc (v := (i4 + (1 : Int32))) hX dX16_carry_93 rfl rfl (by decide) ?_
    refine zw_goto (tgt := 40) hX dX16_carry_96 (by decide) ?_
    refine zw_sub (lv' := [(0, .ref a0), (1, .int i1), (2, .int t0), (3, .int i3), (4, .int (i4 + (1 : Int32)))]) (List.forall_mem_cons.mpr ⟨rfl, (List.forall_mem_cons.mpr ⟨rfl, (List.forall_mem_cons.mpr ⟨rfl, (List.forall_mem_cons.mpr ⟨rfl, (List.forall_mem_cons.mpr ⟨rfl, zs_nil⟩)⟩)⟩)⟩)⟩) ?_
    exact hrec _ _ _ _ h
  · rw [if_neg c83] at h
    refine zw_iload hX dX16_carry_86 rfl ?_
    refine zw_goto (tgt := 92) hX dX16_carry_88 (by decide) ?_
    refine zw_istore_n hX dX16_carry_92 (by decide) ?_
    refine zw_iinc (v := (i4 + (1 : Int32))) hX dX16_carry_93 rfl rfl (by decide) ?_
    refine zw_goto (tgt := 40) hX dX16_carry_96 (by decide) ?_
    refine zw_sub (lv' := [(0, .ref a0), (1, .int i1), (2, .int t0), (3, .int i5), (4, .int (i4 + (1 : Int32)))]) (List.forall_mem_cons.mpr ⟨rfl, (List.forall_mem_cons.mpr ⟨rfl, (List.forall_mem_cons.mpr ⟨rfl, (List.forall_mem_cons.mpr ⟨rfl, (List.forall_mem_cons.mpr ⟨rfl, zs_nil⟩)⟩)⟩)⟩)⟩) ?_
    exact hrec _ _ _ _ h
def zf_X16_carry_L40 (N : Nat) : Nat → Nat → Int32 → Int32 → Int32 → Int32 → zm_S → Option ((Unit × zm_S) ⊕ ((Int32 × Int32) × zm_S))
  | 0, _, _, _, _, _, _ => none
  | n + 1, a0, i1, i2, i3, i4, S => (zg_i S a0 16 17).bind (fun v6 => if v6 ≤ i4 then some (.inr ((i2, i3), S)) else (zg_r S a0 16 26).bind (fun b7 => (za_x S 0 b7 i1).bind (fun v8 => if v8 ≤ 0 then some (.inr ((i2, i3), S)) else (zi S a0 16).bind (fun _ => (zf_X16_common N a0 i1 i4 S).bind (fun r11 => if r11.1 ≤ i3 then zf_X16_carry_J79 N (zf_X16_carry_L40 N n) a0 i1 i3 i4 r11.1 i2 r11.2 else zf_X16_carry_J79 N (zf_X16_carry_L40 N n) a0 i1 i3 i4 r11.1 i4 r11.2)))))
set_option maxHeartbeats 4000000 in
set_option maxRecDepth 100000 in
theorem zt_X16_carry_L40 {p : Program} {l : Launch} {e : Env} {R : Room} {s : State} {m : MethodId} {args : Array Value} {below : List Frame} {meth : Method} {c : Code} {V : zm_V} {mc ms d rc rs : Nat} (hX : zm_X p R s m args meth c RX16 "carry" cX16_carry 6 zk_E V mc ms) (hr : meth.sig.returnType = none) (hR : R.frames = d ∧ R.locals = 64 * d) (hd : 3 ≤ d) {N : Nat} {res : (Unit × zm_S) ⊕ ((Int32 × Int32) × zm_S)} {out : (Unit × zm_S)} (a0 : Nat) (i1 : Int32) (hf : ∀ o, res = .inl o → o = out) (hk : ∀ (x2 : Int32) (x3 : Int32) (S' : zm_S), res = .inr ((x2, x3), S') → zw p l e R s m args below meth c (vx_MQ below (zm_Qc zk_E V (zo_v out)) (zm_XC zk_E V zo_x) args s mc ms (fun q => V.2.2.2.1 ≤ q)) 6 zk_E V mc ms 99 [(0, .ref a0), (1, .int i1), (2, .int x2), (3, .int x3)] [] S' rc rs) : ∀ (n : Nat) (i2 : Int32) (i3 : Int32) (i4 : Int32) (S : zm_S), zf_X16_carry_L40 N n a0 i1 i2 i3 i4 S = some res → zw p l e R s m args below meth c (vx_MQ below (zm_Qc zk_E V (zo_v out)) (zm_XC zk_E V zo_x) args s mc ms (fun q => V.2.2.2.1 ≤ q)) 6 zk_E V mc ms 40 [(0, .ref a0), (1, .int i1), (2, .int i2), (3, .int i3), (4, .int i4)] [] S rc rs := by
  intro n
  induction n with
  | zero => intro i2 i3 i4 S h; cases h
  | succ n ih =>
    intro i2 i3 i4 S h
    rw [zf_X16_carry_L40] at h
    refine zw_iload hX dX16_carry_40 rfl ?_
    refine zw_aload_n hX dX16_carry_42 rfl ?_
    obtain ⟨v6, g, h⟩ := zb_some h
    refine zw_geti hX zl_X16_171 dX16_carry_43 g ?_
    refine zw_icmp_ge (tgt := 99) hX dX16_carry_46 (by decide) (fun c46 => ?_) (fun c46 => ?_)
    · rw [if_pos c46] at h
      refine zw_sub (lv' := [(0, .ref a0), (1, .int i1), (2, .int i2), (3, .int i3)]) (List.forall_mem_cons.mpr ⟨rfl, (List.forall_mem_cons.mpr ⟨rfl, (List.forall_mem_cons.mpr ⟨rfl, (List.forall_mem_cons.mpr ⟨rfl, zs_nil⟩)⟩)⟩)⟩) ?_
      exact hk _ _ _ (Option.some.inj h).symm
    · rw [if_neg c46] at h
      refine zw_aload_n hX dX16_carry_49 rfl ?_
      obtain ⟨b7, g, h⟩ := zb_some h
      refine zw_getr hX zl_X16_56 dX16_carry_50 g ?_
      refine zw_iload_n hX dX16_carry_53 rfl ?_
      obtain ⟨v8, g, h⟩ := zb_some h
      refine zw_xi hX dX16_carry_54 g ?_
      refine zw_if_le (tgt := 99) hX dX16_carry_55 (by decide) (fun c55 => ?_) (fun c55 => ?_)
      · rw [if_pos c55] at h
        refine zw_sub (lv' := [(0, .ref a0), (1, .int i1), (2, .int i2), (3, .int i3)]) (List.forall_mem_cons.mpr ⟨rfl, (List.forall_mem_cons.mpr ⟨rfl, (List.forall_mem_cons.mpr ⟨rfl, (List.forall_mem_cons.mpr ⟨rfl, zs_nil⟩)⟩)⟩)⟩) ?_
        exact hk _ _ _ (Option.some.inj h).symm
      · rw [if_neg c55] at h
        refine zw_aload_n hX dX16_carry_58 rfl ?_
        refine zw_iload_n hX dX16_carry_59 rfl ?_
        refine zw_iload hX dX16_carry_60 rfl ?_
        obtain ⟨_, gi, h⟩ := zb_some h
        obtain ⟨r11, g, h⟩ := zb_some h
        refine zc_Vi (as := [.int i1, .int i4]) hX gi (zt_X16_common (d := d - 1) (by omega) g) zl_X16_218 rfl dX16_carry_62 ⟨rfl, rfl, Nat.le_of_ble_eq_true rfl⟩ ⟨by omega, by omega⟩ ?_
        refine zw_istore hX dX16_carry_65 (by decide) ?_
        refine zw_iload hX dX16_carry_67 rfl ?_
        refine zw_iload_n hX dX16_carry_69 rfl ?_
        refine zw_icmp_le (tgt := 78) hX dX16_carry_70 (by decide) (fun c70 => ?_) (fun c70 => ?_)
        · rw [if_pos c70] at h
          refine zw_iload_n hX dX16_carry_78 rfl ?_
          refine zw_sub (lv' := [(0, .ref a0), (1, .int i1), (3, .int i3), (4, .int i4), (5, .int r11.1)]) (List.forall_mem_cons.mpr ⟨rfl, (List.forall_mem_cons.mpr ⟨rfl, (List.forall_mem_cons.mpr ⟨rfl, (List.forall_mem_cons.mpr ⟨rfl, (List.forall_mem_cons.mpr ⟨rfl, zs_nil⟩)⟩)⟩)⟩)⟩) ?_
          exact zt_X16_carry_J79 hX hr hR hd hf hk ih h
        · rw [if_neg c70] at h
          refine zw_iload hX dX16_carry_73 rfl ?_
          refine zw_goto (tgt := 79) hX dX16_carry_75 (by decide) ?_
          refine zw_sub (lv' := [(0, .ref a0), (1, .int i1), (3, .int i3), (4, .int i4), (5, .int r11.1)]) (List.forall_mem_cons.mpr ⟨rfl, (List.forall_mem_cons.mpr ⟨rfl, (List.forall_mem_cons.mpr ⟨rfl, (List.forall_mem_cons.mpr ⟨rfl, (List.forall_mem_cons.mpr ⟨rfl, zs_nil⟩)⟩)⟩)⟩)⟩) ?_
          exact zt_X16_carry_J79 hX hr hR hd hf hk ih h
def zf_X16_carry_J99 (N : Nat) (k : Nat → Int32 → zm_S → Option ((Unit × zm_S) ⊕ ((Unit) × zm_S))) (a0 : Nat) (i1 : Int32) (i2 : Int32) (i3 : Int32) (S : zm_S) : Option ((Unit × zm_S) ⊕ ((Unit) × zm_S)) := if i2 < 0 then k a0 (i1 + (1 : Int32)) S else (zg_r S a0 16 39).bind (fun b15 => (za_x S 0 b15 i2).bind (fun v16 => if i3 ≤ v16 then k a0 (i1 + (1 : Int32)) S else (zg_r S a0 16 39).bind (fun b17 => (zs_i S b17 i2 i3).bind (fun S18 => (zg_r S18 a0 16 25).bind (fun b19 => (zg_r S18 a0 16 26).bind (fun b20 => (za_x S18 0 b20 i1).bind (fun v21 => (zs_i S18 b19 i2 v21).bind (fun S22 => k a0 (i1 + (1 : Int32)) S22))))))))
set_option maxHeartbeats 4000000 in
set_option maxRecDepth 100000 in
theorem zt_X16_carry_J99 {p : Program} {l : Launch} {e : Env} {R : Room} {s : State} {m : MethodId} {args : Array Value} {below : List Frame} {meth : Method} {c : Code} {V : zm_V} {mc ms d rc rs : Nat} (hX : zm_X p R s m args meth c RX16 "carry" cX16_carry 6 zk_E V mc ms) (hr : meth.sig.returnType = none) (hR : R.frames = d ∧ R.locals = 64 * d) (hd : 3 ≤ d) {N : Nat} {k : Nat → Int32 → zm_S → Option ((Unit × zm_S) ⊕ ((Unit) × zm_S))} {a0 : Nat} {i1 : Int32} {i2 : Int32} {i3 : Int32} {res : (Unit × zm_S) ⊕ ((Unit) × zm_S)} {out : (Unit × zm_S)}   (hf : ∀ o, res = .inl o → o = out) (hk : ∀ (S' : zm_S), res = .inr ((), S') → zw p l e R s m args below meth c (vx_MQ below (zm_Qc zk_E V (zo_v out)) (zm_XC zk_E V zo_x) args s mc ms (fun q => V.2.2.2.1 ≤ q)) 6 zk_E V mc ms 138 [] [] S' rc rs) (hrec : ∀ (i1' : Int32) (S : zm_S), k a0 i1' S = some res → zw p l e R s m args below meth c (vx_MQ below (zm_Qc zk_E V (zo_v out)) (zm_XC zk_E V zo_x) args s mc ms (fun q => V.2.2.2.1 ≤ q)) 6 zk_E V mc ms 25 [(0, .ref a0), (1, .int i1')] [] S rc rs) {S : zm_S} (h : zf_X16_carry_J99 N k a0 i1 i2 i3 S = some res) : zw p l e R s m args below meth c (vx_MQ below (zm_Qc zk_E V (zo_v out)) (zm_XC zk_E V zo_x) args s mc ms (fun q => V.2.2.2.1 ≤ q)) 6 zk_E V mc ms 99 [(0, .ref a0), (1, .int i1), (2, .int i2), (3, .int i3)] [] S rc rs := by
  unfold zf_X16_carry_J99 at h
  refine zw_iload_n hX dX16_carry_99 rfl ?_
  refine zw_if_lt (tgt := 132) hX dX16_carry_100 (by decide) (fun c100 => ?_) (fun c100 => ?_)
  · rw [if_pos c100] at h
    refine zw_iinc (v := (i1 + (1 : Int32))) hX dX16_carry_132 rfl rfl (by decide) ?_
    refine zw_goto (tgt := 25) hX dX16_carry_135 (by decide) ?_
    refine zw_sub (lv' := [(0, .ref a0), (1, .int (i1 + (1 : Int32)))]) (List.forall_mem_cons.mpr ⟨rfl, (List.forall_mem_cons.mpr ⟨rfl, zs_nil⟩)⟩) ?_
    exact hrec _ _ h
  · rw [if_neg c100] at h
    refine zw_iload_n hX dX16_carry_103 rfl ?_
    refine zw_aload_n hX dX16_carry_104 rfl ?_
    obtain ⟨b15, g, h⟩ := zb_some h
    refine zw_getr hX zl_X16_86 dX16_carry_105 g ?_
    refine zw_iload_n hX dX16_carry_108 rfl ?_
    obtain ⟨v16, g, h⟩ := zb_some h
    refine zw_xi hX dX16_carry_109 g ?_
    refine zw_icmp_le (tgt := 132) hX dX16_carry_110 (by decide) (fun c110 => ?_) (fun c110 => ?_)
    · rw [if_pos c110] at h
      refine zw_iinc (v := (i1 + (1 : Int32))) hX dX16_carry_132 rfl rfl (by decide) ?_
      refine zw_goto (tgt := 25) hX dX16_carry_135 (by decide) ?_
      refine zw_sub (lv' := [(0, .ref a0), (1, .int (i1 + (1 : Int32)))]) (List.forall_mem_cons.mpr ⟨rfl, (List.forall_mem_cons.mpr ⟨rfl, zs_nil⟩)⟩) ?_
      exact hrec _ _ h
    · rw [if_neg c110] at h
      refine zw_aload_n hX dX16_carry_113 rfl ?_
      obtain ⟨b17, g, h⟩ := zb_some h
      refine zw_getr hX zl_X16_86 dX16_carry_114 g ?_
      refine zw_iload_n hX dX16_carry_117 rfl ?_
      refine zw_iload_n hX dX16_carry_118 rfl ?_
      obtain ⟨S18, g, h⟩ := zb_some h
      refine zw_si hX dX16_carry_119 g ?_
      refine zw_aload_n hX dX16_carry_120 rfl ?_
      obtain ⟨b19, g, h⟩ := zb_some h
      refine zw_getr hX zl_X16_53 dX16_carry_121 g ?_
      refine zw_iload_n hX dX16_carry_124 rfl ?_
      refine zw_aload_n hX dX16_carry_125 rfl ?_
      obtain ⟨b20, g, h⟩ := zb_some h
      refine zw_getr hX zl_X16_56 dX16_carry_126 g ?_
      refine zw_iload_n hX dX16_carry_129 rfl ?_
      obtain ⟨v21, g, h⟩ := zb_some h
      refine zw_xi hX dX16_carry_130 g ?_
      obtain ⟨S22, g, h⟩ := zb_some h
      refine zw_si hX dX16_carry_131 g ?_
      refine zw_iinc (v := (i1 + (1 : Int32))) hX dX16_carry_132 rfl rfl (by decide) ?_
      refine zw_goto (tgt := 25) hX dX16_carry_135 (by decide) ?_
      refine zw_sub (lv' := [(0, .ref a0), (1, .int (i1 + (1 : Int32)))]) (List.forall_mem_cons.mpr ⟨rfl, (List.forall_mem_cons.mpr ⟨rfl, zs_nil⟩)⟩) ?_
      exact hrec _ _ h
def zf_X16_carry_L25 (N : Nat) : Nat → Nat → Int32 → zm_S → Option ((Unit × zm_S) ⊕ ((Unit) × zm_S))
  | 0, _, _, _ => none
  | n + 1, a0, i1, S => (zg_i S a0 16 24).bind (fun v5 => if v5 ≤ i1 then some (.inr ((), S)) else (zf_X16_carry_L40 N N a0 i1 (-1 : Int32) (0 : Int32) (0 : Int32) S).bind (fun r => match r with | .inl o => some (.inl o) | .inr ((v13, v14), S12) => zf_X16_carry_J99 N (zf_X16_carry_L25 N n) a0 i1 v13 v14 S12))
set_option maxHeartbeats 4000000 in
set_option maxRecDepth 100000 in
theorem zt_X16_carry_L25 {p : Program} {l : Launch} {e : Env} {R : Room} {s : State} {m : MethodId} {args : Array Value} {below : List Frame} {meth : Method} {c : Code} {V : zm_V} {mc ms d rc rs : Nat} (hX : zm_X p R s m args meth c RX16 "carry" cX16_carry 6 zk_E V mc ms) (hr : meth.sig.returnType = none) (hR : R.frames = d ∧ R.locals = 64 * d) (hd : 3 ≤ d) {N : Nat} {res : (Unit × zm_S) ⊕ ((Unit) × zm_S)} {out : (Unit × zm_S)} (a0 : Nat) (hf : ∀ o, res = .inl o → o = out) (hk : ∀ (S' : zm_S), res = .inr ((), S') → zw p l e R s m args below meth c (vx_MQ below (zm_Qc zk_E V (zo_v out)) (zm_XC zk_E V zo_x) args s mc ms (fun q => V.2.2.2.1 ≤ q)) 6 zk_E V mc ms 138 [] [] S' rc rs) : ∀ (n : Nat) (i1 : Int32) (S : zm_S), zf_X16_carry_L25 N n a0 i1 S = some res → zw p l e R s m args below meth c (vx_MQ below (zm_Qc zk_E V (zo_v out)) (zm_XC zk_E V zo_x) args s mc ms (fun q => V.2.2.2.1 ≤ q)) 6 zk_E V mc ms 25 [(0, .ref a0), (1, .int i1)] [] S rc rs := by
  intro n
  induction n with
  | zero => intro i1 S h; cases h
  | succ n ih =>
    intro i1 S h
    rw [zf_X16_carry_L25] at h
    refine zw_iload_n hX dX16_carry_25 rfl ?_
    refine zw_aload_n hX dX16_carry_26 rfl ?_
    obtain ⟨v5, g, h⟩ := zb_some h
    refine zw_geti hX zl_X16_180 dX16_carry_27 g ?_
    refine zw_icmp_ge (tgt := 138) hX dX16_carry_30 (by decide) (fun c30 => ?_) (fun c30 => ?_)
    · rw [if_pos c30] at h
      refine zw_sub (lv' := []) zs_nil ?_
      exact hk  _ (Option.some.inj h).symm
    · rw [if_neg c30] at h
      refine zw_iconst (v := (-1 : Int32)) hX dX16_carry_33 (by decide) ?_
      refine zw_istore_n hX dX16_carry_34 (by decide) ?_
      refine zw_iconst (v := (0 : Int32)) hX dX16_carry_35 (by decide) ?_
      refine zw_istore_n hX dX16_carry_36 (by decide) ?_
      refine zw_iconst (v := (0 : Int32)) hX dX16_carry_37 (by decide) ?_
      refine zw_istore hX dX16_carry_38 (by decide) ?_
      obtain ⟨r, g, h⟩ := zb_some h
      refine zw_sub (lv' := [(0, .ref a0), (1, .int i1), (2, .int (-1 : Int32)), (3, .int (0 : Int32)), (4, .int (0 : Int32))]) (List.forall_mem_cons.mpr ⟨rfl, (List.forall_mem_cons.mpr ⟨rfl, (List.forall_mem_cons.mpr ⟨rfl, (List.forall_mem_cons.mpr ⟨rfl, (List.forall_mem_cons.mpr ⟨rfl, zs_nil⟩)⟩)⟩)⟩)⟩) ?_
      refine zt_X16_carry_L40 hX hr hR hd (res := r) (out := out) a0 i1 ?_ ?_ N _ _ _ _ g
      · intro o ho
        subst ho
        exact hf _ (Option.some.inj h).symm
      · intro v13 v14 S12 hx
        subst hx
        try dsimp only at h
        refine zw_sub (lv' := [(0, .ref a0), (1, .int i1), (2, .int v13), (3, .int v14)]) (List.forall_mem_cons.mpr ⟨rfl, (List.forall_mem_cons.mpr ⟨rfl, (List.forall_mem_cons.mpr ⟨rfl, (List.forall_mem_cons.mpr ⟨rfl, zs_nil⟩)⟩)⟩)⟩) ?_
        exact zt_X16_carry_J99 hX hr hR hd hf hk ih h
def zf_X16_carry (N : Nat) (a0 : Nat) (S : zm_S) : Option (Unit × zm_S) := (zf_X16_carry_L2 N N a0 (0 : Int32) S).bind (fun r => match r with | .inl o => some o | .inr (_, S4) => (zf_X16_carry_L25 N N a0 (0 : Int32) S4).bind (fun r => match r with | .inl o => some o | .inr (_, S23) => some ((), S23)))
set_option maxHeartbeats 4000000 in
set_option maxRecDepth 100000 in
theorem zt_X16_carry {l : Launch} {V : zm_V} {N : Nat} {S : zm_S} {out : (Unit × zm_S)} {d : Nat} {a0 : Nat} (hd : 3 ≤ d) (h : zf_X16_carry N a0 S = some out) : zm_Met l zk_E V yX16_carry (.code yX16_carry cX16_carry 6 none) d [.ref a0] S 0 0 (zo_v out) zo_x := by
  refine zm_of (by decide +kernel) (Nat.le_of_ble_eq_true rfl) ?_
  intro p e R s m args below meth c hRR hX hr hxt
  have hR : R.frames = d ∧ R.locals = 64 * d := by rw [hRR]; exact ⟨rfl, rfl⟩
  have hX : zm_X p R s m args meth c RX16 "carry" cX16_carry 6 zk_E V 0 0 := hX
  unfold zf_X16_carry at h
  refine zw_sub (lv' := [(0, .ref a0)]) (List.forall_mem_cons.mpr ⟨rfl, zs_nil⟩) ?_
  refine zw_iconst (v := (0 : Int32)) hX dX16_carry_0 (by decide) ?_
  refine zw_istore_n hX dX16_carry_1 (by decide) ?_
  obtain ⟨r, g, h⟩ := zb_some h
  refine zw_sub (lv' := [(0, .ref a0), (1, .int (0 : Int32))]) (List.forall_mem_cons.mpr ⟨rfl, (List.forall_mem_cons.mpr ⟨rfl, zs_nil⟩)⟩) ?_
  refine zt_X16_carry_L2 hX hr hR hd (res := r) (out := out) a0 ?_ ?_ N _ _ g
  · intro o ho
    subst ho
    exact Option.some.inj h
  · intro  S4 hx
    subst hx
    try dsimp only at h
    refine zw_iconst (v := (0 : Int32)) hX dX16_carry_23 (by decide) ?_
    refine zw_istore_n hX dX16_carry_24 (by decide) ?_
    obtain ⟨r, g, h⟩ := zb_some h
    refine zw_sub (lv' := [(0, .ref a0), (1, .int (0 : Int32))]) (List.forall_mem_cons.mpr ⟨rfl, (List.forall_mem_cons.mpr ⟨rfl, zs_nil⟩)⟩) ?_
    refine zt_X16_carry_L25 hX hr hR hd (res := r) (out := out) a0 ?_ ?_ N _ _ g
    · intro o ho
      subst ho
      exact Option.some.inj h
    · intro  S23 hx
      subst hx
      try dsimp only at h
      obtain rfl := Option.some.inj h
      exact zw_vret hX hr dX16_carry_138 ⟨rfl, rfl⟩
