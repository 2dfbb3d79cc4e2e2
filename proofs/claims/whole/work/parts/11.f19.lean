/-! ===== functions of methods, by program (wip/whole/tools/gen11.py) ===== -/
theorem dX18_leave_0 : decode cX18_leave 0 = .ok (.iconst 0, 1) := by decide +kernel
theorem dX18_leave_1 : decode cX18_leave 1 = .ok (.istore_n 1, 1) := by decide +kernel
theorem dX18_leave_2 : decode cX18_leave 2 = .ok (.iload_n 1, 1) := by decide +kernel
theorem dX18_leave_3 : decode cX18_leave 3 = .ok (.bipush 120, 2) := by decide +kernel
theorem dX18_leave_5 : decode cX18_leave 5 = .ok (.if_icmp .ge 16, 3) := by decide +kernel
theorem dX18_leave_8 : decode cX18_leave 8 = .ok (.aload_n 0, 1) := by decide +kernel
theorem dX18_leave_9 : decode cX18_leave 9 = .ok (.getfield 178, 3) := by decide +kernel
theorem dX18_leave_12 : decode cX18_leave 12 = .ok (.iload_n 1, 1) := by decide +kernel
theorem dX18_leave_13 : decode cX18_leave 13 = .ok (.iconst 0, 1) := by decide +kernel
theorem dX18_leave_14 : decode cX18_leave 14 = .ok (.iastore, 1) := by decide +kernel
theorem dX18_leave_15 : decode cX18_leave 15 = .ok (.iinc 1 1, 3) := by decide +kernel
theorem dX18_leave_18 : decode cX18_leave 18 = .ok (.goto (-16), 3) := by decide +kernel
theorem dX18_leave_21 : decode cX18_leave 21 = .ok (.iconst 0, 1) := by decide +kernel
theorem dX18_leave_22 : decode cX18_leave 22 = .ok (.istore_n 1, 1) := by decide +kernel
theorem dX18_leave_23 : decode cX18_leave 23 = .ok (.iload_n 1, 1) := by decide +kernel
theorem dX18_leave_24 : decode cX18_leave 24 = .ok (.aload_n 0, 1) := by decide +kernel
theorem dX18_leave_25 : decode cX18_leave 25 = .ok (.getfield 369, 3) := by decide +kernel
theorem dX18_leave_28 : decode cX18_leave 28 = .ok (.if_icmp .ge 16, 3) := by decide +kernel
theorem dX18_leave_31 : decode cX18_leave 31 = .ok (.aload_n 0, 1) := by decide +kernel
theorem dX18_leave_32 : decode cX18_leave 32 = .ok (.getfield 181, 3) := by decide +kernel
theorem dX18_leave_35 : decode cX18_leave 35 = .ok (.iload_n 1, 1) := by decide +kernel
theorem dX18_leave_36 : decode cX18_leave 36 = .ok (.iconst 0, 1) := by decide +kernel
theorem dX18_leave_37 : decode cX18_leave 37 = .ok (.bastore, 1) := by decide +kernel
theorem dX18_leave_38 : decode cX18_leave 38 = .ok (.iinc 1 1, 3) := by decide +kernel
theorem dX18_leave_41 : decode cX18_leave 41 = .ok (.goto (-18), 3) := by decide +kernel
theorem dX18_leave_44 : decode cX18_leave 44 = .ok (.aload_n 0, 1) := by decide +kernel
theorem dX18_leave_45 : decode cX18_leave 45 = .ok (.invokevirtual 666, 3) := by decide +kernel
theorem dX18_leave_48 : decode cX18_leave 48 = .ok (.istore_n 1, 1) := by decide +kernel
theorem dX18_leave_49 : decode cX18_leave 49 = .ok (.iload_n 1, 1) := by decide +kernel
theorem dX18_leave_50 : decode cX18_leave 50 = .ok (.ifCond .lt 23, 3) := by decide +kernel
theorem dX18_leave_53 : decode cX18_leave 53 = .ok (.aload_n 0, 1) := by decide +kernel
theorem dX18_leave_54 : decode cX18_leave 54 = .ok (.getfield 181, 3) := by decide +kernel
theorem dX18_leave_57 : decode cX18_leave 57 = .ok (.iload_n 1, 1) := by decide +kernel
theorem dX18_leave_58 : decode cX18_leave 58 = .ok (.iconst 1, 1) := by decide +kernel
theorem dX18_leave_59 : decode cX18_leave 59 = .ok (.bastore, 1) := by decide +kernel
theorem dX18_leave_60 : decode cX18_leave 60 = .ok (.aload_n 0, 1) := by decide +kernel
theorem dX18_leave_61 : decode cX18_leave 61 = .ok (.iload_n 1, 1) := by decide +kernel
theorem dX18_leave_62 : decode cX18_leave 62 = .ok (.invokevirtual 669, 3) := by decide +kernel
theorem dX18_leave_65 : decode cX18_leave 65 = .ok (.aload_n 0, 1) := by decide +kernel
theorem dX18_leave_66 : decode cX18_leave 66 = .ok (.invokevirtual 666, 3) := by decide +kernel
theorem dX18_leave_69 : decode cX18_leave 69 = .ok (.istore_n 1, 1) := by decide +kernel
theorem dX18_leave_70 : decode cX18_leave 70 = .ok (.goto (-21), 3) := by decide +kernel
theorem dX18_leave_73 : decode cX18_leave 73 = .ok (.return_, 1) := by decide +kernel
theorem dX18_line__0 : decode cX18_line_ 0 = .ok (.iconst 0, 1) := by decide +kernel
theorem dX18_line__1 : decode cX18_line_ 1 = .ok (.istore_n 1, 1) := by decide +kernel
theorem dX18_line__2 : decode cX18_line_ 2 = .ok (.iload_n 1, 1) := by decide +kernel
theorem dX18_line__3 : decode cX18_line_ 3 = .ok (.bipush 30, 2) := by decide +kernel
theorem dX18_line__5 : decode cX18_line_ 5 = .ok (.if_icmp .ge 107, 3) := by decide +kernel
theorem dX18_line__8 : decode cX18_line_ 8 = .ok (.aload_n 0, 1) := by decide +kernel
theorem dX18_line__9 : decode cX18_line_ 9 = .ok (.getfield 42, 3) := by decide +kernel
theorem dX18_line__12 : decode cX18_line_ 12 = .ok (.getfield 581, 3) := by decide +kernel
theorem dX18_line__15 : decode cX18_line_ 15 = .ok (.iconst 1, 1) := by decide +kernel
theorem dX18_line__16 : decode cX18_line_ 16 = .ok (.iaload, 1) := by decide +kernel
theorem dX18_line__17 : decode cX18_line_ 17 = .ok (.istore_n 2, 1) := by decide +kernel
theorem dX18_line__18 : decode cX18_line_ 18 = .ok (.aload_n 0, 1) := by decide +kernel
theorem dX18_line__19 : decode cX18_line_ 19 = .ok (.getfield 42, 3) := by decide +kernel
theorem dX18_line__22 : decode cX18_line_ 22 = .ok (.invokevirtual 673, 3) := by decide +kernel
theorem dX18_line__25 : decode cX18_line_ 25 = .ok (.sipush 256, 3) := by decide +kernel
theorem dX18_line__28 : decode cX18_line_ 28 = .ok (.aload_n 0, 1) := by decide +kernel
theorem dX18_line__29 : decode cX18_line_ 29 = .ok (.getfield 42, 3) := by decide +kernel
theorem dX18_line__32 : decode cX18_line_ 32 = .ok (.getfield 588, 3) := by decide +kernel
theorem dX18_line__35 : decode cX18_line_ 35 = .ok (.iconst 3, 1) := by decide +kernel
theorem dX18_line__36 : decode cX18_line_ 36 = .ok (.iaload, 1) := by decide +kernel
theorem dX18_line__37 : decode cX18_line_ 37 = .ok (.imul, 1) := by decide +kernel
theorem dX18_line__38 : decode cX18_line_ 38 = .ok (.aload_n 0, 1) := by decide +kernel
theorem dX18_line__39 : decode cX18_line_ 39 = .ok (.getfield 42, 3) := by decide +kernel
theorem dX18_line__42 : decode cX18_line_ 42 = .ok (.getfield 588, 3) := by decide +kernel
theorem dX18_line__45 : decode cX18_line_ 45 = .ok (.iconst 4, 1) := by decide +kernel
theorem dX18_line__46 : decode cX18_line_ 46 = .ok (.iaload, 1) := by decide +kernel
theorem dX18_line__47 : decode cX18_line_ 47 = .ok (.iadd, 1) := by decide +kernel
theorem dX18_line__48 : decode cX18_line_ 48 = .ok (.istore_n 3, 1) := by decide +kernel
theorem dX18_line__49 : decode cX18_line_ 49 = .ok (.aload_n 0, 1) := by decide +kernel
theorem dX18_line__50 : decode cX18_line_ 50 = .ok (.getfield 42, 3) := by decide +kernel
theorem dX18_line__53 : decode cX18_line_ 53 = .ok (.getfield 581, 3) := by decide +kernel
theorem dX18_line__56 : decode cX18_line_ 56 = .ok (.iconst 1, 1) := by decide +kernel
theorem dX18_line__57 : decode cX18_line_ 57 = .ok (.iaload, 1) := by decide +kernel
theorem dX18_line__58 : decode cX18_line_ 58 = .ok (.iload_n 2, 1) := by decide +kernel
theorem dX18_line__59 : decode cX18_line_ 59 = .ok (.if_icmp .le 47, 3) := by decide +kernel
theorem dX18_line__106 : decode cX18_line_ 106 = .ok (.iinc 1 1, 3) := by decide +kernel
theorem dX18_line__109 : decode cX18_line_ 109 = .ok (.goto (-107), 3) := by decide +kernel
theorem dX18_line__62 : decode cX18_line_ 62 = .ok (.aload_n 0, 1) := by decide +kernel
theorem dX18_line__63 : decode cX18_line_ 63 = .ok (.getfield 42, 3) := by decide +kernel
theorem dX18_line__66 : decode cX18_line_ 66 = .ok (.getfield 588, 3) := by decide +kernel
theorem dX18_line__69 : decode cX18_line_ 69 = .ok (.iconst 5, 1) := by decide +kernel
theorem dX18_line__70 : decode cX18_line_ 70 = .ok (.iaload, 1) := by decide +kernel
theorem dX18_line__71 : decode cX18_line_ 71 = .ok (.bipush 127, 2) := by decide +kernel
theorem dX18_line__73 : decode cX18_line_ 73 = .ok (.if_icmp .le 33, 3) := by decide +kernel
theorem dX18_line__76 : decode cX18_line_ 76 = .ok (.iload_n 3, 1) := by decide +kernel
theorem dX18_line__77 : decode cX18_line_ 77 = .ok (.iconst 3, 1) := by decide +kernel
theorem dX18_line__78 : decode cX18_line_ 78 = .ok (.if_icmp .le 28, 3) := by decide +kernel
theorem dX18_line__81 : decode cX18_line_ 81 = .ok (.iload_n 3, 1) := by decide +kernel
theorem dX18_line__82 : decode cX18_line_ 82 = .ok (.bipush 10, 2) := by decide +kernel
theorem dX18_line__84 : decode cX18_line_ 84 = .ok (.if_icmp .ge 22, 3) := by decide +kernel
theorem dX18_line__87 : decode cX18_line_ 87 = .ok (.aload_n 0, 1) := by decide +kernel
theorem dX18_line__88 : decode cX18_line_ 88 = .ok (.getfield 35, 3) := by decide +kernel
theorem dX18_line__91 : decode cX18_line_ 91 = .ok (.getfield 474, 3) := by decide +kernel
theorem dX18_line__94 : decode cX18_line_ 94 = .ok (.iload_n 3, 1) := by decide +kernel
theorem dX18_line__95 : decode cX18_line_ 95 = .ok (.aload_n 0, 1) := by decide +kernel
theorem dX18_line__96 : decode cX18_line_ 96 = .ok (.getfield 42, 3) := by decide +kernel
theorem dX18_line__99 : decode cX18_line_ 99 = .ok (.getfield 588, 3) := by decide +kernel
theorem dX18_line__102 : decode cX18_line_ 102 = .ok (.bipush 6, 2) := by decide +kernel
theorem dX18_line__104 : decode cX18_line_ 104 = .ok (.iaload, 1) := by decide +kernel
theorem dX18_line__105 : decode cX18_line_ 105 = .ok (.iastore, 1) := by decide +kernel
theorem dX18_line__112 : decode cX18_line_ 112 = .ok (.return_, 1) := by decide +kernel
theorem dX18_second_0 : decode cX18_second 0 = .ok (.aload_n 0, 1) := by decide +kernel
theorem dX18_second_1 : decode cX18_second 1 = .ok (.dup, 1) := by decide +kernel
theorem dX18_second_2 : decode cX18_second 2 = .ok (.getfield 401, 3) := by decide +kernel
theorem dX18_second_5 : decode cX18_second 5 = .ok (.iconst 1, 1) := by decide +kernel
theorem dX18_second_6 : decode cX18_second 6 = .ok (.iadd, 1) := by decide +kernel
theorem dX18_second_7 : decode cX18_second 7 = .ok (.putfield 401, 3) := by decide +kernel
theorem dX18_second_10 : decode cX18_second 10 = .ok (.aload_n 0, 1) := by decide +kernel
theorem dX18_second_11 : decode cX18_second 11 = .ok (.getfield 28, 3) := by decide +kernel
theorem dX18_second_14 : decode cX18_second 14 = .ok (.aload_n 0, 1) := by decide +kernel
theorem dX18_second_15 : decode cX18_second 15 = .ok (.getfield 401, 3) := by decide +kernel
theorem dX18_second_18 : decode cX18_second 18 = .ok (.putfield 676, 3) := by decide +kernel
theorem dX18_second_21 : decode cX18_second 21 = .ok (.aload_n 0, 1) := by decide +kernel
theorem dX18_second_22 : decode cX18_second 22 = .ok (.getfield 49, 3) := by decide +kernel
theorem dX18_second_25 : decode cX18_second 25 = .ok (.aload_n 0, 1) := by decide +kernel
theorem dX18_second_26 : decode cX18_second 26 = .ok (.getfield 401, 3) := by decide +kernel
theorem dX18_second_29 : decode cX18_second 29 = .ok (.putfield 679, 3) := by decide +kernel
theorem dX18_second_32 : decode cX18_second 32 = .ok (.aload_n 0, 1) := by decide +kernel
theorem dX18_second_33 : decode cX18_second 33 = .ok (.getfield 401, 3) := by decide +kernel
theorem dX18_second_36 : decode cX18_second 36 = .ok (.bipush 10, 2) := by decide +kernel
theorem dX18_second_38 : decode cX18_second 38 = .ok (.irem, 1) := by decide +kernel
theorem dX18_second_39 : decode cX18_second 39 = .ok (.ifCond .ne 7, 3) := by decide +kernel
theorem dX18_second_46 : decode cX18_second 46 = .ok (.aload_n 0, 1) := by decide +kernel
theorem dX18_second_47 : decode cX18_second 47 = .ok (.invokevirtual 683, 3) := by decide +kernel
theorem dX18_second_50 : decode cX18_second 50 = .ok (.aload_n 0, 1) := by decide +kernel
theorem dX18_second_51 : decode cX18_second 51 = .ok (.getfield 28, 3) := by decide +kernel
theorem dX18_second_54 : decode cX18_second 54 = .ok (.iconst 0, 1) := by decide +kernel
theorem dX18_second_55 : decode cX18_second 55 = .ok (.invokevirtual 476, 3) := by decide +kernel
theorem dX18_second_58 : decode cX18_second 58 = .ok (.istore_n 1, 1) := by decide +kernel
theorem dX18_second_59 : decode cX18_second 59 = .ok (.iconst 1, 1) := by decide +kernel
theorem dX18_second_60 : decode cX18_second 60 = .ok (.istore_n 2, 1) := by decide +kernel
theorem dX18_second_61 : decode cX18_second 61 = .ok (.iload_n 1, 1) := by decide +kernel
theorem dX18_second_62 : decode cX18_second 62 = .ok (.ifCond .lt 37, 3) := by decide +kernel
theorem dX18_second_65 : decode cX18_second 65 = .ok (.aload_n 0, 1) := by decide +kernel
theorem dX18_second_66 : decode cX18_second 66 = .ok (.getfield 28, 3) := by decide +kernel
theorem dX18_second_69 : decode cX18_second 69 = .ok (.iload_n 1, 1) := by decide +kernel
theorem dX18_second_70 : decode cX18_second 70 = .ok (.invokevirtual 686, 3) := by decide +kernel
theorem dX18_second_73 : decode cX18_second 73 = .ok (.istore_n 3, 1) := by decide +kernel
theorem dX18_second_74 : decode cX18_second 74 = .ok (.iload_n 3, 1) := by decide +kernel
theorem dX18_second_75 : decode cX18_second 75 = .ok (.ifCond .lt 9, 3) := by decide +kernel
theorem dX18_second_84 : decode cX18_second 84 = .ok (.aload_n 0, 1) := by decide +kernel
theorem dX18_second_85 : decode cX18_second 85 = .ok (.getfield 28, 3) := by decide +kernel
theorem dX18_second_88 : decode cX18_second 88 = .ok (.iload_n 2, 1) := by decide +kernel
theorem dX18_second_89 : decode cX18_second 89 = .ok (.invokevirtual 476, 3) := by decide +kernel
theorem dX18_second_92 : decode cX18_second 92 = .ok (.istore_n 1, 1) := by decide +kernel
theorem dX18_second_93 : decode cX18_second 93 = .ok (.iinc 2 1, 3) := by decide +kernel
theorem dX18_second_96 : decode cX18_second 96 = .ok (.goto (-35), 3) := by decide +kernel
theorem dX18_second_78 : decode cX18_second 78 = .ok (.aload_n 0, 1) := by decide +kernel
theorem dX18_second_79 : decode cX18_second 79 = .ok (.iload_n 1, 1) := by decide +kernel
theorem dX18_second_80 : decode cX18_second 80 = .ok (.iload_n 3, 1) := by decide +kernel
theorem dX18_second_81 : decode cX18_second 81 = .ok (.invokevirtual 482, 3) := by decide +kernel
theorem dX18_second_99 : decode cX18_second 99 = .ok (.aload_n 0, 1) := by decide +kernel
theorem dX18_second_100 : decode cX18_second 100 = .ok (.getfield 35, 3) := by decide +kernel
theorem dX18_second_103 : decode cX18_second 103 = .ok (.getfield 474, 3) := by decide +kernel
theorem dX18_second_106 : decode cX18_second 106 = .ok (.iconst 0, 1) := by decide +kernel
theorem dX18_second_107 : decode cX18_second 107 = .ok (.aload_n 0, 1) := by decide +kernel
theorem dX18_second_108 : decode cX18_second 108 = .ok (.invokevirtual 689, 3) := by decide +kernel
theorem dX18_second_111 : decode cX18_second 111 = .ok (.iastore, 1) := by decide +kernel
theorem dX18_second_112 : decode cX18_second 112 = .ok (.aload_n 0, 1) := by decide +kernel
theorem dX18_second_113 : decode cX18_second 113 = .ok (.getfield 35, 3) := by decide +kernel
theorem dX18_second_116 : decode cX18_second 116 = .ok (.getfield 474, 3) := by decide +kernel
theorem dX18_second_119 : decode cX18_second 119 = .ok (.iconst 1, 1) := by decide +kernel
theorem dX18_second_120 : decode cX18_second 120 = .ok (.aload_n 0, 1) := by decide +kernel
theorem dX18_second_121 : decode cX18_second 121 = .ok (.getfield 28, 3) := by decide +kernel
theorem dX18_second_124 : decode cX18_second 124 = .ok (.iconst (-1), 1) := by decide +kernel
theorem dX18_second_125 : decode cX18_second 125 = .ok (.invokevirtual 404, 3) := by decide +kernel
theorem dX18_second_128 : decode cX18_second 128 = .ok (.iastore, 1) := by decide +kernel
theorem dX18_second_129 : decode cX18_second 129 = .ok (.aload_n 0, 1) := by decide +kernel
theorem dX18_second_130 : decode cX18_second 130 = .ok (.getfield 35, 3) := by decide +kernel
theorem dX18_second_133 : decode cX18_second 133 = .ok (.getfield 474, 3) := by decide +kernel
theorem dX18_second_136 : decode cX18_second 136 = .ok (.iconst 2, 1) := by decide +kernel
theorem dX18_second_137 : decode cX18_second 137 = .ok (.aload_n 0, 1) := by decide +kernel
theorem dX18_second_138 : decode cX18_second 138 = .ok (.iconst (-1), 1) := by decide +kernel
theorem dX18_second_139 : decode cX18_second 139 = .ok (.invokevirtual 657, 3) := by decide +kernel
theorem dX18_second_142 : decode cX18_second 142 = .ok (.iastore, 1) := by decide +kernel
theorem dX18_second_143 : decode cX18_second 143 = .ok (.aload_n 0, 1) := by decide +kernel
theorem dX18_second_144 : decode cX18_second 144 = .ok (.getfield 35, 3) := by decide +kernel
theorem dX18_second_147 : decode cX18_second 147 = .ok (.getfield 474, 3) := by decide +kernel
theorem dX18_second_150 : decode cX18_second 150 = .ok (.iconst 3, 1) := by decide +kernel
theorem dX18_second_151 : decode cX18_second 151 = .ok (.aload_n 0, 1) := by decide +kernel
theorem dX18_second_152 : decode cX18_second 152 = .ok (.getfield 49, 3) := by decide +kernel
theorem dX18_second_155 : decode cX18_second 155 = .ok (.invokevirtual 611, 3) := by decide +kernel
theorem dX18_second_158 : decode cX18_second 158 = .ok (.iastore, 1) := by decide +kernel
theorem dX18_second_159 : decode cX18_second 159 = .ok (.aload_n 0, 1) := by decide +kernel
theorem dX18_second_160 : decode cX18_second 160 = .ok (.getfield 35, 3) := by decide +kernel
theorem dX18_second_163 : decode cX18_second 163 = .ok (.aload_n 0, 1) := by decide +kernel
theorem dX18_second_164 : decode cX18_second 164 = .ok (.getfield 401, 3) := by decide +kernel
theorem dX18_second_167 : decode cX18_second 167 = .ok (.bipush 60, 2) := by decide +kernel
theorem dX18_second_169 : decode cX18_second 169 = .ok (.idiv, 1) := by decide +kernel
theorem dX18_second_170 : decode cX18_second 170 = .ok (.putfield 692, 3) := by decide +kernel
theorem dX18_second_173 : decode cX18_second 173 = .ok (.aload_n 0, 1) := by decide +kernel
theorem dX18_second_174 : decode cX18_second 174 = .ok (.getfield 35, 3) := by decide +kernel
theorem dX18_second_177 : decode cX18_second 177 = .ok (.invokevirtual 695, 3) := by decide +kernel
theorem dX18_second_180 : decode cX18_second 180 = .ok (.aload_n 0, 1) := by decide +kernel
theorem dX18_second_181 : decode cX18_second 181 = .ok (.invokevirtual 698, 3) := by decide +kernel
theorem dX18_second_184 : decode cX18_second 184 = .ok (.iconst 0, 1) := by decide +kernel
theorem dX18_second_185 : decode cX18_second 185 = .ok (.istore_n 2, 1) := by decide +kernel
theorem dX18_second_186 : decode cX18_second 186 = .ok (.iload_n 2, 1) := by decide +kernel
theorem dX18_second_187 : decode cX18_second 187 = .ok (.aload_n 0, 1) := by decide +kernel
theorem dX18_second_188 : decode cX18_second 188 = .ok (.getfield 369, 3) := by decide +kernel
theorem dX18_second_191 : decode cX18_second 191 = .ok (.if_icmp .ge 65, 3) := by decide +kernel
theorem dX18_second_194 : decode cX18_second 194 = .ok (.aload_n 0, 1) := by decide +kernel
theorem dX18_second_195 : decode cX18_second 195 = .ok (.getfield 106, 3) := by decide +kernel
theorem dX18_second_198 : decode cX18_second 198 = .ok (.iload_n 2, 1) := by decide +kernel
theorem dX18_second_199 : decode cX18_second 199 = .ok (.iaload, 1) := by decide +kernel
theorem dX18_second_200 : decode cX18_second 200 = .ok (.aload_n 0, 1) := by decide +kernel
theorem dX18_second_201 : decode cX18_second 201 = .ok (.getfield 338, 3) := by decide +kernel
theorem dX18_second_204 : decode cX18_second 204 = .ok (.if_icmp .ge 46, 3) := by decide +kernel
theorem dX18_second_250 : decode cX18_second 250 = .ok (.iinc 2 1, 3) := by decide +kernel
theorem dX18_second_253 : decode cX18_second 253 = .ok (.goto (-67), 3) := by decide +kernel
theorem dX18_second_207 : decode cX18_second 207 = .ok (.aload_n 0, 1) := by decide +kernel
theorem dX18_second_208 : decode cX18_second 208 = .ok (.getfield 115, 3) := by decide +kernel
theorem dX18_second_211 : decode cX18_second 211 = .ok (.iload_n 2, 1) := by decide +kernel
theorem dX18_second_212 : decode cX18_second 212 = .ok (.iaload, 1) := by decide +kernel
theorem dX18_second_213 : decode cX18_second 213 = .ok (.ifCond .ge 37, 3) := by decide +kernel
theorem dX18_second_216 : decode cX18_second 216 = .ok (.aload_n 0, 1) := by decide +kernel
theorem dX18_second_217 : decode cX18_second 217 = .ok (.getfield 166, 3) := by decide +kernel
theorem dX18_second_220 : decode cX18_second 220 = .ok (.bipush 24, 2) := by decide +kernel
theorem dX18_second_222 : decode cX18_second 222 = .ok (.aload_n 0, 1) := by decide +kernel
theorem dX18_second_223 : decode cX18_second 223 = .ok (.getfield 112, 3) := by decide +kernel
theorem dX18_second_226 : decode cX18_second 226 = .ok (.iload_n 2, 1) := by decide +kernel
theorem dX18_second_227 : decode cX18_second 227 = .ok (.iaload, 1) := by decide +kernel
theorem dX18_second_228 : decode cX18_second 228 = .ok (.imul, 1) := by decide +kernel
theorem dX18_second_229 : decode cX18_second 229 = .ok (.aload_n 0, 1) := by decide +kernel
theorem dX18_second_230 : decode cX18_second 230 = .ok (.getfield 109, 3) := by decide +kernel
theorem dX18_second_233 : decode cX18_second 233 = .ok (.iload_n 2, 1) := by decide +kernel
theorem dX18_second_234 : decode cX18_second 234 = .ok (.iaload, 1) := by decide +kernel
theorem dX18_second_235 : decode cX18_second 235 = .ok (.iadd, 1) := by decide +kernel
theorem dX18_second_236 : decode cX18_second 236 = .ok (.baload, 1) := by decide +kernel
theorem dX18_second_237 : decode cX18_second 237 = .ok (.ifCond .eq 13, 3) := by decide +kernel
theorem dX18_second_240 : decode cX18_second 240 = .ok (.aload_n 0, 1) := by decide +kernel
theorem dX18_second_241 : decode cX18_second 241 = .ok (.getfield 115, 3) := by decide +kernel
theorem dX18_second_244 : decode cX18_second 244 = .ok (.iload_n 2, 1) := by decide +kernel
theorem dX18_second_245 : decode cX18_second 245 = .ok (.aload_n 0, 1) := by decide +kernel
theorem dX18_second_246 : decode cX18_second 246 = .ok (.getfield 401, 3) := by decide +kernel
theorem dX18_second_249 : decode cX18_second 249 = .ok (.iastore, 1) := by decide +kernel
theorem dX18_second_256 : decode cX18_second 256 = .ok (.aload_n 0, 1) := by decide +kernel
theorem dX18_second_257 : decode cX18_second 257 = .ok (.getfield 28, 3) := by decide +kernel
theorem dX18_second_260 : decode cX18_second 260 = .ok (.iconst 4, 1) := by decide +kernel
theorem dX18_second_261 : decode cX18_second 261 = .ok (.invokevirtual 404, 3) := by decide +kernel
theorem dX18_second_264 : decode cX18_second 264 = .ok (.ifCond .le 7, 3) := by decide +kernel
theorem dX18_second_271 : decode cX18_second 271 = .ok (.return_, 1) := by decide +kernel
theorem dX18_second_267 : decode cX18_second 267 = .ok (.aload_n 0, 1) := by decide +kernel
theorem dX18_second_268 : decode cX18_second 268 = .ok (.invokevirtual 700, 3) := by decide +kernel
theorem dX18_second_42 : decode cX18_second 42 = .ok (.aload_n 0, 1) := by decide +kernel
theorem dX18_second_43 : decode cX18_second 43 = .ok (.invokevirtual 680, 3) := by decide +kernel
theorem dX18_pass_0 : decode cX18_pass 0 = .ok (.aload_n 0, 1) := by decide +kernel
theorem dX18_pass_1 : decode cX18_pass 1 = .ok (.iload_n 1, 1) := by decide +kernel
theorem dX18_pass_2 : decode cX18_pass 2 = .ok (.iconst 1, 1) := by decide +kernel
theorem dX18_pass_3 : decode cX18_pass 3 = .ok (.if_icmp .lt 13, 3) := by decide +kernel
theorem dX18_pass_16 : decode cX18_pass 16 = .ok (.iconst 0, 1) := by decide +kernel
theorem dX18_pass_17 : decode cX18_pass 17 = .ok (.aload_n 0, 1) := by decide +kernel
theorem dX18_pass_18 : decode cX18_pass 18 = .ok (.getfield 192, 3) := by decide +kernel
theorem dX18_pass_21 : decode cX18_pass 21 = .ok (.ifCond .eq 19, 3) := by decide +kernel
theorem dX18_pass_40 : decode cX18_pass 40 = .ok (.iconst 0, 1) := by decide +kernel
theorem dX18_pass_41 : decode cX18_pass 41 = .ok (.invokevirtual 199, 3) := by decide +kernel
theorem dX18_pass_44 : decode cX18_pass 44 = .ok (.ifCond .ne 5, 3) := by decide +kernel
theorem dX18_pass_49 : decode cX18_pass 49 = .ok (.iconst 0, 1) := by decide +kernel
theorem dX18_pass_50 : decode cX18_pass 50 = .ok (.istore_n 2, 1) := by decide +kernel
theorem dX18_pass_51 : decode cX18_pass 51 = .ok (.iload_n 2, 1) := by decide +kernel
theorem dX18_pass_52 : decode cX18_pass 52 = .ok (.iload_n 1, 1) := by decide +kernel
theorem dX18_pass_53 : decode cX18_pass 53 = .ok (.if_icmp .ge 13, 3) := by decide +kernel
theorem dX18_pass_56 : decode cX18_pass 56 = .ok (.aload_n 0, 1) := by decide +kernel
theorem dX18_pass_57 : decode cX18_pass 57 = .ok (.invokevirtual 703, 3) := by decide +kernel
theorem dX18_pass_60 : decode cX18_pass 60 = .ok (.iinc 2 1, 3) := by decide +kernel
theorem dX18_pass_63 : decode cX18_pass 63 = .ok (.goto (-12), 3) := by decide +kernel
theorem dX18_pass_66 : decode cX18_pass 66 = .ok (.aload_n 0, 1) := by decide +kernel
theorem dX18_pass_67 : decode cX18_pass 67 = .ok (.getfield 401, 3) := by decide +kernel
theorem dX18_pass_70 : decode cX18_pass 70 = .ok (.ireturn, 1) := by decide +kernel
theorem dX18_pass_47 : decode cX18_pass 47 = .ok (.iconst 0, 1) := by decide +kernel
theorem dX18_pass_48 : decode cX18_pass 48 = .ok (.ireturn, 1) := by decide +kernel
theorem dX18_pass_24 : decode cX18_pass 24 = .ok (.aload_n 0, 1) := by decide +kernel
theorem dX18_pass_25 : decode cX18_pass 25 = .ok (.getfield 401, 3) := by decide +kernel
theorem dX18_pass_28 : decode cX18_pass 28 = .ok (.iload_n 1, 1) := by decide +kernel
theorem dX18_pass_29 : decode cX18_pass 29 = .ok (.iadd, 1) := by decide +kernel
theorem dX18_pass_30 : decode cX18_pass 30 = .ok (.sipush 6000, 3) := by decide +kernel
theorem dX18_pass_33 : decode cX18_pass 33 = .ok (.if_icmp .gt 7, 3) := by decide +kernel
theorem dX18_pass_36 : decode cX18_pass 36 = .ok (.iconst 1, 1) := by decide +kernel
theorem dX18_pass_37 : decode cX18_pass 37 = .ok (.goto 4, 3) := by decide +kernel
theorem dX18_pass_6 : decode cX18_pass 6 = .ok (.iload_n 1, 1) := by decide +kernel
theorem dX18_pass_7 : decode cX18_pass 7 = .ok (.bipush 60, 2) := by decide +kernel
theorem dX18_pass_9 : decode cX18_pass 9 = .ok (.if_icmp .gt 7, 3) := by decide +kernel
theorem dX18_pass_12 : decode cX18_pass 12 = .ok (.iconst 1, 1) := by decide +kernel
theorem dX18_pass_13 : decode cX18_pass 13 = .ok (.goto 4, 3) := by decide +kernel
theorem dX18_told_0 : decode cX18_told 0 = .ok (.aload_n 0, 1) := by decide +kernel
theorem dX18_told_1 : decode cX18_told 1 = .ok (.iload_n 1, 1) := by decide +kernel
theorem dX18_told_2 : decode cX18_told 2 = .ok (.bipush 9, 2) := by decide +kernel
theorem dX18_told_4 : decode cX18_told 4 = .ok (.invokestatic 207, 3) := by decide +kernel
theorem dX18_told_7 : decode cX18_told 7 = .ok (.aload_n 0, 1) := by decide +kernel
theorem dX18_told_8 : decode cX18_told 8 = .ok (.getfield 192, 3) := by decide +kernel
theorem dX18_told_11 : decode cX18_told 11 = .ok (.invokevirtual 199, 3) := by decide +kernel
theorem dX18_told_14 : decode cX18_told 14 = .ok (.ifCond .ne 5, 3) := by decide +kernel
theorem dX18_told_19 : decode cX18_told 19 = .ok (.iload_n 1, 1) := by decide +kernel
theorem dX18_told_20 : decode cX18_told 20 = .ok (.tableswitch 128 0 7 #[48, 53, 58, 67, 73, 81, 94, 111], 48) := by decide +kernel
theorem dX18_told_148 : decode cX18_told 148 = .ok (.aload_n 0, 1) := by decide +kernel
theorem dX18_told_149 : decode cX18_told 149 = .ok (.getfield 401, 3) := by decide +kernel
theorem dX18_told_152 : decode cX18_told 152 = .ok (.ireturn, 1) := by decide +kernel
theorem dX18_told_68 : decode cX18_told 68 = .ok (.aload_n 0, 1) := by decide +kernel
theorem dX18_told_69 : decode cX18_told 69 = .ok (.getfield 351, 3) := by decide +kernel
theorem dX18_told_72 : decode cX18_told 72 = .ok (.ireturn, 1) := by decide +kernel
theorem dX18_told_73 : decode cX18_told 73 = .ok (.aload_n 0, 1) := by decide +kernel
theorem dX18_told_74 : decode cX18_told 74 = .ok (.invokevirtual 689, 3) := by decide +kernel
theorem dX18_told_77 : decode cX18_told 77 = .ok (.ireturn, 1) := by decide +kernel
theorem dX18_told_78 : decode cX18_told 78 = .ok (.aload_n 0, 1) := by decide +kernel
theorem dX18_told_79 : decode cX18_told 79 = .ok (.getfield 28, 3) := by decide +kernel
theorem dX18_told_82 : decode cX18_told 82 = .ok (.iconst (-1), 1) := by decide +kernel
theorem dX18_told_83 : decode cX18_told 83 = .ok (.invokevirtual 404, 3) := by decide +kernel
theorem dX18_told_86 : decode cX18_told 86 = .ok (.ireturn, 1) := by decide +kernel
theorem dX18_told_87 : decode cX18_told 87 = .ok (.aload_n 0, 1) := by decide +kernel
theorem dX18_told_88 : decode cX18_told 88 = .ok (.iconst (-1), 1) := by decide +kernel
theorem dX18_told_89 : decode cX18_told 89 = .ok (.invokevirtual 657, 3) := by decide +kernel
theorem dX18_told_92 : decode cX18_told 92 = .ok (.ireturn, 1) := by decide +kernel
theorem dX18_told_93 : decode cX18_told 93 = .ok (.aload_n 0, 1) := by decide +kernel
theorem dX18_told_94 : decode cX18_told 94 = .ok (.getfield 49, 3) := by decide +kernel
theorem dX18_told_97 : decode cX18_told 97 = .ok (.invokevirtual 611, 3) := by decide +kernel
theorem dX18_told_100 : decode cX18_told 100 = .ok (.ireturn, 1) := by decide +kernel
theorem dX18_told_101 : decode cX18_told 101 = .ok (.aload_n 0, 1) := by decide +kernel
theorem dX18_told_102 : decode cX18_told 102 = .ok (.invokevirtual 414, 3) := by decide +kernel
theorem dX18_told_105 : decode cX18_told 105 = .ok (.ifCond .eq 7, 3) := by decide +kernel
theorem dX18_told_112 : decode cX18_told 112 = .ok (.iconst 0, 1) := by decide +kernel
theorem dX18_told_113 : decode cX18_told 113 = .ok (.ireturn, 1) := by decide +kernel
theorem dX18_told_108 : decode cX18_told 108 = .ok (.iconst 1, 1) := by decide +kernel
theorem dX18_told_109 : decode cX18_told 109 = .ok (.goto 4, 3) := by decide +kernel
theorem dX18_told_114 : decode cX18_told 114 = .ok (.aload_n 0, 1) := by decide +kernel
theorem dX18_told_115 : decode cX18_told 115 = .ok (.getfield 28, 3) := by decide +kernel
theorem dX18_told_118 : decode cX18_told 118 = .ok (.iconst 1, 1) := by decide +kernel
theorem dX18_told_119 : decode cX18_told 119 = .ok (.invokevirtual 404, 3) := by decide +kernel
theorem dX18_told_122 : decode cX18_told 122 = .ok (.ifCond .le 7, 3) := by decide +kernel
theorem dX18_told_129 : decode cX18_told 129 = .ok (.iconst 0, 1) := by decide +kernel
theorem dX18_told_130 : decode cX18_told 130 = .ok (.ireturn, 1) := by decide +kernel
theorem dX18_told_125 : decode cX18_told 125 = .ok (.iconst 1, 1) := by decide +kernel
theorem dX18_told_126 : decode cX18_told 126 = .ok (.goto 4, 3) := by decide +kernel
theorem dX18_told_131 : decode cX18_told 131 = .ok (.aload_n 0, 1) := by decide +kernel
theorem dX18_told_132 : decode cX18_told 132 = .ok (.getfield 28, 3) := by decide +kernel
theorem dX18_told_135 : decode cX18_told 135 = .ok (.iconst 4, 1) := by decide +kernel
theorem dX18_told_136 : decode cX18_told 136 = .ok (.invokevirtual 404, 3) := by decide +kernel
theorem dX18_told_139 : decode cX18_told 139 = .ok (.ifCond .le 7, 3) := by decide +kernel
theorem dX18_told_146 : decode cX18_told 146 = .ok (.iconst 0, 1) := by decide +kernel
theorem dX18_told_147 : decode cX18_told 147 = .ok (.ireturn, 1) := by decide +kernel
theorem dX18_told_142 : decode cX18_told 142 = .ok (.iconst 1, 1) := by decide +kernel
theorem dX18_told_143 : decode cX18_told 143 = .ok (.goto 4, 3) := by decide +kernel
theorem dX18_told_17 : decode cX18_told 17 = .ok (.iconst 0, 1) := by decide +kernel
theorem dX18_told_18 : decode cX18_told 18 = .ok (.ireturn, 1) := by decide +kernel
theorem zl_X18_666 : zm_L zk_E RX18 666 yX18_nextOne (.code yX18_nextOne cX18_nextOne 5 (some .int)) 0 ∧ Cond.instanceMethod yX18_nextOne ∈ zk_E.2.2.1 ∧ Cond.selects yX18_nextOne.cls yX18_nextOne yX18_nextOne ∈ zk_E.2.2.1 := ⟨⟨zk_b21 206 (by decide +kernel) rfl, zk_b1 13 (by decide +kernel) rfl, zk_b21 203 (by decide +kernel) rfl, by decide +kernel, by decide +kernel, by decide +kernel⟩, zk_b21 205 (by decide +kernel) rfl, zk_s19 (q := (yX18_nextOne, 60)) 15 (by decide +kernel)⟩
theorem zl_X18_669 : zm_L zk_E RX18 669 yX18_step (.code yX18_step cX18_step 9 none) 1 ∧ Cond.instanceMethod yX18_step ∈ zk_E.2.2.1 ∧ Cond.selects yX18_step.cls yX18_step yX18_step ∈ zk_E.2.2.1 := ⟨⟨zk_b21 210 (by decide +kernel) rfl, zk_b1 13 (by decide +kernel) rfl, zk_b21 207 (by decide +kernel) rfl, by decide +kernel, by decide +kernel, by decide +kernel⟩, zk_b21 209 (by decide +kernel) rfl, zk_s20 (q := (yX18_step, 60)) 0 (by decide +kernel)⟩
theorem zl_X18_673 : zm_L zk_E RX18 673 yX12_bitTime (.code yX12_bitTime cX12_bitTime 4 none) 0 ∧ Cond.instanceMethod yX12_bitTime ∈ zk_E.2.2.1 ∧ Cond.selects yX12_bitTime.cls yX12_bitTime yX12_bitTime ∈ zk_E.2.2.1 := ⟨⟨zk_b21 152 (by decide +kernel) rfl, zk_b1 18 (by decide +kernel) rfl, zk_b21 149 (by decide +kernel) rfl, by decide +kernel, by decide +kernel, by decide +kernel⟩, zk_b21 150 (by decide +kernel) rfl, zk_b21 151 (by decide +kernel) rfl⟩
theorem zt_18_2 : zm_T zk_E RX18 18 2 .int false := ⟨RX18, TX18, 60, tyX18, rfl, tyX18_ok, nmX18, rfl, rfl, rfl⟩
theorem zl_X18_676 : zm_F zk_E RX18 676 14 1 := ⟨RX14, TX14, 36, rfl, zk_i14, by decide, zk_b14 117 (by decide +kernel) rfl⟩
theorem zt_14_1 : zm_T zk_E RX14 14 1 .int false := ⟨RX14, TX14, 36, tyX14, rfl, tyX14_ok, nmX14, rfl, rfl, rfl⟩
theorem zl_X18_679 : zm_F zk_E RX18 679 13 12 := ⟨RX13, TX13, 24, rfl, zk_i13, by decide, zk_b15 205 (by decide +kernel) rfl⟩
theorem zt_13_12 : zm_T zk_E RX13 13 12 .int false := ⟨RX13, TX13, 24, tyX13, rfl, tyX13_ok, nmX13, rfl, rfl, rfl⟩
theorem zl_X18_683 : zm_L zk_E RX18 683 yX18_detect (.code yX18_detect cX18_detect 3 none) 0 ∧ Cond.instanceMethod yX18_detect ∈ zk_E.2.2.1 ∧ Cond.selects yX18_detect.cls yX18_detect yX18_detect ∈ zk_E.2.2.1 := ⟨⟨zk_b21 88 (by decide +kernel) rfl, zk_b1 13 (by decide +kernel) rfl, zk_b21 85 (by decide +kernel) rfl, by decide +kernel, by decide +kernel, by decide +kernel⟩, zk_b21 87 (by decide +kernel) rfl, zk_s18 (q := (yX18_detect, 60)) 6 (by decide +kernel)⟩
theorem zl_X18_686 : zm_L zk_E RX18 686 yX14_go (.code yX14_go cX14_go 3 (some .int)) 1 ∧ Cond.instanceMethod yX14_go ∈ zk_E.2.2.1 ∧ Cond.selects yX14_go.cls yX14_go yX14_go ∈ zk_E.2.2.1 := ⟨⟨zk_b21 96 (by decide +kernel) rfl, zk_b1 16 (by decide +kernel) rfl, zk_b21 93 (by decide +kernel) rfl, by decide +kernel, by decide +kernel, by decide +kernel⟩, zk_b21 94 (by decide +kernel) rfl, zk_b21 95 (by decide +kernel) rfl⟩
theorem zl_X18_689 : zm_L zk_E RX18 689 yX18_inSpaces (.code yX18_inSpaces cX18_inSpaces 3 (some .int)) 0 ∧ Cond.instanceMethod yX18_inSpaces ∈ zk_E.2.2.1 ∧ Cond.selects yX18_inSpaces.cls yX18_inSpaces yX18_inSpaces ∈ zk_E.2.2.1 := ⟨⟨zk_b21 100 (by decide +kernel) rfl, zk_b1 13 (by decide +kernel) rfl, zk_b21 97 (by decide +kernel) rfl, by decide +kernel, by decide +kernel, by decide +kernel⟩, zk_b21 99 (by decide +kernel) rfl, zk_s18 (q := (yX18_inSpaces, 60)) 8 (by decide +kernel)⟩
theorem zl_X18_692 : zm_F zk_E RX18 692 17 14 := ⟨RX17, TX17, 19, rfl, zk_i17, by decide, zk_b15 30 (by decide +kernel) rfl⟩
theorem zt_17_14 : zm_T zk_E RX17 17 14 .int false := ⟨RX17, TX17, 19, tyX17, rfl, tyX17_ok, nmX17, rfl, rfl, rfl⟩
theorem zl_X18_695 : zm_L zk_E RX18 695 yX17_tick (.code yX17_tick cX17_tick 2 none) 0 ∧ Cond.instanceMethod yX17_tick ∈ zk_E.2.2.1 ∧ Cond.selects yX17_tick.cls yX17_tick yX17_tick ∈ zk_E.2.2.1 := ⟨⟨zk_b21 104 (by decide +kernel) rfl, zk_b1 17 (by decide +kernel) rfl, zk_b21 101 (by decide +kernel) rfl, by decide +kernel, by decide +kernel, by decide +kernel⟩, zk_b21 102 (by decide +kernel) rfl, zk_b21 103 (by decide +kernel) rfl⟩
theorem zl_X18_698 : zm_L zk_E RX18 698 yX18_line_ (.code yX18_line_ cX18_line_ 4 none) 0 ∧ Cond.instanceMethod yX18_line_ ∈ zk_E.2.2.1 ∧ Cond.selects yX18_line_.cls yX18_line_ yX18_line_ ∈ zk_E.2.2.1 := ⟨⟨zk_b21 148 (by decide +kernel) rfl, zk_b1 13 (by decide +kernel) rfl, zk_b21 145 (by decide +kernel) rfl, by decide +kernel, by decide +kernel, by decide +kernel⟩, zk_b21 147 (by decide +kernel) rfl, zk_s19 (q := (yX18_line_, 60)) 3 (by decide +kernel)⟩
theorem zl_X18_700 : zm_L zk_E RX18 700 yX18_leave (.code yX18_leave cX18_leave 2 none) 0 ∧ Cond.instanceMethod yX18_leave ∈ zk_E.2.2.1 ∧ Cond.selects yX18_leave.cls yX18_leave yX18_leave ∈ zk_E.2.2.1 := ⟨⟨zk_b21 202 (by decide +kernel) rfl, zk_b1 13 (by decide +kernel) rfl, zk_b21 199 (by decide +kernel) rfl, by decide +kernel, by decide +kernel, by decide +kernel⟩, zk_b21 201 (by decide +kernel) rfl, zk_s19 (q := (yX18_leave, 60)) 14 (by decide +kernel)⟩
theorem zl_X18_680 : zm_L zk_E RX18 680 yX18_spread (.code yX18_spread cX18_spread 5 none) 0 ∧ Cond.instanceMethod yX18_spread ∈ zk_E.2.2.1 ∧ Cond.selects yX18_spread.cls yX18_spread yX18_spread ∈ zk_E.2.2.1 := ⟨⟨zk_b21 84 (by decide +kernel) rfl, zk_b1 13 (by decide +kernel) rfl, zk_b21 81 (by decide +kernel) rfl, by decide +kernel, by decide +kernel, by decide +kernel⟩, zk_b21 83 (by decide +kernel) rfl, zk_s18 (q := (yX18_spread, 60)) 5 (by decide +kernel)⟩
theorem zl_X18_703 : zm_L zk_E RX18 703 yX18_second (.code yX18_second cX18_second 4 none) 0 ∧ Cond.instanceMethod yX18_second ∈ zk_E.2.2.1 ∧ Cond.selects yX18_second.cls yX18_second yX18_second ∈ zk_E.2.2.1 := ⟨⟨zk_b21 80 (by decide +kernel) rfl, zk_b1 13 (by decide +kernel) rfl, zk_b21 77 (by decide +kernel) rfl, by decide +kernel, by decide +kernel, by decide +kernel⟩, zk_b21 79 (by decide +kernel) rfl, zk_s18 (q := (yX18_second, 60)) 4 (by decide +kernel)⟩
def zf_X18_leave_L2 (N : Nat) : Nat → Nat → Int32 → zm_S → Option ((Unit × zm_S) ⊕ ((Unit) × zm_S))
  | 0, _, _, _ => none
  | n + 1, a0, i1, S => if (120 : Int32) ≤ i1 then some (.inr ((), S)) else (zg_r S a0 18 58).bind (fun b1 => (zs_i S b1 i1 (0 : Int32)).bind (fun S2 => zf_X18_leave_L2 N n a0 (i1 + (1 : Int32)) S2))
set_option maxHeartbeats 4000000 in
set_option maxRecDepth 100000 in
theorem zt_X18_leave_L2 {p : Program} {l : Launch} {e : Env} {R : Room} {s : State} {m : MethodId} {args : Array Value} {below : List Frame} {meth : Method} {c : Code} {V : zm_V} {mc ms d rc rs : Nat} (hX : zm_X p R s m args meth c RX18 "leave" cX18_leave 2 zk_E V mc ms) (hr : meth.sig.returnType = none) (hR : R.frames = d ∧ R.locals = 64 * d) (hd : 5 ≤ d) {N : Nat} {res : (Unit × zm_S) ⊕ ((Unit) × zm_S)} {out : (Unit × zm_S)} (a0 : Nat) (hf : ∀ o, res = .inl o → o = out) (hk : ∀ (S' : zm_S), res = .inr ((), S') → zw p l e R s m args below meth c (vx_MQ below (zm_Qc zk_E V (zo_v out)) (zm_XC zk_E V zo_x) args s mc ms (fun q => V.2.2.2.1 ≤ q)) 2 zk_E V mc ms 21 [(0, .ref a0)] [] S' rc rs) : ∀ (n : Nat) (i1 : Int32) (S : zm_S), zf_X18_leave_L2 N n a0 i1 S = some res → zw p l e R s m args below meth c (vx_MQ below (zm_Qc zk_E V (zo_v out)) (zm_XC zk_E V zo_x) args s mc ms (fun q => V.2.2.2.1 ≤ q)) 2 zk_E V mc ms 2 [(0, .ref a0), (1, .int i1)] [] S rc rs := by
  intro n
  induction n with
  | zero => intro i1 S h; cases h
  | succ n ih =>
    intro i1 S h
    rw [zf_X18_leave_L2] at h
    refine zw_iload_n hX dX18_leave_2 rfl ?_
    refine zw_bipush (v := (120 : Int32)) hX dX18_leave_3 (by decide) ?_
    refine zw_icmp_ge (tgt := 21) hX dX18_leave_5 (by decide) (fun c5 => ?_) (fun c5 => ?_)
    · rw [if_pos c5] at h
      refine zw_sub (lv' := [(0, .ref a0)]) (List.forall_mem_cons.mpr ⟨rfl, zs_nil⟩) ?_
      exact hk  _ (Option.some.inj h).symm
    · rw [if_neg c5] at h
      refine zw_aload_n hX dX18_leave_8 rfl ?_
      obtain ⟨b1, g, h⟩ := zb_some h
      refine zw_getr hX zl_X18_178 dX18_leave_9 g ?_
      refine zw_iload_n hX dX18_leave_12 rfl ?_
      refine zw_iconst (v := (0 : Int32)) hX dX18_leave_13 (by decide) ?_
      obtain ⟨S2, g, h⟩ := zb_some h
      refine zw_si hX dX18_leave_14 g ?_
      refine zw_iinc (v := (i1 + (1 : Int32))) hX dX18_leave_15 rfl rfl (by decide) ?_
      refine zw_goto (tgt := 2) hX dX18_leave_18 (by decide) ?_
      refine zw_sub (lv' := [(0, .ref a0), (1, .int (i1 + (1 : Int32)))]) (List.forall_mem_cons.mpr ⟨rfl, (List.forall_mem_cons.mpr ⟨rfl, zs_nil⟩)⟩) ?_
      exact ih _ _ h
def zf_X18_leave_L23 (N : Nat) : Nat → Nat → Int32 → zm_S → Option ((Unit × zm_S) ⊕ ((Unit) × zm_S))
  | 0, _, _, _ => none
  | n + 1, a0, i1, S => (zg_i S a0 18 27).bind (fun v4 => if v4 ≤ i1 then some (.inr ((), S)) else (zg_r S a0 18 59).bind (fun b5 => (zs_z S b5 i1 (0 : Int32)).bind (fun S6 => zf_X18_leave_L23 N n a0 (i1 + (1 : Int32)) S6)))
set_option maxHeartbeats 4000000 in
set_option maxRecDepth 100000 in
theorem zt_X18_leave_L23 {p : Program} {l : Launch} {e : Env} {R : Room} {s : State} {m : MethodId} {args : Array Value} {below : List Frame} {meth : Method} {c : Code} {V : zm_V} {mc ms d rc rs : Nat} (hX : zm_X p R s m args meth c RX18 "leave" cX18_leave 2 zk_E V mc ms) (hr : meth.sig.returnType = none) (hR : R.frames = d ∧ R.locals = 64 * d) (hd : 5 ≤ d) {N : Nat} {res : (Unit × zm_S) ⊕ ((Unit) × zm_S)} {out : (Unit × zm_S)} (a0 : Nat) (hf : ∀ o, res = .inl o → o = out) (hk : ∀ (S' : zm_S), res = .inr ((), S') → zw p l e R s m args below meth c (vx_MQ below (zm_Qc zk_E V (zo_v out)) (zm_XC zk_E V zo_x) args s mc ms (fun q => V.2.2.2.1 ≤ q)) 2 zk_E V mc ms 44 [(0, .ref a0)] [] S' rc rs) : ∀ (n : Nat) (i1 : Int32) (S : zm_S), zf_X18_leave_L23 N n a0 i1 S = some res → zw p l e R s m args below meth c (vx_MQ below (zm_Qc zk_E V (zo_v out)) (zm_XC zk_E V zo_x) args s mc ms (fun q => V.2.2.2.1 ≤ q)) 2 zk_E V mc ms 23 [(0, .ref a0), (1, .int i1)] [] S rc rs := by
  intro n
  induction n with
  | zero => intro i1 S h; cases h
  | succ n ih =>
    intro i1 S h
    rw [zf_X18_leave_L23] at h
    refine zw_iload_n hX dX18_leave_23 rfl ?_
    refine zw_aload_n hX dX18_leave_24 rfl ?_
    obtain ⟨v4, g, h⟩ := zb_some h
    refine zw_geti hX zl_X18_369 dX18_leave_25 g ?_
    refine zw_icmp_ge (tgt := 44) hX dX18_leave_28 (by decide) (fun c28 => ?_) (fun c28 => ?_)
    · rw [if_pos c28] at h
      refine zw_sub (lv' := [(0, .ref a0)]) (List.forall_mem_cons.mpr ⟨rfl, zs_nil⟩) ?_
      exact hk  _ (Option.some.inj h).symm
    · rw [if_neg c28] at h
      refine zw_aload_n hX dX18_leave_31 rfl ?_
      obtain ⟨b5, g, h⟩ := zb_some h
      refine zw_getr hX zl_X18_181 dX18_leave_32 g ?_
      refine zw_iload_n hX dX18_leave_35 rfl ?_
      refine zw_iconst (v := (0 : Int32)) hX dX18_leave_36 (by decide) ?_
      obtain ⟨S6, g, h⟩ := zb_some h
      refine zw_sz hX dX18_leave_37 g ?_
      refine zw_iinc (v := (i1 + (1 : Int32))) hX dX18_leave_38 rfl rfl (by decide) ?_
      refine zw_goto (tgt := 23) hX dX18_leave_41 (by decide) ?_
      refine zw_sub (lv' := [(0, .ref a0), (1, .int (i1 + (1 : Int32)))]) (List.forall_mem_cons.mpr ⟨rfl, (List.forall_mem_cons.mpr ⟨rfl, zs_nil⟩)⟩) ?_
      exact ih _ _ h
def zf_X18_leave_L49 (N : Nat) : Nat → Nat → Int32 → zm_S → Option ((Unit × zm_S) ⊕ ((Unit) × zm_S))
  | 0, _, _, _ => none
  | n + 1, a0, i1, S => if i1 < 0 then some (.inr ((), S)) else (zg_r S a0 18 59).bind (fun b11 => (zs_z S b11 i1 (1 : Int32)).bind (fun S12 => (zi S12 a0 18).bind (fun _ => (zf_X18_step N a0 i1 S12).bind (fun r15 => (zi r15.2 a0 18).bind (fun _ => (zf_X18_nextOne N a0 r15.2).bind (fun r18 => zf_X18_leave_L49 N n a0 r18.1 r18.2))))))
set_option maxHeartbeats 4000000 in
set_option maxRecDepth 100000 in
theorem zt_X18_leave_L49 {p : Program} {l : Launch} {e : Env} {R : Room} {s : State} {m : MethodId} {args : Array Value} {below : List Frame} {meth : Method} {c : Code} {V : zm_V} {mc ms d rc rs : Nat} (hX : zm_X p R s m args meth c RX18 "leave" cX18_leave 2 zk_E V mc ms) (hr : meth.sig.returnType = none) (hR : R.frames = d ∧ R.locals = 64 * d) (hd : 5 ≤ d) {N : Nat} {res : (Unit × zm_S) ⊕ ((Unit) × zm_S)} {out : (Unit × zm_S)} (a0 : Nat) (hf : ∀ o, res = .inl o → o = out) (hk : ∀ (S' : zm_S), res = .inr ((), S') → zw p l e R s m args below meth c (vx_MQ below (zm_Qc zk_E V (zo_v out)) (zm_XC zk_E V zo_x) args s mc ms (fun q => V.2.2.2.1 ≤ q)) 2 zk_E V mc ms 73 [] [] S' rc rs) : ∀ (n : Nat) (i1 : Int32) (S : zm_S), zf_X18_leave_L49 N n a0 i1 S = some res → zw p l e R s m args below meth c (vx_MQ below (zm_Qc zk_E V (zo_v out)) (zm_XC zk_E V zo_x) args s mc ms (fun q => V.2.2.2.1 ≤ q)) 2 zk_E V mc ms 49 [(0, .ref a0), (1, .int i1)] [] S rc rs := by
  intro n
  induction n with
  | zero => intro i1 S h; cases h
  | succ n ih =>
    intro i1 S h
    rw [zf_X18_leave_L49] at h
    refine zw_iload_n hX dX18_leave_49 rfl ?_
    refine zw_if_lt (tgt := 73) hX dX18_leave_50 (by decide) (fun c50 => ?_) (fun c50 => ?_)
    · rw [if_pos c50] at h
      refine zw_sub (lv' := []) zs_nil ?_
      exact hk  _ (Option.some.inj h).symm
    · rw [if_neg c50] at h
      refine zw_aload_n hX dX18_leave_53 rfl ?_
      obtain ⟨b11, g, h⟩ := zb_some h
      refine zw_getr hX zl_X18_181 dX18_leave_54 g ?_
      refine zw_iload_n hX dX18_leave_57 rfl ?_
      refine zw_iconst (v := (1 : Int32)) hX dX18_leave_58 (by decide) ?_
      obtain ⟨S12, g, h⟩ := zb_some h
      refine zw_sz hX dX18_leave_59 g ?_
      refine zw_aload_n hX dX18_leave_60 rfl ?_
      refine zw_iload_n hX dX18_leave_61 rfl ?_
      obtain ⟨_, gi, h⟩ := zb_some h
      obtain ⟨r15, g, h⟩ := zb_some h
      refine zc_Vv (as := [.int i1]) hX gi (zt_X18_step (d := d - 1) (by omega) g) zl_X18_669 rfl dX18_leave_62 ⟨rfl, rfl, Nat.le_of_ble_eq_true rfl⟩ ⟨by omega, by omega⟩ ?_
      refine zw_aload_n hX dX18_leave_65 rfl ?_
      obtain ⟨_, gi, h⟩ := zb_some h
      obtain ⟨r18, g, h⟩ := zb_some h
      refine zc_Vi (as := []) hX gi (zt_X18_nextOne (d := d - 1) (by omega) g) zl_X18_666 rfl dX18_leave_66 ⟨rfl, rfl, Nat.le_of_ble_eq_true rfl⟩ ⟨by omega, by omega⟩ ?_
      refine zw_istore_n hX dX18_leave_69 (by decide) ?_
      refine zw_goto (tgt := 49) hX dX18_leave_70 (by decide) ?_
      refine zw_sub (lv' := [(0, .ref a0), (1, .int r18.1)]) (List.forall_mem_cons.mpr ⟨rfl, (List.forall_mem_cons.mpr ⟨rfl, zs_nil⟩)⟩) ?_
      exact ih _ _ h
def zf_X18_leave (N : Nat) (a0 : Nat) (S : zm_S) : Option (Unit × zm_S) := (zf_X18_leave_L2 N N a0 (0 : Int32) S).bind (fun r => match r with | .inl o => some o | .inr (_, S3) => (zf_X18_leave_L23 N N a0 (0 : Int32) S3).bind (fun r => match r with | .inl o => some o | .inr (_, S7) => (zi S7 a0 18).bind (fun _ => (zf_X18_nextOne N a0 S7).bind (fun r10 => (zf_X18_leave_L49 N N a0 r10.1 r10.2).bind (fun r => match r with | .inl o => some o | .inr (_, S19) => some ((), S19))))))
set_option maxHeartbeats 4000000 in
set_option maxRecDepth 100000 in
theorem zt_X18_leave {l : Launch} {V : zm_V} {N : Nat} {S : zm_S} {out : (Unit × zm_S)} {d : Nat} {a0 : Nat} (hd : 5 ≤ d) (h : zf_X18_leave N a0 S = some out) : zm_Met l zk_E V yX18_leave (.code yX18_leave cX18_leave 2 none) d [.ref a0] S 0 0 (zo_v out) zo_x := by
  refine zm_of (by decide +kernel) (Nat.le_of_ble_eq_true rfl) ?_
  intro p e R s m args below meth c hRR hX hr hxt
  have hR : R.frames = d ∧ R.locals = 64 * d := by rw [hRR]; exact ⟨rfl, rfl⟩
  have hX : zm_X p R s m args meth c RX18 "leave" cX18_leave 2 zk_E V 0 0 := hX
  unfold zf_X18_leave at h
  refine zw_sub (lv' := [(0, .ref a0)]) (List.forall_mem_cons.mpr ⟨rfl, zs_nil⟩) ?_
  refine zw_iconst (v := (0 : Int32)) hX dX18_leave_0 (by decide) ?_
  refine zw_istore_n hX dX18_leave_1 (by decide) ?_
  obtain ⟨r, g, h⟩ := zb_some h
  refine zw_sub (lv' := [(0, .ref a0), (1, .int (0 : Int32))]) (List.forall_mem_cons.mpr ⟨rfl, (List.forall_mem_cons.mpr ⟨rfl, zs_nil⟩)⟩) ?_
  refine zt_X18_leave_L2 hX hr hR hd (res := r) (out := out) a0 ?_ ?_ N _ _ g
  · intro o ho
    subst ho
    exact Option.some.inj h
  · intro  S3 hx
    subst hx
    try dsimp only at h
    refine zw_iconst (v := (0 : Int32)) hX dX18_leave_21 (by decide) ?_
    refine zw_istore_n hX dX18_leave_22 (by decide) ?_
    obtain ⟨r, g, h⟩ := zb_some h
    refine zw_sub (lv' := [(0, .ref a0), (1, .int (0 : Int32))]) (List.forall_mem_cons.mpr ⟨rfl, (List.forall_mem_cons.mpr ⟨rfl, zs_nil⟩)⟩) ?_
    refine zt_X18_leave_L23 hX hr hR hd (res := r) (out := out) a0 ?_ ?_ N _ _ g
    · intro o ho
      subst ho
      exact Option.some.inj h
    · intro  S7 hx
      subst hx
      try dsimp only at h
      refine zw_aload_n hX dX18_leave_44 rfl ?_
      obtain ⟨_, gi, h⟩ := zb_some h
      obtain ⟨r10, g, h⟩ := zb_some h
      refine zc_Vi (as := []) hX gi (zt_X18_nextOne (d := d - 1) (by omega) g) zl_X18_666 rfl dX18_leave_45 ⟨rfl, rfl, Nat.le_of_ble_eq_true rfl⟩ ⟨by omega, by omega⟩ ?_
      refine zw_istore_n hX dX18_leave_48 (by decide) ?_
      obtain ⟨r, g, h⟩ := zb_some h
      refine zw_sub (lv' := [(0, .ref a0), (1, .int r10.1)]) (List.forall_mem_cons.mpr ⟨rfl, (List.forall_mem_cons.mpr ⟨rfl, zs_nil⟩)⟩) ?_
      refine zt_X18_leave_L49 hX hr hR hd (res := r) (out := out) a0 ?_ ?_ N _ _ g
      · intro o ho
        subst ho
        exact Option.some.inj h
      · intro  S19 hx
        subst hx
        try dsimp only at h
        obtain rfl := Option.some.inj h
        exact zw_vret hX hr dX18_leave_73 ⟨rfl, rfl⟩
def zf_X18_line__L2 (N : Nat) : Nat → Nat → Int32 → zm_S → Option ((Unit × zm_S) ⊕ ((Unit) × zm_S))
  | 0, _, _, _ => none
  | n + 1, a0, i1, S => if (30 : Int32) ≤ i1 then some (.inr ((), S)) else (zg_r S a0 18 7).bind (fun b1 => (zg_r S b1 12 27).bind (fun b2 => (za_x S 0 b2 (1 : Int32)).bind (fun v3 => (zg_r S a0 18 7).bind (fun b4 => (zi S b4 12).bind (fun _ => (zf_X12_bitTime N b4 S).bind (fun r7 => (zg_r r7.2 a0 18 7).bind (fun b8 => (zg_r r7.2 b8 12 22).bind (fun b9 => (za_x r7.2 0 b9 (3 : Int32)).bind (fun v10 => (zg_r r7.2 a0 18 7).bind (fun b11 => (zg_r r7.2 b11 12 22).bind (fun b12 => (za_x r7.2 0 b12 (4 : Int32)).bind (fun v13 => (zg_r r7.2 a0 18 7).bind (fun b14 => (zg_r r7.2 b14 12 27).bind (fun b15 => (za_x r7.2 0 b15 (1 : Int32)).bind (fun v16 => if v16 ≤ v3 then zf_X18_line__L2 N n a0 (i1 + (1 : Int32)) r7.2 else (zg_r r7.2 a0 18 7).bind (fun b17 => (zg_r r7.2 b17 12 22).bind (fun b18 => (za_x r7.2 0 b18 (5 : Int32)).bind (fun v19 => if v19 ≤ (127 : Int32) then zf_X18_line__L2 N n a0 (i1 + (1 : Int32)) r7.2 else if (((256 : Int32) * v10) + v13) ≤ (3 : Int32) then zf_X18_line__L2 N n a0 (i1 + (1 : Int32)) r7.2 else if (10 : Int32) ≤ (((256 : Int32) * v10) + v13) then zf_X18_line__L2 N n a0 (i1 + (1 : Int32)) r7.2 else (zg_r r7.2 a0 18 6).bind (fun b20 => (zg_r r7.2 b20 17 12).bind (fun b21 => (zg_r r7.2 a0 18 7).bind (fun b22 => (zg_r r7.2 b22 12 22).bind (fun b23 => (za_x r7.2 0 b23 (6 : Int32)).bind (fun v24 => (zs_i r7.2 b21 (((256 : Int32) * v10) + v13) v24).bind (fun S25 => zf_X18_line__L2 N n a0 (i1 + (1 : Int32)) S25))))))))))))))))))))))))
set_option maxHeartbeats 4000000 in
set_option maxRecDepth 100000 in
theorem zt_X18_line__L2 {p : Program} {l : Launch} {e : Env} {R : Room} {s : State} {m : MethodId} {args : Array Value} {below : List Frame} {meth : Method} {c : Code} {V : zm_V} {mc ms d rc rs : Nat} (hX : zm_X p R s m args meth c RX18 "line" cX18_line_ 4 zk_E V mc ms) (hr : meth.sig.returnType = none) (hR : R.frames = d ∧ R.locals = 64 * d) (hd : 6 ≤ d) {N : Nat} {res : (Unit × zm_S) ⊕ ((Unit) × zm_S)} {out : (Unit × zm_S)} (a0 : Nat) (hf : ∀ o, res = .inl o → o = out) (hk : ∀ (S' : zm_S), res = .inr ((), S') → zw p l e R s m args below meth c (vx_MQ below (zm_Qc zk_E V (zo_v out)) (zm_XC zk_E V zo_x) args s mc ms (fun q => V.2.2.2.1 ≤ q)) 4 zk_E V mc ms 112 [] [] S' rc rs) : ∀ (n : Nat) (i1 : Int32) (S : zm_S), zf_X18_line__L2 N n a0 i1 S = some res → zw p l e R s m args below meth c (vx_MQ below (zm_Qc zk_E V (zo_v out)) (zm_XC zk_E V zo_x) args s mc ms (fun q => V.2.2.2.1 ≤ q)) 4 zk_E V mc ms 2 [(0, .ref a0), (1, .int i1)] [] S rc rs := by
  intro n
  induction n with
  | zero => intro i1 S h; cases h
  | succ n ih =>
    intro i1 S h
    rw [zf_X18_line__L2] at h
    refine zw_iload_n hX dX18_line__2 rfl ?_
    refine zw_bipush (v := (30 : Int32)) hX dX18_line__3 (by decide) ?_
    refine zw_icmp_ge (tgt := 112) hX dX18_line__5 (by decide) (fun c5 => ?_) (fun c5 => ?_)
    · rw [if_pos c5] at h
      refine zw_sub (lv' := []) zs_nil ?_
      exact hk  _ (Option.some.inj h).symm
    · rw [if_neg c5] at h
      refine zw_aload_n hX dX18_line__8 rfl ?_
      obtain ⟨b1, g, h⟩ := zb_some h
      refine zw_getr hX zl_X18_42 dX18_line__9 g ?_
      obtain ⟨b2, g, h⟩ := zb_some h
      refine zw_getr hX zl_X18_581 dX18_line__12 g ?_
      refine zw_iconst (v := (1 : Int32)) hX dX18_line__15 (by decide) ?_
      obtain ⟨v3, g, h⟩ := zb_some h
      refine zw_xi hX dX18_line__16 g ?_
      refine zw_istore_n hX dX18_line__17 (by decide) ?_
      refine zw_aload_n hX dX18_line__18 rfl ?_
      obtain ⟨b4, g, h⟩ := zb_some h
      refine zw_getr hX zl_X18_42 dX18_line__19 g ?_
      obtain ⟨_, gi, h⟩ := zb_some h
      obtain ⟨r7, g, h⟩ := zb_some h
      refine zc_Vv (as := []) hX gi (zt_X12_bitTime (d := d - 1) (by omega) g) zl_X18_673 rfl dX18_line__22 ⟨rfl, rfl, Nat.le_of_ble_eq_true rfl⟩ ⟨by omega, by omega⟩ ?_
      refine zw_sipush (v := (256 : Int32)) hX dX18_line__25 (by decide) ?_
      refine zw_aload_n hX dX18_line__28 rfl ?_
      obtain ⟨b8, g, h⟩ := zb_some h
      refine zw_getr hX zl_X18_42 dX18_line__29 g ?_
      obtain ⟨b9, g, h⟩ := zb_some h
      refine zw_getr hX zl_X18_588 dX18_line__32 g ?_
      refine zw_iconst (v := (3 : Int32)) hX dX18_line__35 (by decide) ?_
      obtain ⟨v10, g, h⟩ := zb_some h
      refine zw_xi hX dX18_line__36 g ?_
      refine zw_imul hX dX18_line__37 ?_
      refine zw_aload_n hX dX18_line__38 rfl ?_
      obtain ⟨b11, g, h⟩ := zb_some h
      refine zw_getr hX zl_X18_42 dX18_line__39 g ?_
      obtain ⟨b12, g, h⟩ := zb_some h
      refine zw_getr hX zl_X18_588 dX18_line__42 g ?_
      refine zw_iconst (v := (4 : Int32)) hX dX18_line__45 (by decide) ?_
      obtain ⟨v13, g, h⟩ := zb_some h
      refine zw_xi hX dX18_line__46 g ?_
      refine zw_iadd hX dX18_line__47 ?_
      refine zw_istore_n hX dX18_line__48 (by decide) ?_
      refine zw_aload_n hX dX18_line__49 rfl ?_
      obtain ⟨b14, g, h⟩ := zb_some h
      refine zw_getr hX zl_X18_42 dX18_line__50 g ?_
      obtain ⟨b15, g, h⟩ := zb_some h
      refine zw_getr hX zl_X18_581 dX18_line__53 g ?_
      refine zw_iconst (v := (1 : Int32)) hX dX18_line__56 (by decide) ?_
      obtain ⟨v16, g, h⟩ := zb_some h
      refine zw_xi hX dX18_line__57 g ?_
      refine zw_iload_n hX dX18_line__58 rfl ?_
      refine zw_icmp_le (tgt := 106) hX dX18_line__59 (by decide) (fun c59 => ?_) (fun c59 => ?_)
      · rw [if_pos c59] at h
        refine zw_iinc (v := (i1 + (1 : Int32))) hX dX18_line__106 rfl rfl (by decide) ?_
        refine zw_goto (tgt := 2) hX dX18_line__109 (by decide) ?_
        refine zw_sub (lv' := [(0, .ref a0), (1, .int (i1 + (1 : Int32)))]) (List.forall_mem_cons.mpr ⟨rfl, (List.forall_mem_cons.mpr ⟨rfl, zs_nil⟩)⟩) ?_
        exact ih _ _ h
      · rw [if_neg c59] at h
        refine zw_aload_n hX dX18_line__62 rfl ?_
        obtain ⟨b17, g, h⟩ := zb_some h
        refine zw_getr hX zl_X18_42 dX18_line__63 g ?_
        obtain ⟨b18, g, h⟩ := zb_some h
        refine zw_getr hX zl_X18_588 dX18_line__66 g ?_
        refine zw_iconst (v := (5 : Int32)) hX dX18_line__69 (by decide) ?_
        obtain ⟨v19, g, h⟩ := zb_some h
        refine zw_xi hX dX18_line__70 g ?_
        refine zw_bipush (v := (127 : Int32)) hX dX18_line__71 (by decide) ?_
        refine zw_icmp_le (tgt := 106) hX dX18_line__73 (by decide) (fun c73 => ?_) (fun c73 => ?_)
        · rw [if_pos c73] at h
          refine zw_iinc (v := (i1 + (1 : Int32))) hX dX18_line__106 rfl rfl (by decide) ?_
          refine zw_goto (tgt := 2) hX dX18_line__109 (by decide) ?_
          refine zw_sub (lv' := [(0, .ref a0), (1, .int (i1 + (1 : Int32)))]) (List.forall_mem_cons.mpr ⟨rfl, (List.forall_mem_cons.mpr ⟨rfl, zs_nil⟩)⟩) ?_
          exact ih _ _ h
        · rw [if_neg c73] at h
          refine zw_iload_n hX dX18_line__76 rfl ?_
          refine zw_iconst (v := (3 : Int32)) hX dX18_line__77 (by decide) ?_
          refine zw_icmp_le (tgt := 106) hX dX18_line__78 (by decide) (fun c78 => ?_) (fun c78 => ?_)
          · rw [if_pos c78] at h
            refine zw_iinc (v := (i1 + (1 : Int32))) hX dX18_line__106 rfl rfl (by decide) ?_
            refine zw_goto (tgt := 2) hX dX18_line__109 (by decide) ?_
            refine zw_sub (lv' := [(0, .ref a0), (1, .int (i1 + (1 : Int32)))]) (List.forall_mem_cons.mpr ⟨rfl, (List.forall_mem_cons.mpr ⟨rfl, zs_nil⟩)⟩) ?_
            exact ih _ _ h
          · rw [if_neg c78] at h
            refine zw_iload_n hX dX18_line__81 rfl ?_
            refine zw_bipush (v := (10 : Int32)) hX dX18_line__82 (by decide) ?_
            refine zw_icmp_ge (tgt := 106) hX dX18_line__84 (by decide) (fun c84 => ?_) (fun c84 => ?_)
            · rw [if_pos c84] at h
              refine zw_iinc (v := (i1 + (1 : Int32))) hX dX18_line__106 rfl rfl (by decide) ?_
              refine zw_goto (tgt := 2) hX dX18_line__109 (by decide) ?_
              refine zw_sub (lv' := [(0, .ref a0), (1, .int (i1 + (1 : Int32)))]) (List.forall_mem_cons.mpr ⟨rfl, (List.forall_mem_cons.mpr ⟨rfl, zs_nil⟩)⟩) ?_
              exact ih _ _ h
            · rw [if_neg c84] at h
              refine zw_aload_n hX dX18_line__87 rfl ?_
              obtain ⟨b20, g, h⟩ := zb_some h
              refine zw_getr hX zl_X18_35 dX18_line__88 g ?_
              obtain ⟨b21, g, h⟩ := zb_some h
              refine zw_getr hX zl_X18_474 dX18_line__91 g ?_
              refine zw_iload_n hX dX18_line__94 rfl ?_
              refine zw_aload_n hX dX18_line__95 rfl ?_
              obtain ⟨b22, g, h⟩ := zb_some h
              refine zw_getr hX zl_X18_42 dX18_line__96 g ?_
              obtain ⟨b23, g, h⟩ := zb_some h
              refine zw_getr hX zl_X18_588 dX18_line__99 g ?_
              refine zw_bipush (v := (6 : Int32)) hX dX18_line__102 (by decide) ?_
              obtain ⟨v24, g, h⟩ := zb_some h
              refine zw_xi hX dX18_line__104 g ?_
              obtain ⟨S25, g, h⟩ := zb_some h
              refine zw_si hX dX18_line__105 g ?_
              refine zw_iinc (v := (i1 + (1 : Int32))) hX dX18_line__106 rfl rfl (by decide) ?_
              refine zw_goto (tgt := 2) hX dX18_line__109 (by decide) ?_
              refine zw_sub (lv' := [(0, .ref a0), (1, .int (i1 + (1 : Int32)))]) (List.forall_mem_cons.mpr ⟨rfl, (List.forall_mem_cons.mpr ⟨rfl, zs_nil⟩)⟩) ?_
              exact ih _ _ h
def zf_X18_line_ (N : Nat) (a0 : Nat) (S : zm_S) : Option (Unit × zm_S) := (zf_X18_line__L2 N N a0 (0 : Int32) S).bind (fun r => match r with | .inl o => some o | .inr (_, S26) => some ((), S26))
set_option maxHeartbeats 4000000 in
set_option maxRecDepth 100000 in
theorem zt_X18_line_ {l : Launch} {V : zm_V} {N : Nat} {S : zm_S} {out : (Unit × zm_S)} {d : Nat} {a0 : Nat} (hd : 6 ≤ d) (h : zf_X18_line_ N a0 S = some out) : zm_Met l zk_E V yX18_line_ (.code yX18_line_ cX18_line_ 4 none) d [.ref a0] S 0 0 (zo_v out) zo_x := by
  refine zm_of (by decide +kernel) (Nat.le_of_ble_eq_true rfl) ?_
  intro p e R s m args below meth c hRR hX hr hxt
  have hR : R.frames = d ∧ R.locals = 64 * d := by rw [hRR]; exact ⟨rfl, rfl⟩
  have hX : zm_X p R s m args meth c RX18 "line" cX18_line_ 4 zk_E V 0 0 := hX
  unfold zf_X18_line_ at h
  refine zw_sub (lv' := [(0, .ref a0)]) (List.forall_mem_cons.mpr ⟨rfl, zs_nil⟩) ?_
  refine zw_iconst (v := (0 : Int32)) hX dX18_line__0 (by decide) ?_
  refine zw_istore_n hX dX18_line__1 (by decide) ?_
  obtain ⟨r, g, h⟩ := zb_some h
  refine zw_sub (lv' := [(0, .ref a0), (1, .int (0 : Int32))]) (List.forall_mem_cons.mpr ⟨rfl, (List.forall_mem_cons.mpr ⟨rfl, zs_nil⟩)⟩) ?_
  refine zt_X18_line__L2 hX hr hR hd (res := r) (out := out) a0 ?_ ?_ N _ _ g
  · intro o ho
    subst ho
    exact Option.some.inj h
  · intro  S26 hx
    subst hx
    try dsimp only at h
    obtain rfl := Option.some.inj h
    exact zw_vret hX hr dX18_line__112 ⟨rfl, rfl⟩
def zf_X18_second_J84 (N : Nat) (k : Nat → Int32 → Int32 → zm_S → Option ((Unit × zm_S) ⊕ ((Unit) × zm_S))) (a0 : Nat) (i2 : Int32) (S : zm_S) : Option ((Unit × zm_S) ⊕ ((Unit) × zm_S)) := (zg_r S a0 18 5).bind (fun b21 => (zi S b21 14).bind (fun _ => (zf_X14_rankedOne N b21 i2 S).bind (fun r24 => k a0 r24.1 (i2 + (1 : Int32)) r24.2)))
set_option maxHeartbeats 4000000 in
set_option maxRecDepth 100000 in
theorem zt_X18_second_J84 {p : Program} {l : Launch} {e : Env} {R : Room} {s : State} {m : MethodId} {args : Array Value} {below : List Frame} {meth : Method} {c : Code} {V : zm_V} {mc ms d rc rs : Nat} (hX : zm_X p R s m args meth c RX18 "second" cX18_second 4 zk_E V mc ms) (hr : meth.sig.returnType = none) (hR : R.frames = d ∧ R.locals = 64 * d) (hd : 7 ≤ d) {N : Nat} {k : Nat → Int32 → Int32 → zm_S → Option ((Unit × zm_S) ⊕ ((Unit) × zm_S))} {a0 : Nat} {i2 : Int32} {res : (Unit × zm_S) ⊕ ((Unit) × zm_S)} {out : (Unit × zm_S)}   (hf : ∀ o, res = .inl o → o = out) (hk : ∀ (S' : zm_S), res = .inr ((), S') → zw p l e R s m args below meth c (vx_MQ below (zm_Qc zk_E V (zo_v out)) (zm_XC zk_E V zo_x) args s mc ms (fun q => V.2.2.2.1 ≤ q)) 4 zk_E V mc ms 99 [(0, .ref a0)] [] S' rc rs) (hrec : ∀ (i1' : Int32) (i2' : Int32) (S : zm_S), k a0 i1' i2' S = some res → zw p l e R s m args below meth c (vx_MQ below (zm_Qc zk_E V (zo_v out)) (zm_XC zk_E V zo_x) args s mc ms (fun q => V.2.2.2.1 ≤ q)) 4 zk_E V mc ms 61 [(0, .ref a0), (1, .int i1'), (2, .int i2')] [] S rc rs) {S : zm_S} (h : zf_X18_second_J84 N k a0 i2 S = some res) : zw p l e R s m args below meth c (vx_MQ below (zm_Qc zk_E V (zo_v out)) (zm_XC zk_E V zo_x) args s mc ms (fun q => V.2.2.2.1 ≤ q)) 4 zk_E V mc ms 84 [(0, .ref a0), (2, .int i2)] [] S rc rs := by
  unfold zf_X18_second_J84 at h
  refine zw_aload_n hX dX18_second_84 rfl ?_
  obtain ⟨b21, g, h⟩ := zb_some h
  refine zw_getr hX zl_X18_28 dX18_second_85 g ?_
  refine zw_iload_n hX dX18_second_88 rfl ?_
  obtain ⟨_, gi, h⟩ := zb_some h
  obtain ⟨r24, g, h⟩ := zb_some h
  refine zc_Vi (as := [.int i2]) hX gi (zt_X14_rankedOne (d := d - 1) (by omega) g) zl_X18_476 rfl dX18_second_89 ⟨rfl, rfl, Nat.le_of_ble_eq_true rfl⟩ ⟨by omega, by omega⟩ ?_
  refine zw_istore_n hX dX18_second_92 (by decide) ?_
  refine zw_iinc (v := (i2 + (1 : Int32))) hX dX18_second_93 rfl rfl (by decide) ?_
  refine zw_goto (tgt := 61) hX dX18_second_96 (by decide) ?_
  refine zw_sub (lv' := [(0, .ref a0), (1, .int r24.1), (2, .int (i2 + (1 : Int32)))]) (List.forall_mem_cons.mpr ⟨rfl, (List.forall_mem_cons.mpr ⟨rfl, (List.forall_mem_cons.mpr ⟨rfl, zs_nil⟩)⟩)⟩) ?_
  exact hrec _ _ _ h
def zf_X18_second_L61 (N : Nat) : Nat → Nat → Int32 → Int32 → zm_S → Option ((Unit × zm_S) ⊕ ((Unit) × zm_S))
  | 0, _, _, _, _ => none
  | n + 1, a0, i1, i2, S => if i1 < 0 then some (.inr ((), S)) else (zg_r S a0 18 5).bind (fun b17 => (zi S b17 14).bind (fun _ => (zf_X14_go N b17 i1 S).bind (fun r20 => if r20.1 < 0 then zf_X18_second_J84 N (zf_X18_second_L61 N n) a0 i2 r20.2 else (zi r20.2 a0 18).bind (fun _ => (zf_X18_does N a0 i1 r20.1 r20.2).bind (fun r27 => zf_X18_second_J84 N (zf_X18_second_L61 N n) a0 i2 r27.2)))))
set_option maxHeartbeats 4000000 in
set_option maxRecDepth 100000 in
theorem zt_X18_second_L61 {p : Program} {l : Launch} {e : Env} {R : Room} {s : State} {m : MethodId} {args : Array Value} {below : List Frame} {meth : Method} {c : Code} {V : zm_V} {mc ms d rc rs : Nat} (hX : zm_X p R s m args meth c RX18 "second" cX18_second 4 zk_E V mc ms) (hr : meth.sig.returnType = none) (hR : R.frames = d ∧ R.locals = 64 * d) (hd : 7 ≤ d) {N : Nat} {res : (Unit × zm_S) ⊕ ((Unit) × zm_S)} {out : (Unit × zm_S)} (a0 : Nat) (hf : ∀ o, res = .inl o → o = out) (hk : ∀ (S' : zm_S), res = .inr ((), S') → zw p l e R s m args below meth c (vx_MQ below (zm_Qc zk_E V (zo_v out)) (zm_XC zk_E V zo_x) args s mc ms (fun q => V.2.2.2.1 ≤ q)) 4 zk_E V mc ms 99 [(0, .ref a0)] [] S' rc rs) : ∀ (n : Nat) (i1 : Int32) (i2 : Int32) (S : zm_S), zf_X18_second_L61 N n a0 i1 i2 S = some res → zw p l e R s m args below meth c (vx_MQ below (zm_Qc zk_E V (zo_v out)) (zm_XC zk_E V zo_x) args s mc ms (fun q => V.2.2.2.1 ≤ q)) 4 zk_E V mc ms 61 [(0, .ref a0), (1, .int i1), (2, .int i2)] [] S rc rs := by
  intro n
  induction n with
  | zero => intro i1 i2 S h; cases h
  | succ n ih =>
    intro i1 i2 S h
    rw [zf_X18_second_L61] at h
    refine zw_iload_n hX dX18_second_61 rfl ?_
    refine zw_if_lt (tgt := 99) hX dX18_second_62 (by decide) (fun c62 => ?_) (fun c62 => ?_)
    · rw [if_pos c62] at h
      refine zw_sub (lv' := [(0, .ref a0)]) (List.forall_mem_cons.mpr ⟨rfl, zs_nil⟩) ?_
      exact hk  _ (Option.some.inj h).symm
    · rw [if_neg c62] at h
      refine zw_aload_n hX dX18_second_65 rfl ?_
      obtain ⟨b17, g, h⟩ := zb_some h
      refine zw_getr hX zl_X18_28 dX18_second_66 g ?_
      refine zw_iload_n hX dX18_second_69 rfl ?_
      obtain ⟨_, gi, h⟩ := zb_some h
      obtain ⟨r20, g, h⟩ := zb_some h
      refine zc_Vi (as := [.int i1]) hX gi (zt_X14_go (d := d - 1) (by omega) g) zl_X18_686 rfl dX18_second_70 ⟨rfl, rfl, Nat.le_of_ble_eq_true rfl⟩ ⟨by omega, by omega⟩ ?_
      refine zw_istore_n hX dX18_second_73 (by decide) ?_
      refine zw_iload_n hX dX18_second_74 rfl ?_
      refine zw_if_lt (tgt := 84) hX dX18_second_75 (by decide) (fun c75 => ?_) (fun c75 => ?_)
      · rw [if_pos c75] at h
        refine zw_sub (lv' := [(0, .ref a0), (2, .int i2)]) (List.forall_mem_cons.mpr ⟨rfl, (List.forall_mem_cons.mpr ⟨rfl, zs_nil⟩)⟩) ?_
        exact zt_X18_second_J84 hX hr hR hd hf hk ih h
      · rw [if_neg c75] at h
        refine zw_aload_n hX dX18_second_78 rfl ?_
        refine zw_iload_n hX dX18_second_79 rfl ?_
        refine zw_iload_n hX dX18_second_80 rfl ?_
        obtain ⟨_, gi, h⟩ := zb_some h
        obtain ⟨r27, g, h⟩ := zb_some h
        refine zc_Vv (as := [.int i1, .int r20.1]) hX gi (zt_X18_does (d := d - 1) (by omega) g) zl_X18_482 rfl dX18_second_81 ⟨rfl, rfl, Nat.le_of_ble_eq_true rfl⟩ ⟨by omega, by omega⟩ ?_
        refine zw_sub (lv' := [(0, .ref a0), (2, .int i2)]) (List.forall_mem_cons.mpr ⟨rfl, (List.forall_mem_cons.mpr ⟨rfl, zs_nil⟩)⟩) ?_
        exact zt_X18_second_J84 hX hr hR hd hf hk ih h
def zf_X18_second_L186 (N : Nat) : Nat → Nat → Int32 → zm_S → Option ((Unit × zm_S) ⊕ ((Unit) × zm_S))
  | 0, _, _, _ => none
  | n + 1, a0, i2, S => (zg_i S a0 18 27).bind (fun v65 => if v65 ≤ i2 then some (.inr ((), S)) else (zg_r S a0 18 30).bind (fun b66 => (za_x S 0 b66 i2).bind (fun v67 => (zg_i S a0 18 9).bind (fun v68 => if v68 ≤ v67 then zf_X18_second_L186 N n a0 (i2 + (1 : Int32)) S else (zg_r S a0 18 33).bind (fun b69 => (za_x S 0 b69 i2).bind (fun v70 => if 0 ≤ v70 then zf_X18_second_L186 N n a0 (i2 + (1 : Int32)) S else (zg_r S a0 18 54).bind (fun b71 => (zg_r S a0 18 32).bind (fun b72 => (za_x S 0 b72 i2).bind (fun v73 => (zg_r S a0 18 31).bind (fun b74 => (za_x S 0 b74 i2).bind (fun v75 => (za_x S 2 b71 (((24 : Int32) * v73) + v75)).bind (fun v76 => if v76 = 0 then zf_X18_second_L186 N n a0 (i2 + (1 : Int32)) S else (zg_r S a0 18 33).bind (fun b77 => (zg_i S a0 18 2).bind (fun v78 => (zs_i S b77 i2 v78).bind (fun S79 => zf_X18_second_L186 N n a0 (i2 + (1 : Int32)) S79)))))))))))))))
set_option maxHeartbeats 4000000 in
set_option maxRecDepth 100000 in
theorem zt_X18_second_L186 {p : Program} {l : Launch} {e : Env} {R : Room} {s : State} {m : MethodId} {args : Array Value} {below : List Frame} {meth : Method} {c : Code} {V : zm_V} {mc ms d rc rs : Nat} (hX : zm_X p R s m args meth c RX18 "second" cX18_second 4 zk_E V mc ms) (hr : meth.sig.returnType = none) (hR : R.frames = d ∧ R.locals = 64 * d) (hd : 7 ≤ d) {N : Nat} {res : (Unit × zm_S) ⊕ ((Unit) × zm_S)} {out : (Unit × zm_S)} (a0 : Nat) (hf : ∀ o, res = .inl o → o = out) (hk : ∀ (S' : zm_S), res = .inr ((), S') → zw p l e R s m args below meth c (vx_MQ below (zm_Qc zk_E V (zo_v out)) (zm_XC zk_E V zo_x) args s mc ms (fun q => V.2.2.2.1 ≤ q)) 4 zk_E V mc ms 256 [(0, .ref a0)] [] S' rc rs) : ∀ (n : Nat) (i2 : Int32) (S : zm_S), zf_X18_second_L186 N n a0 i2 S = some res → zw p l e R s m args below meth c (vx_MQ below (zm_Qc zk_E V (zo_v out)) (zm_XC zk_E V zo_x) args s mc ms (fun q => V.2.2.2.1 ≤ q)) 4 zk_E V mc ms 186 [(0, .ref a0), (2, .int i2)] [] S rc rs := by
  intro n
  induction n with
  | zero => intro i2 S h; cases h
  | succ n ih =>
    intro i2 S h
    rw [zf_X18_second_L186] at h
    refine zw_iload_n hX dX18_second_186 rfl ?_
    refine zw_aload_n hX dX18_second_187 rfl ?_
    obtain ⟨v65, g, h⟩ := zb_some h
    refine zw_geti hX zl_X18_369 dX18_second_188 g ?_
    refine zw_icmp_ge (tgt := 256) hX dX18_second_191 (by decide) (fun c191 => ?_) (fun c191 => ?_)
    · rw [if_pos c191] at h
      refine zw_sub (lv' := [(0, .ref a0)]) (List.forall_mem_cons.mpr ⟨rfl, zs_nil⟩) ?_
      exact hk  _ (Option.some.inj h).symm
    · rw [if_neg c191] at h
      refine zw_aload_n hX dX18_second_194 rfl ?_
      obtain ⟨b66, g, h⟩ := zb_some h
      refine zw_getr hX zl_X18_106 dX18_second_195 g ?_
      refine zw_iload_n hX dX18_second_198 rfl ?_
      obtain ⟨v67, g, h⟩ := zb_some h
      refine zw_xi hX dX18_second_199 g ?_
      refine zw_aload_n hX dX18_second_200 rfl ?_
      obtain ⟨v68, g, h⟩ := zb_some h
      refine zw_geti hX zl_X18_338 dX18_second_201 g ?_
      refine zw_icmp_ge (tgt := 250) hX dX18_second_204 (by decide) (fun c204 => ?_) (fun c204 => ?_)
      · rw [if_pos c204] at h
        refine zw_iinc (v := (i2 + (1 : Int32))) hX dX18_second_250 rfl rfl (by decide) ?_
        refine zw_goto (tgt := 186) hX dX18_second_253 (by decide) ?_
        refine zw_sub (lv' := [(0, .ref a0), (2, .int (i2 + (1 : Int32)))]) (List.forall_mem_cons.mpr ⟨rfl, (List.forall_mem_cons.mpr ⟨rfl, zs_nil⟩)⟩) ?_
        exact ih _ _ h
      · rw [if_neg c204] at h
        refine zw_aload_n hX dX18_second_207 rfl ?_
        obtain ⟨b69, g, h⟩ := zb_some h
        refine zw_getr hX zl_X18_115 dX18_second_208 g ?_
        refine zw_iload_n hX dX18_second_211 rfl ?_
        obtain ⟨v70, g, h⟩ := zb_some h
        refine zw_xi hX dX18_second_212 g ?_
        refine zw_if_ge (tgt := 250) hX dX18_second_213 (by decide) (fun c213 => ?_) (fun c213 => ?_)
        · rw [if_pos c213] at h
          refine zw_iinc (v := (i2 + (1 : Int32))) hX dX18_second_250 rfl rfl (by decide) ?_
          refine zw_goto (tgt := 186) hX dX18_second_253 (by decide) ?_
          refine zw_sub (lv' := [(0, .ref a0), (2, .int (i2 + (1 : Int32)))]) (List.forall_mem_cons.mpr ⟨rfl, (List.forall_mem_cons.mpr ⟨rfl, zs_nil⟩)⟩) ?_
          exact ih _ _ h
        · rw [if_neg c213] at h
          refine zw_aload_n hX dX18_second_216 rfl ?_
          obtain ⟨b71, g, h⟩ := zb_some h
          refine zw_getr hX zl_X18_166 dX18_second_217 g ?_
          refine zw_bipush (v := (24 : Int32)) hX dX18_second_220 (by decide) ?_
          refine zw_aload_n hX dX18_second_222 rfl ?_
          obtain ⟨b72, g, h⟩ := zb_some h
          refine zw_getr hX zl_X18_112 dX18_second_223 g ?_
          refine zw_iload_n hX dX18_second_226 rfl ?_
          obtain ⟨v73, g, h⟩ := zb_some h
          refine zw_xi hX dX18_second_227 g ?_
          refine zw_imul hX dX18_second_228 ?_
          refine zw_aload_n hX dX18_second_229 rfl ?_
          obtain ⟨b74, g, h⟩ := zb_some h
          refine zw_getr hX zl_X18_109 dX18_second_230 g ?_
          refine zw_iload_n hX dX18_second_233 rfl ?_
          obtain ⟨v75, g, h⟩ := zb_some h
          refine zw_xi hX dX18_second_234 g ?_
          refine zw_iadd hX dX18_second_235 ?_
          obtain ⟨v76, g, h⟩ := zb_some h
          refine zw_xz hX dX18_second_236 g ?_
          refine zw_if_eq (tgt := 250) hX dX18_second_237 (by decide) (fun c237 => ?_) (fun c237 => ?_)
          · rw [if_pos c237] at h
            refine zw_iinc (v := (i2 + (1 : Int32))) hX dX18_second_250 rfl rfl (by decide) ?_
            refine zw_goto (tgt := 186) hX dX18_second_253 (by decide) ?_
            refine zw_sub (lv' := [(0, .ref a0), (2, .int (i2 + (1 : Int32)))]) (List.forall_mem_cons.mpr ⟨rfl, (List.forall_mem_cons.mpr ⟨rfl, zs_nil⟩)⟩) ?_
            exact ih _ _ h
          · rw [if_neg c237] at h
            refine zw_aload_n hX dX18_second_240 rfl ?_
            obtain ⟨b77, g, h⟩ := zb_some h
            refine zw_getr hX zl_X18_115 dX18_second_241 g ?_
            refine zw_iload_n hX dX18_second_244 rfl ?_
            refine zw_aload_n hX dX18_second_245 rfl ?_
            obtain ⟨v78, g, h⟩ := zb_some h
            refine zw_geti hX zl_X18_401 dX18_second_246 g ?_
            obtain ⟨S79, g, h⟩ := zb_some h
            refine zw_si hX dX18_second_249 g ?_
            refine zw_iinc (v := (i2 + (1 : Int32))) hX dX18_second_250 rfl rfl (by decide) ?_
            refine zw_goto (tgt := 186) hX dX18_second_253 (by decide) ?_
            refine zw_sub (lv' := [(0, .ref a0), (2, .int (i2 + (1 : Int32)))]) (List.forall_mem_cons.mpr ⟨rfl, (List.forall_mem_cons.mpr ⟨rfl, zs_nil⟩)⟩) ?_
            exact ih _ _ h
def zf_X18_second_J46 (N : Nat) (a0 : Nat) (S : zm_S) : Option (Unit × zm_S) := (zi S a0 18).bind (fun _ => (zf_X18_detect N a0 S).bind (fun r12 => (zg_r r12.2 a0 18 5).bind (fun b13 => (zi r12.2 b13 14).bind (fun _ => (zf_X14_rankedOne N b13 (0 : Int32) r12.2).bind (fun r16 => (zf_X18_second_L61 N N a0 r16.1 (1 : Int32) r16.2).bind (fun r => match r with | .inl o => some o | .inr (_, S28) => (zg_r S28 a0 18 6).bind (fun b29 => (zg_r S28 b29 17 12).bind (fun b30 => (zi S28 a0 18).bind (fun _ => (zf_X18_inSpaces N a0 S28).bind (fun r33 => (zs_i r33.2 b30 (0 : Int32) r33.1).bind (fun S34 => (zg_r S34 a0 18 6).bind (fun b35 => (zg_r S34 b35 17 12).bind (fun b36 => (zg_r S34 a0 18 5).bind (fun b37 => (zi S34 b37 14).bind (fun _ => (zf_X14_done N b37 (-1 : Int32) S34).bind (fun r40 => (zs_i r40.2 b36 (1 : Int32) r40.1).bind (fun S41 => (zg_r S41 a0 18 6).bind (fun b42 => (zg_r S41 b42 17 12).bind (fun b43 => (zi S41 a0 18).bind (fun _ => (zf_X18_smokes N a0 (-1 : Int32) S41).bind (fun r46 => (zs_i r46.2 b43 (2 : Int32) r46.1).bind (fun S47 => (zg_r S47 a0 18 6).bind (fun b48 => (zg_r S47 b48 17 12).bind (fun b49 => (zg_r S47 a0 18 8).bind (fun b50 => (zi S47 b50 13).bind (fun _ => (zf_X13_many N b50 S47).bind (fun r53 => (zs_i r53.2 b49 (3 : Int32) r53.1).bind (fun S54 => (zg_r S54 a0 18 6).bind (fun b55 => (zg_i S54 a0 18 2).bind (fun v56 => (zp S54 b55 17 14 (.int (v56 / (60 : Int32)))).bind (fun S57 => (zg_r S57 a0 18 6).bind (fun b58 => (zi S57 b58 17).bind (fun _ => (zf_X17_tick N b58 S57).bind (fun r61 => (zi r61.2 a0 18).bind (fun _ => (zf_X18_line_ N a0 r61.2).bind (fun r64 => (zf_X18_second_L186 N N a0 (0 : Int32) r64.2).bind (fun r => match r with | .inl o => some o | .inr (_, S80) => (zg_r S80 a0 18 5).bind (fun b81 => (zi S80 b81 14).bind (fun _ => (zf_X14_done N b81 (4 : Int32) S80).bind (fun r84 => if r84.1 ≤ 0 then some ((), r84.2) else (zi r84.2 a0 18).bind (fun _ => (zf_X18_leave N a0 r84.2).bind (fun r87 => some ((), r87.2)))))))))))))))))))))))))))))))))))))))))))
set_option maxHeartbeats 4000000 in
set_option maxRecDepth 100000 in
theorem zt_X18_second_J46 {p : Program} {l : Launch} {e : Env} {R : Room} {s : State} {m : MethodId} {args : Array Value} {below : List Frame} {meth : Method} {c : Code} {V : zm_V} {mc ms d rc rs : Nat} (hX : zm_X p R s m args meth c RX18 "second" cX18_second 4 zk_E V mc ms) (hr : meth.sig.returnType = none) (hR : R.frames = d ∧ R.locals = 64 * d) (hd : 7 ≤ d) {N : Nat} {a0 : Nat} {out : (Unit × zm_S)} {S : zm_S} (h : zf_X18_second_J46 N a0 S = some out) : zw p l e R s m args below meth c (vx_MQ below (zm_Qc zk_E V (zo_v out)) (zm_XC zk_E V zo_x) args s mc ms (fun q => V.2.2.2.1 ≤ q)) 4 zk_E V mc ms 46 [(0, .ref a0)] [] S rc rs := by
  unfold zf_X18_second_J46 at h
  refine zw_aload_n hX dX18_second_46 rfl ?_
  obtain ⟨_, gi, h⟩ := zb_some h
  obtain ⟨r12, g, h⟩ := zb_some h
  refine zc_Vv (as := []) hX gi (zt_X18_detect (d := d - 1) (by omega) g) zl_X18_683 rfl dX18_second_47 ⟨rfl, rfl, Nat.le_of_ble_eq_true rfl⟩ ⟨by omega, by omega⟩ ?_
  refine zw_aload_n hX dX18_second_50 rfl ?_
  obtain ⟨b13, g, h⟩ := zb_some h
  refine zw_getr hX zl_X18_28 dX18_second_51 g ?_
  refine zw_iconst (v := (0 : Int32)) hX dX18_second_54 (by decide) ?_
  obtain ⟨_, gi, h⟩ := zb_some h
  obtain ⟨r16, g, h⟩ := zb_some h
  refine zc_Vi (as := [.int (0 : Int32)]) hX gi (zt_X14_rankedOne (d := d - 1) (by omega) g) zl_X18_476 rfl dX18_second_55 ⟨rfl, rfl, Nat.le_of_ble_eq_true rfl⟩ ⟨by omega, by omega⟩ ?_
  refine zw_istore_n hX dX18_second_58 (by decide) ?_
  refine zw_iconst (v := (1 : Int32)) hX dX18_second_59 (by decide) ?_
  refine zw_istore_n hX dX18_second_60 (by decide) ?_
  obtain ⟨r, g, h⟩ := zb_some h
  refine zw_sub (lv' := [(0, .ref a0), (1, .int r16.1), (2, .int (1 : Int32))]) (List.forall_mem_cons.mpr ⟨rfl, (List.forall_mem_cons.mpr ⟨rfl, (List.forall_mem_cons.mpr ⟨rfl, zs_nil⟩)⟩)⟩) ?_
  refine zt_X18_second_L61 hX hr hR hd (res := r) (out := out) a0 ?_ ?_ N _ _ _ g
  · intro o ho
    subst ho
    exact Option.some.inj h
  · intro  S28 hx
    subst hx
    try dsimp only at h
    refine zw_aload_n hX dX18_second_99 rfl ?_
    obtain ⟨b29, g, h⟩ := zb_some h
    refine zw_getr hX zl_X18_35 dX18_second_100 g ?_
    obtain ⟨b30, g, h⟩ := zb_some h
    refine zw_getr hX zl_X18_474 dX18_second_103 g ?_
    refine zw_iconst (v := (0 : Int32)) hX dX18_second_106 (by decide) ?_
    refine zw_aload_n hX dX18_second_107 rfl ?_
    obtain ⟨_, gi, h⟩ := zb_some h
    obtain ⟨r33, g, h⟩ := zb_some h
    refine zc_Vi (as := []) hX gi (zt_X18_inSpaces (d := d - 1) (by omega) g) zl_X18_689 rfl dX18_second_108 ⟨rfl, rfl, Nat.le_of_ble_eq_true rfl⟩ ⟨by omega, by omega⟩ ?_
    obtain ⟨S34, g, h⟩ := zb_some h
    refine zw_si hX dX18_second_111 g ?_
    refine zw_aload_n hX dX18_second_112 rfl ?_
    obtain ⟨b35, g, h⟩ := zb_some h
    refine zw_getr hX zl_X18_35 dX18_second_113 g ?_
    obtain ⟨b36, g, h⟩ := zb_some h
    refine zw_getr hX zl_X18_474 dX18_second_116 g ?_
    refine zw_iconst (v := (1 : Int32)) hX dX18_second_119 (by decide) ?_
    refine zw_aload_n hX dX18_second_120 rfl ?_
    obtain ⟨b37, g, h⟩ := zb_some h
    refine zw_getr hX zl_X18_28 dX18_second_121 g ?_
    refine zw_iconst (v := (-1 : Int32)) hX dX18_second_124 (by decide) ?_
    obtain ⟨_, gi, h⟩ := zb_some h
    obtain ⟨r40, g, h⟩ := zb_some h
    refine zc_Vi (as := [.int (-1 : Int32)]) hX gi (zt_X14_done (d := d - 1) (by omega) g) zl_X18_404 rfl dX18_second_125 ⟨rfl, rfl, Nat.le_of_ble_eq_true rfl⟩ ⟨by omega, by omega⟩ ?_
    obtain ⟨S41, g, h⟩ := zb_some h
    refine zw_si hX dX18_second_128 g ?_
    refine zw_aload_n hX dX18_second_129 rfl ?_
    obtain ⟨b42, g, h⟩ := zb_some h
    refine zw_getr hX zl_X18_35 dX18_second_130 g ?_
    obtain ⟨b43, g, h⟩ := zb_some h
    refine zw_getr hX zl_X18_474 dX18_second_133 g ?_
    refine zw_iconst (v := (2 : Int32)) hX dX18_second_136 (by decide) ?_
    refine zw_aload_n hX dX18_second_137 rfl ?_
    refine zw_iconst (v := (-1 : Int32)) hX dX18_second_138 (by decide) ?_
    obtain ⟨_, gi, h⟩ := zb_some h
    obtain ⟨r46, g, h⟩ := zb_some h
    refine zc_Vi (as := [.int (-1 : Int32)]) hX gi (zt_X18_smokes (d := d - 1) (by omega) g) zl_X18_657 rfl dX18_second_139 ⟨rfl, rfl, Nat.le_of_ble_eq_true rfl⟩ ⟨by omega, by omega⟩ ?_
    obtain ⟨S47, g, h⟩ := zb_some h
    refine zw_si hX dX18_second_142 g ?_
    refine zw_aload_n hX dX18_second_143 rfl ?_
    obtain ⟨b48, g, h⟩ := zb_some h
    refine zw_getr hX zl_X18_35 dX18_second_144 g ?_
    obtain ⟨b49, g, h⟩ := zb_some h
    refine zw_getr hX zl_X18_474 dX18_second_147 g ?_
    refine zw_iconst (v := (3 : Int32)) hX dX18_second_150 (by decide) ?_
    refine zw_aload_n hX dX18_second_151 rfl ?_
    obtain ⟨b50, g, h⟩ := zb_some h
    refine zw_getr hX zl_X18_49 dX18_second_152 g ?_
    obtain ⟨_, gi, h⟩ := zb_some h
    obtain ⟨r53, g, h⟩ := zb_some h
    refine zc_Vi (as := []) hX gi (zt_X13_many (d := d - 1) (by omega) g) zl_X18_611 rfl dX18_second_155 ⟨rfl, rfl, Nat.le_of_ble_eq_true rfl⟩ ⟨by omega, by omega⟩ ?_
    obtain ⟨S54, g, h⟩ := zb_some h
    refine zw_si hX dX18_second_158 g ?_
    refine zw_aload_n hX dX18_second_159 rfl ?_
    obtain ⟨b55, g, h⟩ := zb_some h
    refine zw_getr hX zl_X18_35 dX18_second_160 g ?_
    refine zw_aload_n hX dX18_second_163 rfl ?_
    obtain ⟨v56, g, h⟩ := zb_some h
    refine zw_geti hX zl_X18_401 dX18_second_164 g ?_
    refine zw_bipush (v := (60 : Int32)) hX dX18_second_167 (by decide) ?_
    refine zw_idiv hX dX18_second_169 (by decide) ?_
    obtain ⟨S57, g, h⟩ := zb_some h
    refine zw_putv hX zl_X18_692 zt_17_14 dX18_second_170 rfl rfl g ?_
    refine zw_aload_n hX dX18_second_173 rfl ?_
    obtain ⟨b58, g, h⟩ := zb_some h
    refine zw_getr hX zl_X18_35 dX18_second_174 g ?_
    obtain ⟨_, gi, h⟩ := zb_some h
    obtain ⟨r61, g, h⟩ := zb_some h
    refine zc_Vv (as := []) hX gi (zt_X17_tick (d := d - 1) (by omega) g) zl_X18_695 rfl dX18_second_177 ⟨rfl, rfl, Nat.le_of_ble_eq_true rfl⟩ ⟨by omega, by omega⟩ ?_
    refine zw_aload_n hX dX18_second_180 rfl ?_
    obtain ⟨_, gi, h⟩ := zb_some h
    obtain ⟨r64, g, h⟩ := zb_some h
    refine zc_Vv (as := []) hX gi (zt_X18_line_ (d := d - 1) (by omega) g) zl_X18_698 rfl dX18_second_181 ⟨rfl, rfl, Nat.le_of_ble_eq_true rfl⟩ ⟨by omega, by omega⟩ ?_
    refine zw_iconst (v := (0 : Int32)) hX dX18_second_184 (by decide) ?_
    refine zw_istore_n hX dX18_second_185 (by decide) ?_
    obtain ⟨r, g, h⟩ := zb_some h
    refine zw_sub (lv' := [(0, .ref a0), (2, .int (0 : Int32))]) (List.forall_mem_cons.mpr ⟨rfl, (List.forall_mem_cons.mpr ⟨rfl, zs_nil⟩)⟩) ?_
    refine zt_X18_second_L186 hX hr hR hd (res := r) (out := out) a0 ?_ ?_ N _ _ g
    · intro o ho
      subst ho
      exact Option.some.inj h
    · intro  S80 hx
      subst hx
      try dsimp only at h
      refine zw_aload_n hX dX18_second_256 rfl ?_
      obtain ⟨b81, g, h⟩ := zb_some h
      refine zw_getr hX zl_X18_28 dX18_second_257 g ?_
      refine zw_iconst (v := (4 : Int32)) hX dX18_second_260 (by decide) ?_
      obtain ⟨_, gi, h⟩ := zb_some h
      obtain ⟨r84, g, h⟩ := zb_some h
      refine zc_Vi (as := [.int (4 : Int32)]) hX gi (zt_X14_done (d := d - 1) (by omega) g) zl_X18_404 rfl dX18_second_261 ⟨rfl, rfl, Nat.le_of_ble_eq_true rfl⟩ ⟨by omega, by omega⟩ ?_
      refine zw_if_le (tgt := 271) hX dX18_second_264 (by decide) (fun c264 => ?_) (fun c264 => ?_)
      · rw [if_pos c264] at h
        obtain rfl := Option.some.inj h
        exact zw_vret hX hr dX18_second_271 ⟨rfl, rfl⟩
      · rw [if_neg c264] at h
        refine zw_aload_n hX dX18_second_267 rfl ?_
        obtain ⟨_, gi, h⟩ := zb_some h
        obtain ⟨r87, g, h⟩ := zb_some h
        refine zc_Vv (as := []) hX gi (zt_X18_leave (d := d - 1) (by omega) g) zl_X18_700 rfl dX18_second_268 ⟨rfl, rfl, Nat.le_of_ble_eq_true rfl⟩ ⟨by omega, by omega⟩ ?_
        obtain rfl := Option.some.inj h
        exact zw_vret hX hr dX18_second_271 ⟨rfl, rfl⟩
def zf_X18_second (N : Nat) (a0 : Nat) (S : zm_S) : Option (Unit × zm_S) := (zg_i S a0 18 2).bind (fun v1 => (zp S a0 18 2 (.int (v1 + (1 : Int32)))).bind (fun S2 => (zg_r S2 a0 18 5).bind (fun b3 => (zg_i S2 a0 18 2).bind (fun v4 => (zp S2 b3 14 1 (.int v4)).bind (fun S5 => (zg_r S5 a0 18 8).bind (fun b6 => (zg_i S5 a0 18 2).bind (fun v7 => (zp S5 b6 13 12 (.int v7)).bind (fun S8 => (zg_i S8 a0 18 2).bind (fun v9 => if (v9 - v9 / (10 : Int32) * (10 : Int32)) = 0 then (zi S8 a0 18).bind (fun _ => (zf_X18_spread N a0 S8).bind (fun r90 => zf_X18_second_J46 N a0 r90.2)) else zf_X18_second_J46 N a0 S8)))))))))
set_option maxHeartbeats 4000000 in
set_option maxRecDepth 100000 in
theorem zt_X18_second {l : Launch} {V : zm_V} {N : Nat} {S : zm_S} {out : (Unit × zm_S)} {d : Nat} {a0 : Nat} (hd : 7 ≤ d) (h : zf_X18_second N a0 S = some out) : zm_Met l zk_E V yX18_second (.code yX18_second cX18_second 4 none) d [.ref a0] S 0 0 (zo_v out) zo_x := by
  refine zm_of (by decide +kernel) (Nat.le_of_ble_eq_true rfl) ?_
  intro p e R s m args below meth c hRR hX hr hxt
  have hR : R.frames = d ∧ R.locals = 64 * d := by rw [hRR]; exact ⟨rfl, rfl⟩
  have hX : zm_X p R s m args meth c RX18 "second" cX18_second 4 zk_E V 0 0 := hX
  unfold zf_X18_second at h
  refine zw_sub (lv' := [(0, .ref a0)]) (List.forall_mem_cons.mpr ⟨rfl, zs_nil⟩) ?_
  refine zw_aload_n hX dX18_second_0 rfl ?_
  refine zw_dup hX dX18_second_1 rfl ?_
  obtain ⟨v1, g, h⟩ := zb_some h
  refine zw_geti hX zl_X18_401 dX18_second_2 g ?_
  refine zw_iconst (v := (1 : Int32)) hX dX18_second_5 (by decide) ?_
  refine zw_iadd hX dX18_second_6 ?_
  obtain ⟨S2, g, h⟩ := zb_some h
  refine zw_putv hX zl_X18_401 zt_18_2 dX18_second_7 rfl rfl g ?_
  refine zw_aload_n hX dX18_second_10 rfl ?_
  obtain ⟨b3, g, h⟩ := zb_some h
  refine zw_getr hX zl_X18_28 dX18_second_11 g ?_
  refine zw_aload_n hX dX18_second_14 rfl ?_
  obtain ⟨v4, g, h⟩ := zb_some h
  refine zw_geti hX zl_X18_401 dX18_second_15 g ?_
  obtain ⟨S5, g, h⟩ := zb_some h
  refine zw_putv hX zl_X18_676 zt_14_1 dX18_second_18 rfl rfl g ?_
  refine zw_aload_n hX dX18_second_21 rfl ?_
  obtain ⟨b6, g, h⟩ := zb_some h
  refine zw_getr hX zl_X18_49 dX18_second_22 g ?_
  refine zw_aload_n hX dX18_second_25 rfl ?_
  obtain ⟨v7, g, h⟩ := zb_some h
  refine zw_geti hX zl_X18_401 dX18_second_26 g ?_
  obtain ⟨S8, g, h⟩ := zb_some h
  refine zw_putv hX zl_X18_679 zt_13_12 dX18_second_29 rfl rfl g ?_
  refine zw_aload_n hX dX18_second_32 rfl ?_
  obtain ⟨v9, g, h⟩ := zb_some h
  refine zw_geti hX zl_X18_401 dX18_second_33 g ?_
  refine zw_bipush (v := (10 : Int32)) hX dX18_second_36 (by decide) ?_
  refine zw_irem hX dX18_second_38 (by decide) ?_
  refine zw_if_ne (tgt := 46) hX dX18_second_39 (by decide) (fun c39 => ?_) (fun c39 => ?_)
  · rw [if_neg c39] at h
    refine zw_sub (lv' := [(0, .ref a0)]) (List.forall_mem_cons.mpr ⟨rfl, zs_nil⟩) ?_
    exact zt_X18_second_J46 hX hr hR hd h
  · rw [if_pos c39] at h
    refine zw_aload_n hX dX18_second_42 rfl ?_
    obtain ⟨_, gi, h⟩ := zb_some h
    obtain ⟨r90, g, h⟩ := zb_some h
    refine zc_Vv (as := []) hX gi (zt_X18_spread (d := d - 1) (by omega) g) zl_X18_680 rfl dX18_second_43 ⟨rfl, rfl, Nat.le_of_ble_eq_true rfl⟩ ⟨by omega, by omega⟩ ?_
    refine zw_sub (lv' := [(0, .ref a0)]) (List.forall_mem_cons.mpr ⟨rfl, zs_nil⟩) ?_
    exact zt_X18_second_J46 hX hr hR hd h
def zf_X18_pass_L51 (N : Nat) : Nat → Nat → Int32 → Int32 → zm_S → Option ((Int32 × zm_S) ⊕ ((Unit) × zm_S))
  | 0, _, _, _, _ => none
  | n + 1, a0, i1, i2, S => if i1 ≤ i2 then some (.inr ((), S)) else (zi S a0 18).bind (fun _ => (zf_X18_second N a0 S).bind (fun r7 => zf_X18_pass_L51 N n a0 i1 (i2 + (1 : Int32)) r7.2))
set_option maxHeartbeats 4000000 in
set_option maxRecDepth 100000 in
theorem zt_X18_pass_L51 {p : Program} {l : Launch} {e : Env} {R : Room} {s : State} {m : MethodId} {args : Array Value} {below : List Frame} {meth : Method} {c : Code} {V : zm_V} {mc ms d rc rs : Nat} (hX : zm_X p R s m args meth c RX18 "pass" cX18_pass 3 zk_E V mc ms) (hr : meth.sig.returnType = (some .int)) (hR : R.frames = d ∧ R.locals = 64 * d) (hd : 8 ≤ d) {N : Nat} {res : (Int32 × zm_S) ⊕ ((Unit) × zm_S)} {out : (Int32 × zm_S)} (a0 : Nat) (i1 : Int32) (hf : ∀ o, res = .inl o → o = out) (hk : ∀ (S' : zm_S), res = .inr ((), S') → zw p l e R s m args below meth c (vx_MQ below (zm_Qc zk_E V (zo_i out)) (zm_XC zk_E V zo_x) args s mc ms (fun q => V.2.2.2.1 ≤ q)) 3 zk_E V mc ms 66 [(0, .ref a0)] [] S' rc rs) : ∀ (n : Nat) (i2 : Int32) (S : zm_S), zf_X18_pass_L51 N n a0 i1 i2 S = some res → zw p l e R s m args below meth c (vx_MQ below (zm_Qc zk_E V (zo_i out)) (zm_XC zk_E V zo_x) args s mc ms (fun q => V.2.2.2.1 ≤ q)) 3 zk_E V mc ms 51 [(0, .ref a0), (1, .int i1), (2, .int i2)] [] S rc rs := by
  intro n
  induction n with
  | zero => intro i2 S h; cases h
  | succ n ih =>
    intro i2 S h
    rw [zf_X18_pass_L51] at h
    refine zw_iload_n hX dX18_pass_51 rfl ?_
    refine zw_iload_n hX dX18_pass_52 rfl ?_
    refine zw_icmp_ge (tgt := 66) hX dX18_pass_53 (by decide) (fun c53 => ?_) (fun c53 => ?_)
    · rw [if_pos c53] at h
      refine zw_sub (lv' := [(0, .ref a0)]) (List.forall_mem_cons.mpr ⟨rfl, zs_nil⟩) ?_
      exact hk  _ (Option.some.inj h).symm
    · rw [if_neg c53] at h
      refine zw_aload_n hX dX18_pass_56 rfl ?_
      obtain ⟨_, gi, h⟩ := zb_some h
      obtain ⟨r7, g, h⟩ := zb_some h
      refine zc_Vv (as := []) hX gi (zt_X18_second (d := d - 1) (by omega) g) zl_X18_703 rfl dX18_pass_57 ⟨rfl, rfl, Nat.le_of_ble_eq_true rfl⟩ ⟨by omega, by omega⟩ ?_
      refine zw_iinc (v := (i2 + (1 : Int32))) hX dX18_pass_60 rfl rfl (by decide) ?_
      refine zw_goto (tgt := 51) hX dX18_pass_63 (by decide) ?_
      refine zw_sub (lv' := [(0, .ref a0), (1, .int i1), (2, .int (i2 + (1 : Int32)))]) (List.forall_mem_cons.mpr ⟨rfl, (List.forall_mem_cons.mpr ⟨rfl, (List.forall_mem_cons.mpr ⟨rfl, zs_nil⟩)⟩)⟩) ?_
      exact ih _ _ h
def zf_X18_pass_J41 (N : Nat) (a0 : Nat) (i1 : Int32) (t0 : Nat) (t1 : Int32) (t2 : Int32) (S : zm_S) : Option (Int32 × zm_S) := (zi S t0 18).bind (fun _ => (zf_X18_goes N t0 t1 t2 S).bind (fun r4 => if r4.1 = 0 then some ((0 : Int32), r4.2) else (zf_X18_pass_L51 N N a0 i1 (0 : Int32) r4.2).bind (fun r => match r with | .inl o => some o | .inr (_, S8) => (zg_i S8 a0 18 2).bind (fun v9 => some (v9, S8)))))
set_option maxHeartbeats 4000000 in
set_option maxRecDepth 100000 in
theorem zt_X18_pass_J41 {p : Program} {l : Launch} {e : Env} {R : Room} {s : State} {m : MethodId} {args : Array Value} {below : List Frame} {meth : Method} {c : Code} {V : zm_V} {mc ms d rc rs : Nat} (hX : zm_X p R s m args meth c RX18 "pass" cX18_pass 3 zk_E V mc ms) (hr : meth.sig.returnType = (some .int)) (hR : R.frames = d ∧ R.locals = 64 * d) (hd : 8 ≤ d) {N : Nat} {a0 : Nat} {i1 : Int32} {t0 : Nat} {t1 : Int32} {t2 : Int32} {out : (Int32 × zm_S)} {S : zm_S} (h : zf_X18_pass_J41 N a0 i1 t0 t1 t2 S = some out) : zw p l e R s m args below meth c (vx_MQ below (zm_Qc zk_E V (zo_i out)) (zm_XC zk_E V zo_x) args s mc ms (fun q => V.2.2.2.1 ≤ q)) 3 zk_E V mc ms 41 [(0, .ref a0), (1, .int i1)] [.int t2, .int t1, .ref t0] S rc rs := by
  unfold zf_X18_pass_J41 at h
  obtain ⟨_, gi, h⟩ := zb_some h
  obtain ⟨r4, g, h⟩ := zb_some h
  refine zc_Vi (as := [.int t1, .int t2]) hX gi (zt_X18_goes (d := d - 1) (by omega) g) zl_X18_199 rfl dX18_pass_41 ⟨rfl, rfl, Nat.le_of_ble_eq_true rfl⟩ ⟨by omega, by omega⟩ ?_
  refine zw_if_ne (tgt := 49) hX dX18_pass_44 (by decide) (fun c44 => ?_) (fun c44 => ?_)
  · rw [if_neg c44] at h
    refine zw_iconst (v := (0 : Int32)) hX dX18_pass_49 (by decide) ?_
    refine zw_istore_n hX dX18_pass_50 (by decide) ?_
    obtain ⟨r, g, h⟩ := zb_some h
    refine zw_sub (lv' := [(0, .ref a0), (1, .int i1), (2, .int (0 : Int32))]) (List.forall_mem_cons.mpr ⟨rfl, (List.forall_mem_cons.mpr ⟨rfl, (List.forall_mem_cons.mpr ⟨rfl, zs_nil⟩)⟩)⟩) ?_
    refine zt_X18_pass_L51 hX hr hR hd (res := r) (out := out) a0 i1 ?_ ?_ N _ _ g
    · intro o ho
      subst ho
      exact Option.some.inj h
    · intro  S8 hx
      subst hx
      try dsimp only at h
      refine zw_aload_n hX dX18_pass_66 rfl ?_
      obtain ⟨v9, g, h⟩ := zb_some h
      refine zw_geti hX zl_X18_401 dX18_pass_67 g ?_
      obtain rfl := Option.some.inj h
      exact zw_iret hX hr dX18_pass_70 rfl ⟨rfl, rfl⟩
  · rw [if_pos c44] at h
    refine zw_iconst (v := (0 : Int32)) hX dX18_pass_47 (by decide) ?_
    obtain rfl := Option.some.inj h
    exact zw_iret hX hr dX18_pass_48 rfl ⟨rfl, rfl⟩
def zf_X18_pass_J40 (N : Nat) (a0 : Nat) (i1 : Int32) (t0 : Nat) (t1 : Int32) (S : zm_S) : Option (Int32 × zm_S) := zf_X18_pass_J41 N a0 i1 t0 t1 (0 : Int32) S
set_option maxHeartbeats 4000000 in
set_option maxRecDepth 100000 in
theorem zt_X18_pass_J40 {p : Program} {l : Launch} {e : Env} {R : Room} {s : State} {m : MethodId} {args : Array Value} {below : List Frame} {meth : Method} {c : Code} {V : zm_V} {mc ms d rc rs : Nat} (hX : zm_X p R s m args meth c RX18 "pass" cX18_pass 3 zk_E V mc ms) (hr : meth.sig.returnType = (some .int)) (hR : R.frames = d ∧ R.locals = 64 * d) (hd : 8 ≤ d) {N : Nat} {a0 : Nat} {i1 : Int32} {t0 : Nat} {t1 : Int32} {out : (Int32 × zm_S)} {S : zm_S} (h : zf_X18_pass_J40 N a0 i1 t0 t1 S = some out) : zw p l e R s m args below meth c (vx_MQ below (zm_Qc zk_E V (zo_i out)) (zm_XC zk_E V zo_x) args s mc ms (fun q => V.2.2.2.1 ≤ q)) 3 zk_E V mc ms 40 [(0, .ref a0), (1, .int i1)] [.int t1, .ref t0] S rc rs := by
  unfold zf_X18_pass_J40 at h
  refine zw_iconst (v := (0 : Int32)) hX dX18_pass_40 (by decide) ?_
  refine zw_sub (lv' := [(0, .ref a0), (1, .int i1)]) (List.forall_mem_cons.mpr ⟨rfl, (List.forall_mem_cons.mpr ⟨rfl, zs_nil⟩)⟩) ?_
  exact zt_X18_pass_J41 hX hr hR hd h
def zf_X18_pass_J17 (N : Nat) (a0 : Nat) (i1 : Int32) (t0 : Nat) (t1 : Int32) (S : zm_S) : Option (Int32 × zm_S) := (zg_i S a0 18 1).bind (fun v1 => if v1 = 0 then zf_X18_pass_J40 N a0 i1 t0 t1 S else (zg_i S a0 18 2).bind (fun v10 => if (6000 : Int32) < (v10 + i1) then zf_X18_pass_J40 N a0 i1 t0 t1 S else zf_X18_pass_J41 N a0 i1 t0 t1 (1 : Int32) S))
set_option maxHeartbeats 4000000 in
set_option maxRecDepth 100000 in
theorem zt_X18_pass_J17 {p : Program} {l : Launch} {e : Env} {R : Room} {s : State} {m : MethodId} {args : Array Value} {below : List Frame} {meth : Method} {c : Code} {V : zm_V} {mc ms d rc rs : Nat} (hX : zm_X p R s m args meth c RX18 "pass" cX18_pass 3 zk_E V mc ms) (hr : meth.sig.returnType = (some .int)) (hR : R.frames = d ∧ R.locals = 64 * d) (hd : 8 ≤ d) {N : Nat} {a0 : Nat} {i1 : Int32} {t0 : Nat} {t1 : Int32} {out : (Int32 × zm_S)} {S : zm_S} (h : zf_X18_pass_J17 N a0 i1 t0 t1 S = some out) : zw p l e R s m args below meth c (vx_MQ below (zm_Qc zk_E V (zo_i out)) (zm_XC zk_E V zo_x) args s mc ms (fun q => V.2.2.2.1 ≤ q)) 3 zk_E V mc ms 17 [(0, .ref a0), (1, .int i1)] [.int t1, .ref t0] S rc rs := by
  unfold zf_X18_pass_J17 at h
  refine zw_aload_n hX dX18_pass_17 rfl ?_
  obtain ⟨v1, g, h⟩ := zb_some h
  refine zw_geti hX zl_X18_192 dX18_pass_18 g ?_
  refine zw_if_eq (tgt := 40) hX dX18_pass_21 (by decide) (fun c21 => ?_) (fun c21 => ?_)
  · rw [if_pos c21] at h
    refine zw_sub (lv' := [(0, .ref a0), (1, .int i1)]) (List.forall_mem_cons.mpr ⟨rfl, (List.forall_mem_cons.mpr ⟨rfl, zs_nil⟩)⟩) ?_
    exact zt_X18_pass_J40 hX hr hR hd h
  · rw [if_neg c21] at h
    refine zw_aload_n hX dX18_pass_24 rfl ?_
    obtain ⟨v10, g, h⟩ := zb_some h
    refine zw_geti hX zl_X18_401 dX18_pass_25 g ?_
    refine zw_iload_n hX dX18_pass_28 rfl ?_
    refine zw_iadd hX dX18_pass_29 ?_
    refine zw_sipush (v := (6000 : Int32)) hX dX18_pass_30 (by decide) ?_
    refine zw_icmp_gt (tgt := 40) hX dX18_pass_33 (by decide) (fun c33 => ?_) (fun c33 => ?_)
    · rw [if_pos c33] at h
      refine zw_sub (lv' := [(0, .ref a0), (1, .int i1)]) (List.forall_mem_cons.mpr ⟨rfl, (List.forall_mem_cons.mpr ⟨rfl, zs_nil⟩)⟩) ?_
      exact zt_X18_pass_J40 hX hr hR hd h
    · rw [if_neg c33] at h
      refine zw_iconst (v := (1 : Int32)) hX dX18_pass_36 (by decide) ?_
      refine zw_goto (tgt := 41) hX dX18_pass_37 (by decide) ?_
      refine zw_sub (lv' := [(0, .ref a0), (1, .int i1)]) (List.forall_mem_cons.mpr ⟨rfl, (List.forall_mem_cons.mpr ⟨rfl, zs_nil⟩)⟩) ?_
      exact zt_X18_pass_J41 hX hr hR hd h
def zf_X18_pass_J16 (N : Nat) (a0 : Nat) (i1 : Int32) (t0 : Nat) (S : zm_S) : Option (Int32 × zm_S) := zf_X18_pass_J17 N a0 i1 t0 (0 : Int32) S
set_option maxHeartbeats 4000000 in
set_option maxRecDepth 100000 in
theorem zt_X18_pass_J16 {p : Program} {l : Launch} {e : Env} {R : Room} {s : State} {m : MethodId} {args : Array Value} {below : List Frame} {meth : Method} {c : Code} {V : zm_V} {mc ms d rc rs : Nat} (hX : zm_X p R s m args meth c RX18 "pass" cX18_pass 3 zk_E V mc ms) (hr : meth.sig.returnType = (some .int)) (hR : R.frames = d ∧ R.locals = 64 * d) (hd : 8 ≤ d) {N : Nat} {a0 : Nat} {i1 : Int32} {t0 : Nat} {out : (Int32 × zm_S)} {S : zm_S} (h : zf_X18_pass_J16 N a0 i1 t0 S = some out) : zw p l e R s m args below meth c (vx_MQ below (zm_Qc zk_E V (zo_i out)) (zm_XC zk_E V zo_x) args s mc ms (fun q => V.2.2.2.1 ≤ q)) 3 zk_E V mc ms 16 [(0, .ref a0), (1, .int i1)] [.ref t0] S rc rs := by
  unfold zf_X18_pass_J16 at h
  refine zw_iconst (v := (0 : Int32)) hX dX18_pass_16 (by decide) ?_
  refine zw_sub (lv' := [(0, .ref a0), (1, .int i1)]) (List.forall_mem_cons.mpr ⟨rfl, (List.forall_mem_cons.mpr ⟨rfl, zs_nil⟩)⟩) ?_
  exact zt_X18_pass_J17 hX hr hR hd h
def zf_X18_pass (N : Nat) (a0 : Nat) (i1 : Int32) (S : zm_S) : Option (Int32 × zm_S) := if i1 < (1 : Int32) then zf_X18_pass_J16 N a0 i1 a0 S else if (60 : Int32) < i1 then zf_X18_pass_J16 N a0 i1 a0 S else zf_X18_pass_J17 N a0 i1 a0 (1 : Int32) S
set_option maxHeartbeats 4000000 in
set_option maxRecDepth 100000 in
theorem zt_X18_pass {l : Launch} {V : zm_V} {N : Nat} {S : zm_S} {out : (Int32 × zm_S)} {d : Nat} {a0 : Nat} {i1 : Int32} (hd : 8 ≤ d) (h : zf_X18_pass N a0 i1 S = some out) : zm_Met l zk_E V yX18_pass (.code yX18_pass cX18_pass 3 (some .int)) d [.ref a0, .int i1] S 0 0 (zo_i out) zo_x := by
  refine zm_of (by decide +kernel) (Nat.le_of_ble_eq_true rfl) ?_
  intro p e R s m args below meth c hRR hX hr hxt
  have hR : R.frames = d ∧ R.locals = 64 * d := by rw [hRR]; exact ⟨rfl, rfl⟩
  have hX : zm_X p R s m args meth c RX18 "pass" cX18_pass 3 zk_E V 0 0 := hX
  unfold zf_X18_pass at h
  refine zw_sub (lv' := [(0, .ref a0), (1, .int i1)]) (List.forall_mem_cons.mpr ⟨rfl, (List.forall_mem_cons.mpr ⟨rfl, zs_nil⟩)⟩) ?_
  refine zw_aload_n hX dX18_pass_0 rfl ?_
  refine zw_iload_n hX dX18_pass_1 rfl ?_
  refine zw_iconst (v := (1 : Int32)) hX dX18_pass_2 (by decide) ?_
  refine zw_icmp_lt (tgt := 16) hX dX18_pass_3 (by decide) (fun c3 => ?_) (fun c3 => ?_)
  · rw [if_pos c3] at h
    refine zw_sub (lv' := [(0, .ref a0), (1, .int i1)]) (List.forall_mem_cons.mpr ⟨rfl, (List.forall_mem_cons.mpr ⟨rfl, zs_nil⟩)⟩) ?_
    exact zt_X18_pass_J16 hX hr hR hd h
  · rw [if_neg c3] at h
    refine zw_iload_n hX dX18_pass_6 rfl ?_
    refine zw_bipush (v := (60 : Int32)) hX dX18_pass_7 (by decide) ?_
    refine zw_icmp_gt (tgt := 16) hX dX18_pass_9 (by decide) (fun c9 => ?_) (fun c9 => ?_)
    · rw [if_pos c9] at h
      refine zw_sub (lv' := [(0, .ref a0), (1, .int i1)]) (List.forall_mem_cons.mpr ⟨rfl, (List.forall_mem_cons.mpr ⟨rfl, zs_nil⟩)⟩) ?_
      exact zt_X18_pass_J16 hX hr hR hd h
    · rw [if_neg c9] at h
      refine zw_iconst (v := (1 : Int32)) hX dX18_pass_12 (by decide) ?_
      refine zw_goto (tgt := 17) hX dX18_pass_13 (by decide) ?_
      refine zw_sub (lv' := [(0, .ref a0), (1, .int i1)]) (List.forall_mem_cons.mpr ⟨rfl, (List.forall_mem_cons.mpr ⟨rfl, zs_nil⟩)⟩) ?_
      exact zt_X18_pass_J17 hX hr hR hd h
def zf_X18_told (N : Nat) (a0 : Nat) (i1 : Int32) (S : zm_S) : Option (Int32 × zm_S) := (zf_X18_isIn N i1 (9 : Int32) S).bind (fun r3 => (zg_i r3.2 a0 18 1).bind (fun v4 => (zi r3.2 a0 18).bind (fun _ => (zf_X18_goes N a0 r3.1 v4 r3.2).bind (fun r7 => if r7.1 = 0 then some ((0 : Int32), r7.2) else if (i1).toInt = 0 then (zg_i r7.2 a0 18 10).bind (fun v9 => some (v9, r7.2)) else if (i1).toInt = 1 then (zi r7.2 a0 18).bind (fun _ => (zf_X18_inSpaces N a0 r7.2).bind (fun r12 => some (r12.1, r12.2))) else if (i1).toInt = 2 then (zg_r r7.2 a0 18 5).bind (fun b13 => (zi r7.2 b13 14).bind (fun _ => (zf_X14_done N b13 (-1 : Int32) r7.2).bind (fun r16 => some (r16.1, r16.2)))) else if (i1).toInt = 3 then (zi r7.2 a0 18).bind (fun _ => (zf_X18_smokes N a0 (-1 : Int32) r7.2).bind (fun r19 => some (r19.1, r19.2))) else if (i1).toInt = 4 then (zg_r r7.2 a0 18 8).bind (fun b20 => (zi r7.2 b20 13).bind (fun _ => (zf_X13_many N b20 r7.2).bind (fun r23 => some (r23.1, r23.2)))) else if (i1).toInt = 5 then (zi r7.2 a0 18).bind (fun _ => (zf_X18_isReleased N a0 r7.2).bind (fun r26 => if r26.1 = 0 then some ((0 : Int32), r26.2) else some ((1 : Int32), r26.2))) else if (i1).toInt = 6 then (zg_r r7.2 a0 18 5).bind (fun b27 => (zi r7.2 b27 14).bind (fun _ => (zf_X14_done N b27 (1 : Int32) r7.2).bind (fun r30 => if r30.1 ≤ 0 then some ((0 : Int32), r30.2) else some ((1 : Int32), r30.2)))) else if (i1).toInt = 7 then (zg_r r7.2 a0 18 5).bind (fun b31 => (zi r7.2 b31 14).bind (fun _ => (zf_X14_done N b31 (4 : Int32) r7.2).bind (fun r34 => if r34.1 ≤ 0 then some ((0 : Int32), r34.2) else some ((1 : Int32), r34.2)))) else (zg_i r7.2 a0 18 2).bind (fun v8 => some (v8, r7.2))))))
set_option maxHeartbeats 4000000 in
set_option maxRecDepth 100000 in
theorem zt_X18_told {l : Launch} {V : zm_V} {N : Nat} {S : zm_S} {out : (Int32 × zm_S)} {d : Nat} {a0 : Nat} {i1 : Int32} (hd : 3 ≤ d) (h : zf_X18_told N a0 i1 S = some out) : zm_Met l zk_E V yX18_told (.code yX18_told cX18_told 2 (some .int)) d [.ref a0, .int i1] S 0 0 (zo_i out) zo_x := by
  refine zm_of (by decide +kernel) (Nat.le_of_ble_eq_true rfl) ?_
  intro p e R s m args below meth c hRR hX hr hxt
  have hR : R.frames = d ∧ R.locals = 64 * d := by rw [hRR]; exact ⟨rfl, rfl⟩
  have hX : zm_X p R s m args meth c RX18 "told" cX18_told 2 zk_E V 0 0 := hX
  unfold zf_X18_told at h
  refine zw_sub (lv' := [(0, .ref a0), (1, .int i1)]) (List.forall_mem_cons.mpr ⟨rfl, (List.forall_mem_cons.mpr ⟨rfl, zs_nil⟩)⟩) ?_
  refine zw_aload_n hX dX18_told_0 rfl ?_
  refine zw_iload_n hX dX18_told_1 rfl ?_
  refine zw_bipush (v := (9 : Int32)) hX dX18_told_2 (by decide) ?_
  obtain ⟨r3, g, h⟩ := zb_some h
  refine zc_Si (as := [.int i1, .int (9 : Int32)]) hX (zt_X18_isIn (d := d - 1) (by omega) g) zl_X18_207 dX18_told_4 ⟨rfl, rfl, Nat.le_of_ble_eq_true rfl⟩ ⟨by omega, by omega⟩ ?_
  refine zw_aload_n hX dX18_told_7 rfl ?_
  obtain ⟨v4, g, h⟩ := zb_some h
  refine zw_geti hX zl_X18_192 dX18_told_8 g ?_
  obtain ⟨_, gi, h⟩ := zb_some h
  obtain ⟨r7, g, h⟩ := zb_some h
  refine zc_Vi (as := [.int r3.1, .int v4]) hX gi (zt_X18_goes (d := d - 1) (by omega) g) zl_X18_199 rfl dX18_told_11 ⟨rfl, rfl, Nat.le_of_ble_eq_true rfl⟩ ⟨by omega, by omega⟩ ?_
  refine zw_if_ne (tgt := 19) hX dX18_told_14 (by decide) (fun c14 => ?_) (fun c14 => ?_)
  · rw [if_neg c14] at h
    refine zw_iload_n hX dX18_told_19 rfl ?_
    by_cases c20_0 : (i1).toInt = 0
    · rw [if_pos c20_0] at h
      refine zw_tableIn (off := 48) (tgt := 68) hX dX18_told_20 (by rw [c20_0]; decide) (by rw [c20_0]; decide) (by rw [c20_0]; decide) (by decide) ?_
      refine zw_aload_n hX dX18_told_68 rfl ?_
      obtain ⟨v9, g, h⟩ := zb_some h
      refine zw_geti hX zl_X18_351 dX18_told_69 g ?_
      obtain rfl := Option.some.inj h
      exact zw_iret hX hr dX18_told_72 rfl ⟨rfl, rfl⟩
    rw [if_neg c20_0] at h
    by_cases c20_1 : (i1).toInt = 1
    · rw [if_pos c20_1] at h
      refine zw_tableIn (off := 53) (tgt := 73) hX dX18_told_20 (by rw [c20_1]; decide) (by rw [c20_1]; decide) (by rw [c20_1]; decide) (by decide) ?_
      refine zw_aload_n hX dX18_told_73 rfl ?_
      obtain ⟨_, gi, h⟩ := zb_some h
      obtain ⟨r12, g, h⟩ := zb_some h
      refine zc_Vi (as := []) hX gi (zt_X18_inSpaces (d := d - 1) (by omega) g) zl_X18_689 rfl dX18_told_74 ⟨rfl, rfl, Nat.le_of_ble_eq_true rfl⟩ ⟨by omega, by omega⟩ ?_
      obtain rfl := Option.some.inj h
      exact zw_iret hX hr dX18_told_77 rfl ⟨rfl, rfl⟩
    rw [if_neg c20_1] at h
    by_cases c20_2 : (i1).toInt = 2
    · rw [if_pos c20_2] at h
      refine zw_tableIn (off := 58) (tgt := 78) hX dX18_told_20 (by rw [c20_2]; decide) (by rw [c20_2]; decide) (by rw [c20_2]; decide) (by decide) ?_
      refine zw_aload_n hX dX18_told_78 rfl ?_
      obtain ⟨b13, g, h⟩ := zb_some h
      refine zw_getr hX zl_X18_28 dX18_told_79 g ?_
      refine zw_iconst (v := (-1 : Int32)) hX dX18_told_82 (by decide) ?_
      obtain ⟨_, gi, h⟩ := zb_some h
      obtain ⟨r16, g, h⟩ := zb_some h
      refine zc_Vi (as := [.int (-1 : Int32)]) hX gi (zt_X14_done (d := d - 1) (by omega) g) zl_X18_404 rfl dX18_told_83 ⟨rfl, rfl, Nat.le_of_ble_eq_true rfl⟩ ⟨by omega, by omega⟩ ?_
      obtain rfl := Option.some.inj h
      exact zw_iret hX hr dX18_told_86 rfl ⟨rfl, rfl⟩
    rw [if_neg c20_2] at h
    by_cases c20_3 : (i1).toInt = 3
    · rw [if_pos c20_3] at h
      refine zw_tableIn (off := 67) (tgt := 87) hX dX18_told_20 (by rw [c20_3]; decide) (by rw [c20_3]; decide) (by rw [c20_3]; decide) (by decide) ?_
      refine zw_aload_n hX dX18_told_87 rfl ?_
      refine zw_iconst (v := (-1 : Int32)) hX dX18_told_88 (by decide) ?_
      obtain ⟨_, gi, h⟩ := zb_some h
      obtain ⟨r19, g, h⟩ := zb_some h
      refine zc_Vi (as := [.int (-1 : Int32)]) hX gi (zt_X18_smokes (d := d - 1) (by omega) g) zl_X18_657 rfl dX18_told_89 ⟨rfl, rfl, Nat.le_of_ble_eq_true rfl⟩ ⟨by omega, by omega⟩ ?_
      obtain rfl := Option.some.inj h
      exact zw_iret hX hr dX18_told_92 rfl ⟨rfl, rfl⟩
    rw [if_neg c20_3] at h
    by_cases c20_4 : (i1).toInt = 4
    · rw [if_pos c20_4] at h
      refine zw_tableIn (off := 73) (tgt := 93) hX dX18_told_20 (by rw [c20_4]; decide) (by rw [c20_4]; decide) (by rw [c20_4]; decide) (by decide) ?_
      refine zw_aload_n hX dX18_told_93 rfl ?_
      obtain ⟨b20, g, h⟩ := zb_some h
      refine zw_getr hX zl_X18_49 dX18_told_94 g ?_
      obtain ⟨_, gi, h⟩ := zb_some h
      obtain ⟨r23, g, h⟩ := zb_some h
      refine zc_Vi (as := []) hX gi (zt_X13_many (d := d - 1) (by omega) g) zl_X18_611 rfl dX18_told_97 ⟨rfl, rfl, Nat.le_of_ble_eq_true rfl⟩ ⟨by omega, by omega⟩ ?_
      obtain rfl := Option.some.inj h
      exact zw_iret hX hr dX18_told_100 rfl ⟨rfl, rfl⟩
    rw [if_neg c20_4] at h
    by_cases c20_5 : (i1).toInt = 5
    · rw [if_pos c20_5] at h
      refine zw_tableIn (off := 81) (tgt := 101) hX dX18_told_20 (by rw [c20_5]; decide) (by rw [c20_5]; decide) (by rw [c20_5]; decide) (by decide) ?_
      refine zw_aload_n hX dX18_told_101 rfl ?_
      obtain ⟨_, gi, h⟩ := zb_some h
      obtain ⟨r26, g, h⟩ := zb_some h
      refine zc_Vi (as := []) hX gi (zt_X18_isReleased (d := d - 1) (by omega) g) zl_X18_414 rfl dX18_told_102 ⟨rfl, rfl, Nat.le_of_ble_eq_true rfl⟩ ⟨by omega, by omega⟩ ?_
      refine zw_if_eq (tgt := 112) hX dX18_told_105 (by decide) (fun c105 => ?_) (fun c105 => ?_)
      · rw [if_pos c105] at h
        refine zw_iconst (v := (0 : Int32)) hX dX18_told_112 (by decide) ?_
        obtain rfl := Option.some.inj h
        exact zw_iret hX hr dX18_told_113 rfl ⟨rfl, rfl⟩
      · rw [if_neg c105] at h
        refine zw_iconst (v := (1 : Int32)) hX dX18_told_108 (by decide) ?_
        refine zw_goto (tgt := 113) hX dX18_told_109 (by decide) ?_
        obtain rfl := Option.some.inj h
        exact zw_iret hX hr dX18_told_113 rfl ⟨rfl, rfl⟩
    rw [if_neg c20_5] at h
    by_cases c20_6 : (i1).toInt = 6
    · rw [if_pos c20_6] at h
      refine zw_tableIn (off := 94) (tgt := 114) hX dX18_told_20 (by rw [c20_6]; decide) (by rw [c20_6]; decide) (by rw [c20_6]; decide) (by decide) ?_
      refine zw_aload_n hX dX18_told_114 rfl ?_
      obtain ⟨b27, g, h⟩ := zb_some h
      refine zw_getr hX zl_X18_28 dX18_told_115 g ?_
      refine zw_iconst (v := (1 : Int32)) hX dX18_told_118 (by decide) ?_
      obtain ⟨_, gi, h⟩ := zb_some h
      obtain ⟨r30, g, h⟩ := zb_some h
      refine zc_Vi (as := [.int (1 : Int32)]) hX gi (zt_X14_done (d := d - 1) (by omega) g) zl_X18_404 rfl dX18_told_119 ⟨rfl, rfl, Nat.le_of_ble_eq_true rfl⟩ ⟨by omega, by omega⟩ ?_
      refine zw_if_le (tgt := 129) hX dX18_told_122 (by decide) (fun c122 => ?_) (fun c122 => ?_)
      · rw [if_pos c122] at h
        refine zw_iconst (v := (0 : Int32)) hX dX18_told_129 (by decide) ?_
        obtain rfl := Option.some.inj h
        exact zw_iret hX hr dX18_told_130 rfl ⟨rfl, rfl⟩
      · rw [if_neg c122] at h
        refine zw_iconst (v := (1 : Int32)) hX dX18_told_125 (by decide) ?_
        refine zw_goto (tgt := 130) hX dX18_told_126 (by decide) ?_
        obtain rfl := Option.some.inj h
        exact zw_iret hX hr dX18_told_130 rfl ⟨rfl, rfl⟩
    rw [if_neg c20_6] at h
    by_cases c20_7 : (i1).toInt = 7
    · rw [if_pos c20_7] at h
      refine zw_tableIn (off := 111) (tgt := 131) hX dX18_told_20 (by rw [c20_7]; decide) (by rw [c20_7]; decide) (by rw [c20_7]; decide) (by decide) ?_
      refine zw_aload_n hX dX18_told_131 rfl ?_
      obtain ⟨b31, g, h⟩ := zb_some h
      refine zw_getr hX zl_X18_28 dX18_told_132 g ?_
      refine zw_iconst (v := (4 : Int32)) hX dX18_told_135 (by decide) ?_
      obtain ⟨_, gi, h⟩ := zb_some h
      obtain ⟨r34, g, h⟩ := zb_some h
      refine zc_Vi (as := [.int (4 : Int32)]) hX gi (zt_X14_done (d := d - 1) (by omega) g) zl_X18_404 rfl dX18_told_136 ⟨rfl, rfl, Nat.le_of_ble_eq_true rfl⟩ ⟨by omega, by omega⟩ ?_
      refine zw_if_le (tgt := 146) hX dX18_told_139 (by decide) (fun c139 => ?_) (fun c139 => ?_)
      · rw [if_pos c139] at h
        refine zw_iconst (v := (0 : Int32)) hX dX18_told_146 (by decide) ?_
        obtain rfl := Option.some.inj h
        exact zw_iret hX hr dX18_told_147 rfl ⟨rfl, rfl⟩
      · rw [if_neg c139] at h
        refine zw_iconst (v := (1 : Int32)) hX dX18_told_142 (by decide) ?_
        refine zw_goto (tgt := 147) hX dX18_told_143 (by decide) ?_
        obtain rfl := Option.some.inj h
        exact zw_iret hX hr dX18_told_147 rfl ⟨rfl, rfl⟩
    rw [if_neg c20_7] at h
    refine zw_tableOut (tgt := 148) hX dX18_told_20 (by omega) (by decide) ?_
    refine zw_aload_n hX dX18_told_148 rfl ?_
    obtain ⟨v8, g, h⟩ := zb_some h
    refine zw_geti hX zl_X18_401 dX18_told_149 g ?_
    obtain rfl := Option.some.inj h
    exact zw_iret hX hr dX18_told_152 rfl ⟨rfl, rfl⟩
  · rw [if_pos c14] at h
    refine zw_iconst (v := (0 : Int32)) hX dX18_told_17 (by decide) ?_
    obtain rfl := Option.some.inj h
    exact zw_iret hX hr dX18_told_18 rfl ⟨rfl, rfl⟩
