/-! ===== functions of methods, by program (wip/whole/tools/gen11.py) ===== -/
theorem dX18_nextOne_0 : decode cX18_nextOne 0 = .ok (.iconst (-1), 1) := by decide +kernel
theorem dX18_nextOne_1 : decode cX18_nextOne 1 = .ok (.istore_n 1, 1) := by decide +kernel
theorem dX18_nextOne_2 : decode cX18_nextOne 2 = .ok (.iconst 0, 1) := by decide +kernel
theorem dX18_nextOne_3 : decode cX18_nextOne 3 = .ok (.istore_n 2, 1) := by decide +kernel
theorem dX18_nextOne_4 : decode cX18_nextOne 4 = .ok (.iload_n 2, 1) := by decide +kernel
theorem dX18_nextOne_5 : decode cX18_nextOne 5 = .ok (.aload_n 0, 1) := by decide +kernel
theorem dX18_nextOne_6 : decode cX18_nextOne 6 = .ok (.getfield 369, 3) := by decide +kernel
theorem dX18_nextOne_9 : decode cX18_nextOne 9 = .ok (.if_icmp .ge 134, 3) := by decide +kernel
theorem dX18_nextOne_12 : decode cX18_nextOne 12 = .ok (.aload_n 0, 1) := by decide +kernel
theorem dX18_nextOne_13 : decode cX18_nextOne 13 = .ok (.getfield 181, 3) := by decide +kernel
theorem dX18_nextOne_16 : decode cX18_nextOne 16 = .ok (.iload_n 2, 1) := by decide +kernel
theorem dX18_nextOne_17 : decode cX18_nextOne 17 = .ok (.baload, 1) := by decide +kernel
theorem dX18_nextOne_18 : decode cX18_nextOne 18 = .ok (.ifCond .ne 49, 3) := by decide +kernel
theorem dX18_nextOne_67 : decode cX18_nextOne 67 = .ok (.iconst 0, 1) := by decide +kernel
theorem dX18_nextOne_68 : decode cX18_nextOne 68 = .ok (.istore_n 3, 1) := by decide +kernel
theorem dX18_nextOne_69 : decode cX18_nextOne 69 = .ok (.iload_n 3, 1) := by decide +kernel
theorem dX18_nextOne_70 : decode cX18_nextOne 70 = .ok (.ifCond .eq 27, 3) := by decide +kernel
theorem dX18_nextOne_97 : decode cX18_nextOne 97 = .ok (.iconst 0, 1) := by decide +kernel
theorem dX18_nextOne_98 : decode cX18_nextOne 98 = .ok (.istore 4, 2) := by decide +kernel
theorem dX18_nextOne_100 : decode cX18_nextOne 100 = .ok (.iload 4, 2) := by decide +kernel
theorem dX18_nextOne_102 : decode cX18_nextOne 102 = .ok (.ifCond .le 35, 3) := by decide +kernel
theorem dX18_nextOne_137 : decode cX18_nextOne 137 = .ok (.iinc 2 1, 3) := by decide +kernel
theorem dX18_nextOne_140 : decode cX18_nextOne 140 = .ok (.goto (-136), 3) := by decide +kernel
theorem dX18_nextOne_105 : decode cX18_nextOne 105 = .ok (.iload_n 1, 1) := by decide +kernel
theorem dX18_nextOne_106 : decode cX18_nextOne 106 = .ok (.ifCond .lt 29, 3) := by decide +kernel
theorem dX18_nextOne_135 : decode cX18_nextOne 135 = .ok (.iload_n 2, 1) := by decide +kernel
theorem dX18_nextOne_136 : decode cX18_nextOne 136 = .ok (.istore_n 1, 1) := by decide +kernel
theorem dX18_nextOne_109 : decode cX18_nextOne 109 = .ok (.iload 4, 2) := by decide +kernel
theorem dX18_nextOne_111 : decode cX18_nextOne 111 = .ok (.aload_n 0, 1) := by decide +kernel
theorem dX18_nextOne_112 : decode cX18_nextOne 112 = .ok (.getfield 172, 3) := by decide +kernel
theorem dX18_nextOne_115 : decode cX18_nextOne 115 = .ok (.bipush 24, 2) := by decide +kernel
theorem dX18_nextOne_117 : decode cX18_nextOne 117 = .ok (.aload_n 0, 1) := by decide +kernel
theorem dX18_nextOne_118 : decode cX18_nextOne 118 = .ok (.getfield 112, 3) := by decide +kernel
theorem dX18_nextOne_121 : decode cX18_nextOne 121 = .ok (.iload_n 1, 1) := by decide +kernel
theorem dX18_nextOne_122 : decode cX18_nextOne 122 = .ok (.iaload, 1) := by decide +kernel
theorem dX18_nextOne_123 : decode cX18_nextOne 123 = .ok (.imul, 1) := by decide +kernel
theorem dX18_nextOne_124 : decode cX18_nextOne 124 = .ok (.aload_n 0, 1) := by decide +kernel
theorem dX18_nextOne_125 : decode cX18_nextOne 125 = .ok (.getfield 109, 3) := by decide +kernel
theorem dX18_nextOne_128 : decode cX18_nextOne 128 = .ok (.iload_n 1, 1) := by decide +kernel
theorem dX18_nextOne_129 : decode cX18_nextOne 129 = .ok (.iaload, 1) := by decide +kernel
theorem dX18_nextOne_130 : decode cX18_nextOne 130 = .ok (.iadd, 1) := by decide +kernel
theorem dX18_nextOne_131 : decode cX18_nextOne 131 = .ok (.iaload, 1) := by decide +kernel
theorem dX18_nextOne_132 : decode cX18_nextOne 132 = .ok (.if_icmp .ge 5, 3) := by decide +kernel
theorem dX18_nextOne_73 : decode cX18_nextOne 73 = .ok (.aload_n 0, 1) := by decide +kernel
theorem dX18_nextOne_74 : decode cX18_nextOne 74 = .ok (.getfield 172, 3) := by decide +kernel
theorem dX18_nextOne_77 : decode cX18_nextOne 77 = .ok (.bipush 24, 2) := by decide +kernel
theorem dX18_nextOne_79 : decode cX18_nextOne 79 = .ok (.aload_n 0, 1) := by decide +kernel
theorem dX18_nextOne_80 : decode cX18_nextOne 80 = .ok (.getfield 112, 3) := by decide +kernel
theorem dX18_nextOne_83 : decode cX18_nextOne 83 = .ok (.iload_n 2, 1) := by decide +kernel
theorem dX18_nextOne_84 : decode cX18_nextOne 84 = .ok (.iaload, 1) := by decide +kernel
theorem dX18_nextOne_85 : decode cX18_nextOne 85 = .ok (.imul, 1) := by decide +kernel
theorem dX18_nextOne_86 : decode cX18_nextOne 86 = .ok (.aload_n 0, 1) := by decide +kernel
theorem dX18_nextOne_87 : decode cX18_nextOne 87 = .ok (.getfield 109, 3) := by decide +kernel
theorem dX18_nextOne_90 : decode cX18_nextOne 90 = .ok (.iload_n 2, 1) := by decide +kernel
theorem dX18_nextOne_91 : decode cX18_nextOne 91 = .ok (.iaload, 1) := by decide +kernel
theorem dX18_nextOne_92 : decode cX18_nextOne 92 = .ok (.iadd, 1) := by decide +kernel
theorem dX18_nextOne_93 : decode cX18_nextOne 93 = .ok (.iaload, 1) := by decide +kernel
theorem dX18_nextOne_94 : decode cX18_nextOne 94 = .ok (.goto 4, 3) := by decide +kernel
theorem dX18_nextOne_21 : decode cX18_nextOne 21 = .ok (.aload_n 0, 1) := by decide +kernel
theorem dX18_nextOne_22 : decode cX18_nextOne 22 = .ok (.getfield 106, 3) := by decide +kernel
theorem dX18_nextOne_25 : decode cX18_nextOne 25 = .ok (.iload_n 2, 1) := by decide +kernel
theorem dX18_nextOne_26 : decode cX18_nextOne 26 = .ok (.iaload, 1) := by decide +kernel
theorem dX18_nextOne_27 : decode cX18_nextOne 27 = .ok (.aload_n 0, 1) := by decide +kernel
theorem dX18_nextOne_28 : decode cX18_nextOne 28 = .ok (.getfield 338, 3) := by decide +kernel
theorem dX18_nextOne_31 : decode cX18_nextOne 31 = .ok (.if_icmp .ge 36, 3) := by decide +kernel
theorem dX18_nextOne_34 : decode cX18_nextOne 34 = .ok (.aload_n 0, 1) := by decide +kernel
theorem dX18_nextOne_35 : decode cX18_nextOne 35 = .ok (.getfield 115, 3) := by decide +kernel
theorem dX18_nextOne_38 : decode cX18_nextOne 38 = .ok (.iload_n 2, 1) := by decide +kernel
theorem dX18_nextOne_39 : decode cX18_nextOne 39 = .ok (.iaload, 1) := by decide +kernel
theorem dX18_nextOne_40 : decode cX18_nextOne 40 = .ok (.ifCond .ge 27, 3) := by decide +kernel
theorem dX18_nextOne_43 : decode cX18_nextOne 43 = .ok (.aload_n 0, 1) := by decide +kernel
theorem dX18_nextOne_44 : decode cX18_nextOne 44 = .ok (.getfield 401, 3) := by decide +kernel
theorem dX18_nextOne_47 : decode cX18_nextOne 47 = .ok (.aload_n 0, 1) := by decide +kernel
theorem dX18_nextOne_48 : decode cX18_nextOne 48 = .ok (.getfield 121, 3) := by decide +kernel
theorem dX18_nextOne_51 : decode cX18_nextOne 51 = .ok (.iload_n 2, 1) := by decide +kernel
theorem dX18_nextOne_52 : decode cX18_nextOne 52 = .ok (.iaload, 1) := by decide +kernel
theorem dX18_nextOne_53 : decode cX18_nextOne 53 = .ok (.isub, 1) := by decide +kernel
theorem dX18_nextOne_54 : decode cX18_nextOne 54 = .ok (.aload_n 0, 1) := by decide +kernel
theorem dX18_nextOne_55 : decode cX18_nextOne 55 = .ok (.getfield 103, 3) := by decide +kernel
theorem dX18_nextOne_58 : decode cX18_nextOne 58 = .ok (.iload_n 2, 1) := by decide +kernel
theorem dX18_nextOne_59 : decode cX18_nextOne 59 = .ok (.iaload, 1) := by decide +kernel
theorem dX18_nextOne_60 : decode cX18_nextOne 60 = .ok (.if_icmp .lt 7, 3) := by decide +kernel
theorem dX18_nextOne_63 : decode cX18_nextOne 63 = .ok (.iconst 1, 1) := by decide +kernel
theorem dX18_nextOne_64 : decode cX18_nextOne 64 = .ok (.goto 4, 3) := by decide +kernel
theorem dX18_nextOne_143 : decode cX18_nextOne 143 = .ok (.iload_n 1, 1) := by decide +kernel
theorem dX18_nextOne_144 : decode cX18_nextOne 144 = .ok (.ireturn, 1) := by decide +kernel
theorem dX18_leave_0 : decode cX18_leave 0 = .ok (.iconst 0, 1) := by decide +kernel
theorem dX18_leave_1 : decode cX18_leave 1 = .ok (.istore_n 1, 1) := by decide +kernel
theorem dX18_leave_2 : decode cX18_leave 2 = .ok (.iload_n 1, 1) := by decide +kernel
theorem dX18_leave_3 : decode cX18_leave 3 = .ok (.bipush 120, 2) := by decide +kernel
theorem dX18_leave_5 : decode cX18_leave 5 = .ok (.if_icmp .ge 16, 3) := by decide +kernel
theorem dX18_leave_8 : decode cX18_leave 8 = .ok (.aload_n 0, 1) := by decide +kernel
theorem dX18_leave_9 : decode cX18_leave 9 = .ok (.getfield 178, 3) := by decide +kernel
theorem dX18_leave_12 : decode cX18_leave 12 = .ok (.iload_n 1, 1) := by decide +kernel
theorem dX18_leave_13 : decode cX18_leave 13 = .ok (.iconst 0, 1) := by decide +kernel
theorem dX18_leave_14 : decode cX18_leave 14 = .ok (.iastore, 1) := by decide +kernel
theorem dX18_leave_15 : decode cX18_leave 15 = .ok (.iinc 1 1, 3) := by decide +kernel
theorem dX18_leave_18 : decode cX18_leave 18 = .ok (.goto (-16), 3) := by decide +kernel
theorem dX18_leave_21 : decode cX18_leave 21 = .ok (.iconst 0, 1) := by decide +kernel
theorem dX18_leave_22 : decode cX18_leave 22 = .ok (.istore_n 1, 1) := by decide +kernel
theorem dX18_leave_23 : decode cX18_leave 23 = .ok (.iload_n 1, 1) := by decide +kernel
theorem dX18_leave_24 : decode cX18_leave 24 = .ok (.aload_n 0, 1) := by decide +kernel
theorem dX18_leave_25 : decode cX18_leave 25 = .ok (.getfield 369, 3) := by decide +kernel
theorem dX18_leave_28 : decode cX18_leave 28 = .ok (.if_icmp .ge 16, 3) := by decide +kernel
theorem dX18_leave_31 : decode cX18_leave 31 = .ok (.aload_n 0, 1) := by decide +kernel
theorem dX18_leave_32 : decode cX18_leave 32 = .ok (.getfield 181, 3) := by decide +kernel
theorem dX18_leave_35 : decode cX18_leave 35 = .ok (.iload_n 1, 1) := by decide +kernel
theorem dX18_leave_36 : decode cX18_leave 36 = .ok (.iconst 0, 1) := by decide +kernel
theorem dX18_leave_37 : decode cX18_leave 37 = .ok (.bastore, 1) := by decide +kernel
theorem dX18_leave_38 : decode cX18_leave 38 = .ok (.iinc 1 1, 3) := by decide +kernel
theorem dX18_leave_41 : decode cX18_leave 41 = .ok (.goto (-18), 3) := by decide +kernel
theorem dX18_leave_44 : decode cX18_leave 44 = .ok (.aload_n 0, 1) := by decide +kernel
theorem dX18_leave_45 : decode cX18_leave 45 = .ok (.invokevirtual 666, 3) := by decide +kernel
theorem dX18_leave_48 : decode cX18_leave 48 = .ok (.istore_n 1, 1) := by decide +kernel
theorem dX18_leave_49 : decode cX18_leave 49 = .ok (.iload_n 1, 1) := by decide +kernel
theorem dX18_leave_50 : decode cX18_leave 50 = .ok (.ifCond .lt 23, 3) := by decide +kernel
theorem dX18_leave_53 : decode cX18_leave 53 = .ok (.aload_n 0, 1) := by decide +kernel
theorem dX18_leave_54 : decode cX18_leave 54 = .ok (.getfield 181, 3) := by decide +kernel
theorem dX18_leave_57 : decode cX18_leave 57 = .ok (.iload_n 1, 1) := by decide +kernel
theorem dX18_leave_58 : decode cX18_leave 58 = .ok (.iconst 1, 1) := by decide +kernel
theorem dX18_leave_59 : decode cX18_leave 59 = .ok (.bastore, 1) := by decide +kernel
theorem dX18_leave_60 : decode cX18_leave 60 = .ok (.aload_n 0, 1) := by decide +kernel
theorem dX18_leave_61 : decode cX18_leave 61 = .ok (.iload_n 1, 1) := by decide +kernel
theorem dX18_leave_62 : decode cX18_leave 62 = .ok (.invokevirtual 669, 3) := by decide +kernel
theorem dX18_leave_65 : decode cX18_leave 65 = .ok (.aload_n 0, 1) := by decide +kernel
theorem dX18_leave_66 : decode cX18_leave 66 = .ok (.invokevirtual 666, 3) := by decide +kernel
theorem dX18_leave_69 : decode cX18_leave 69 = .ok (.istore_n 1, 1) := by decide +kernel
theorem dX18_leave_70 : decode cX18_leave 70 = .ok (.goto (-21), 3) := by decide +kernel
theorem dX18_leave_73 : decode cX18_leave 73 = .ok (.return_, 1) := by decide +kernel
theorem dX18_line__0 : decode cX18_line_ 0 = .ok (.iconst 0, 1) := by decide +kernel
theorem dX18_line__1 : decode cX18_line_ 1 = .ok (.istore_n 1, 1) := by decide +kernel
theorem dX18_line__2 : decode cX18_line_ 2 = .ok (.iload_n 1, 1) := by decide +kernel
theorem dX18_line__3 : decode cX18_line_ 3 = .ok (.bipush 30, 2) := by decide +kernel
theorem dX18_line__5 : decode cX18_line_ 5 = .ok (.if_icmp .ge 107, 3) := by decide +kernel
theorem dX18_line__8 : decode cX18_line_ 8 = .ok (.aload_n 0, 1) := by decide +kernel
theorem dX18_line__9 : decode cX18_line_ 9 = .ok (.getfield 42, 3) := by decide +kernel
theorem dX18_line__12 : decode cX18_line_ 12 = .ok (.getfield 581, 3) := by decide +kernel
theorem dX18_line__15 : decode cX18_line_ 15 = .ok (.iconst 1, 1) := by decide +kernel
theorem dX18_line__16 : decode cX18_line_ 16 = .ok (.iaload, 1) := by decide +kernel
theorem dX18_line__17 : decode cX18_line_ 17 = .ok (.istore_n 2, 1) := by decide +kernel
theorem dX18_line__18 : decode cX18_line_ 18 = .ok (.aload_n 0, 1) := by decide +kernel
theorem dX18_line__19 : decode cX18_line_ 19 = .ok (.getfield 42, 3) := by decide +kernel
theorem dX18_line__22 : decode cX18_line_ 22 = .ok (.invokevirtual 673, 3) := by decide +kernel
theorem dX18_line__25 : decode cX18_line_ 25 = .ok (.sipush 256, 3) := by decide +kernel
theorem dX18_line__28 : decode cX18_line_ 28 = .ok (.aload_n 0, 1) := by decide +kernel
theorem dX18_line__29 : decode cX18_line_ 29 = .ok (.getfield 42, 3) := by decide +kernel
theorem dX18_line__32 : decode cX18_line_ 32 = .ok (.getfield 588, 3) := by decide +kernel
theorem dX18_line__35 : decode cX18_line_ 35 = .ok (.iconst 3, 1) := by decide +kernel
theorem dX18_line__36 : decode cX18_line_ 36 = .ok (.iaload, 1) := by decide +kernel
theorem dX18_line__37 : decode cX18_line_ 37 = .ok (.imul, 1) := by decide +kernel
theorem dX18_line__38 : decode cX18_line_ 38 = .ok (.aload_n 0, 1) := by decide +kernel
theorem dX18_line__39 : decode cX18_line_ 39 = .ok (.getfield 42, 3) := by decide +kernel
theorem dX18_line__42 : decode cX18_line_ 42 = .ok (.getfield 588, 3) := by decide +kernel
theorem dX18_line__45 : decode cX18_line_ 45 = .ok (.iconst 4, 1) := by decide +kernel
theorem dX18_line__46 : decode cX18_line_ 46 = .ok (.iaload, 1) := by decide +kernel
theorem dX18_line__47 : decode cX18_line_ 47 = .ok (.iadd, 1) := by decide +kernel
theorem dX18_line__48 : decode cX18_line_ 48 = .ok (.istore_n 3, 1) := by decide +kernel
theorem dX18_line__49 : decode cX18_line_ 49 = .ok (.aload_n 0, 1) := by decide +kernel
theorem dX18_line__50 : decode cX18_line_ 50 = .ok (.getfield 42, 3) := by decide +kernel
theorem dX18_line__53 : decode cX18_line_ 53 = .ok (.getfield 581, 3) := by decide +kernel
theorem dX18_line__56 : decode cX18_line_ 56 = .ok (.iconst 1, 1) := by decide +kernel
theorem dX18_line__57 : decode cX18_line_ 57 = .ok (.iaload, 1) := by decide +kernel
theorem dX18_line__58 : decode cX18_line_ 58 = .ok (.iload_n 2, 1) := by decide +kernel
theorem dX18_line__59 : decode cX18_line_ 59 = .ok (.if_icmp .le 47, 3) := by decide +kernel
theorem dX18_line__106 : decode cX18_line_ 106 = .ok (.iinc 1 1, 3) := by decide +kernel
theorem dX18_line__109 : decode cX18_line_ 109 = .ok (.goto (-107), 3) := by decide +kernel
theorem dX18_line__62 : decode cX18_line_ 62 = .ok (.aload_n 0, 1) := by decide +kernel
theorem dX18_line__63 : decode cX18_line_ 63 = .ok (.getfield 42, 3) := by decide +kernel
theorem dX18_line__66 : decode cX18_line_ 66 = .ok (.getfield 588, 3) := by decide +kernel
theorem dX18_line__69 : decode cX18_line_ 69 = .ok (.iconst 5, 1) := by decide +kernel
theorem dX18_line__70 : decode cX18_line_ 70 = .ok (.iaload, 1) := by decide +kernel
theorem dX18_line__71 : decode cX18_line_ 71 = .ok (.bipush 127, 2) := by decide +kernel
theorem dX18_line__73 : decode cX18_line_ 73 = .ok (.if_icmp .le 33, 3) := by decide +kernel
theorem dX18_line__76 : decode cX18_line_ 76 = .ok (.iload_n 3, 1) := by decide +kernel
theorem dX18_line__77 : decode cX18_line_ 77 = .ok (.iconst 3, 1) := by decide +kernel
theorem dX18_line__78 : decode cX18_line_ 78 = .ok (.if_icmp .le 28, 3) := by decide +kernel
theorem dX18_line__81 : decode cX18_line_ 81 = .ok (.iload_n 3, 1) := by decide +kernel
theorem dX18_line__82 : decode cX18_line_ 82 = .ok (.bipush 10, 2) := by decide +kernel
theorem dX18_line__84 : decode cX18_line_ 84 = .ok (.if_icmp .ge 22, 3) := by decide +kernel
theorem dX18_line__87 : decode cX18_line_ 87 = .ok (.aload_n 0, 1) := by decide +kernel
theorem dX18_line__88 : decode cX18_line_ 88 = .ok (.getfield 35, 3) := by decide +kernel
theorem dX18_line__91 : decode cX18_line_ 91 = .ok (.getfield 474, 3) := by decide +kernel
theorem dX18_line__94 : decode cX18_line_ 94 = .ok (.iload_n 3, 1) := by decide +kernel
theorem dX18_line__95 : decode cX18_line_ 95 = .ok (.aload_n 0, 1) := by decide +kernel
theorem dX18_line__96 : decode cX18_line_ 96 = .ok (.getfield 42, 3) := by decide +kernel
theorem dX18_line__99 : decode cX18_line_ 99 = .ok (.getfield 588, 3) := by decide +kernel
theorem dX18_line__102 : decode cX18_line_ 102 = .ok (.bipush 6, 2) := by decide +kernel
theorem dX18_line__104 : decode cX18_line_ 104 = .ok (.iaload, 1) := by decide +kernel
theorem dX18_line__105 : decode cX18_line_ 105 = .ok (.iastore, 1) := by decide +kernel
theorem dX18_line__112 : decode cX18_line_ 112 = .ok (.return_, 1) := by decide +kernel
theorem dX18_second_0 : decode cX18_second 0 = .ok (.aload_n 0, 1) := by decide +kernel
theorem dX18_second_1 : decode cX18_second 1 = .ok (.dup, 1) := by decide +kernel
theorem dX18_second_2 : decode cX18_second 2 = .ok (.getfield 401, 3) := by decide +kernel
theorem dX18_second_5 : decode cX18_second 5 = .ok (.iconst 1, 1) := by decide +kernel
theorem dX18_second_6 : decode cX18_second 6 = .ok (.iadd, 1) := by decide +kernel
theorem dX18_second_7 : decode cX18_second 7 = .ok (.putfield 401, 3) := by decide +kernel
theorem dX18_second_10 : decode cX18_second 10 = .ok (.aload_n 0, 1) := by decide +kernel
theorem dX18_second_11 : decode cX18_second 11 = .ok (.getfield 28, 3) := by decide +kernel
theorem dX18_second_14 : decode cX18_second 14 = .ok (.aload_n 0, 1) := by decide +kernel
theorem dX18_second_15 : decode cX18_second 15 = .ok (.getfield 401, 3) := by decide +kernel
theorem dX18_second_18 : decode cX18_second 18 = .ok (.putfield 676, 3) := by decide +kernel
theorem dX18_second_21 : decode cX18_second 21 = .ok (.aload_n 0, 1) := by decide +kernel
theorem dX18_second_22 : decode cX18_second 22 = .ok (.getfield 49, 3) := by decide +kernel
theorem dX18_second_25 : decode cX18_second 25 = .ok (.aload_n 0, 1) := by decide +kernel
theorem dX18_second_26 : decode cX18_second 26 = .ok (.getfield 401, 3) := by decide +kernel
theorem dX18_second_29 : decode cX18_second 29 = .ok (.putfield 679, 3) := by decide +kernel
theorem dX18_second_32 : decode cX18_second 32 = .ok (.aload_n 0, 1) := by decide +kernel
theorem dX18_second_33 : decode cX18_second 33 = .ok (.getfield 401, 3) := by decide +kernel
theorem dX18_second_36 : decode cX18_second 36 = .ok (.bipush 10, 2) := by decide +kernel
theorem dX18_second_38 : decode cX18_second 38 = .ok (.irem, 1) := by decide +kernel
theorem dX18_second_39 : decode cX18_second 39 = .ok (.ifCond .ne 7, 3) := by decide +kernel
theorem dX18_second_46 : decode cX18_second 46 = .ok (.aload_n 0, 1) := by decide +kernel
theorem dX18_second_47 : decode cX18_second 47 = .ok (.invokevirtual 683, 3) := by decide +kernel
theorem dX18_second_50 : decode cX18_second 50 = .ok (.aload_n 0, 1) := by decide +kernel
theorem dX18_second_51 : decode cX18_second 51 = .ok (.getfield 28, 3) := by decide +kernel
theorem dX18_second_54 : decode cX18_second 54 = .ok (.iconst 0, 1) := by decide +kernel
theorem dX18_second_55 : decode cX18_second 55 = .ok (.invokevirtual 476, 3) := by decide +kernel
theorem dX18_second_58 : decode cX18_second 58 = .ok (.istore_n 1, 1) := by decide +kernel
theorem dX18_second_59 : decode cX18_second 59 = .ok (.iconst 1, 1) := by decide +kernel
theorem dX18_second_60 : decode cX18_second 60 = .ok (.istore_n 2, 1) := by decide +kernel
theorem dX18_second_61 : decode cX18_second 61 = .ok (.iload_n 1, 1) := by decide +kernel
theorem dX18_second_62 : decode cX18_second 62 = .ok (.ifCond .lt 37, 3) := by decide +kernel
theorem dX18_second_65 : decode cX18_second 65 = .ok (.aload_n 0, 1) := by decide +kernel
theorem dX18_second_66 : decode cX18_second 66 = .ok (.getfield 28, 3) := by decide +kernel
theorem dX18_second_69 : decode cX18_second 69 = .ok (.iload_n 1, 1) := by decide +kernel
theorem dX18_second_70 : decode cX18_second 70 = .ok (.invokevirtual 686, 3) := by decide +kernel
theorem dX18_second_73 : decode cX18_second 73 = .ok (.istore_n 3, 1) := by decide +kernel
theorem dX18_second_74 : decode cX18_second 74 = .ok (.iload_n 3, 1) := by decide +kernel
theorem dX18_second_75 : decode cX18_second 75 = .ok (.ifCond .lt 9, 3) := by decide +kernel
theorem dX18_second_84 : decode cX18_second 84 = .ok (.aload_n 0, 1) := by decide +kernel
theorem dX18_second_85 : decode cX18_second 85 = .ok (.getfield 28, 3) := by decide +kernel
theorem dX18_second_88 : decode cX18_second 88 = .ok (.iload_n 2, 1) := by decide +kernel
theorem dX18_second_89 : decode cX18_second 89 = .ok (.invokevirtual 476, 3) := by decide +kernel
theorem dX18_second_92 : decode cX18_second 92 = .ok (.istore_n 1, 1) := by decide +kernel
theorem dX18_second_93 : decode cX18_second 93 = .ok (.iinc 2 1, 3) := by decide +kernel
theorem dX18_second_96 : decode cX18_second 96 = .ok (.goto (-35), 3) := by decide +kernel
theorem dX18_second_78 : decode cX18_second 78 = .ok (.aload_n 0, 1) := by decide +kernel
theorem dX18_second_79 : decode cX18_second 79 = .ok (.iload_n 1, 1) := by decide +kernel
theorem dX18_second_80 : decode cX18_second 80 = .ok (.iload_n 3, 1) := by decide +kernel
theorem dX18_second_81 : decode cX18_second 81 = .ok (.invokevirtual 482, 3) := by decide +kernel
theorem dX18_second_99 : decode cX18_second 99 = .ok (.aload_n 0, 1) := by decide +kernel
theorem dX18_second_100 : decode cX18_second 100 = .ok (.getfield 35, 3) := by decide +kernel
theorem dX18_second_103 : decode cX18_second 103 = .ok (.getfield 474, 3) := by decide +kernel
theorem dX18_second_106 : decode cX18_second 106 = .ok (.iconst 0, 1) := by decide +kernel
theorem dX18_second_107 : decode cX18_second 107 = .ok (.aload_n 0, 1) := by decide +kernel
theorem dX18_second_108 : decode cX18_second 108 = .ok (.invokevirtual 689, 3) := by decide +kernel
theorem dX18_second_111 : decode cX18_second 111 = .ok (.iastore, 1) := by decide +kernel
theorem dX18_second_112 : decode cX18_second 112 = .ok (.aload_n 0, 1) := by decide +kernel
theorem dX18_second_113 : decode cX18_second 113 = .ok (.getfield 35, 3) := by decide +kernel
theorem dX18_second_116 : decode cX18_second 116 = .ok (.getfield 474, 3) := by decide +kernel
theorem dX18_second_119 : decode cX18_second 119 = .ok (.iconst 1, 1) := by decide +kernel
theorem dX18_second_120 : decode cX18_second 120 = .ok (.aload_n 0, 1) := by decide +kernel
theorem dX18_second_121 : decode cX18_second 121 = .ok (.getfield 28, 3) := by decide +kernel
theorem dX18_second_124 : decode cX18_second 124 = .ok (.iconst (-1), 1) := by decide +kernel
theorem dX18_second_125 : decode cX18_second 125 = .ok (.invokevirtual 404, 3) := by decide +kernel
theorem dX18_second_128 : decode cX18_second 128 = .ok (.iastore, 1) := by decide +kernel
theorem dX18_second_129 : decode cX18_second 129 = .ok (.aload_n 0, 1) := by decide +kernel
theorem dX18_second_130 : decode cX18_second 130 = .ok (.getfield 35, 3) := by decide +kernel
theorem dX18_second_133 : decode cX18_second 133 = .ok (.getfield 474, 3) := by decide +kernel
theorem dX18_second_136 : decode cX18_second 136 = .ok (.iconst 2, 1) := by decide +kernel
theorem dX18_second_137 : decode cX18_second 137 = .ok (.aload_n 0, 1) := by decide +kernel
theorem dX18_second_138 : decode cX18_second 138 = .ok (.iconst (-1), 1) := by decide +kernel
theorem dX18_second_139 : decode cX18_second 139 = .ok (.invokevirtual 657, 3) := by decide +kernel
theorem dX18_second_142 : decode cX18_second 142 = .ok (.iastore, 1) := by decide +kernel
theorem dX18_second_143 : decode cX18_second 143 = .ok (.aload_n 0, 1) := by decide +kernel
theorem dX18_second_144 : decode cX18_second 144 = .ok (.getfield 35, 3) := by decide +kernel
theorem dX18_second_147 : decode cX18_second 147 = .ok (.getfield 474, 3) := by decide +kernel
theorem dX18_second_150 : decode cX18_second 150 = .ok (.iconst 3, 1) := by decide +kernel
theorem dX18_second_151 : decode cX18_second 151 = .ok (.aload_n 0, 1) := by decide +kernel
theorem dX18_second_152 : decode cX18_second 152 = .ok (.getfield 49, 3) := by decide +kernel
theorem dX18_second_155 : decode cX18_second 155 = .ok (.invokevirtual 611, 3) := by decide +kernel
theorem dX18_second_158 : decode cX18_second 158 = .ok (.iastore, 1) := by decide +kernel
theorem dX18_second_159 : decode cX18_second 159 = .ok (.aload_n 0, 1) := by decide +kernel
theorem dX18_second_160 : decode cX18_second 160 = .ok (.getfield 35, 3) := by decide +kernel
theorem dX18_second_163 : decode cX18_second 163 = .ok (.aload_n 0, 1) := by decide +kernel
theorem dX18_second_164 : decode cX18_second 164 = .ok (.getfield 401, 3) := by decide +kernel
theorem dX18_second_167 : decode cX18_second 167 = .ok (.bipush 60, 2) := by decide +kernel
theorem dX18_second_169 : decode cX18_second 169 = .ok (.idiv, 1) := by decide +kernel
theorem dX18_second_170 : decode cX18_second 170 = .ok (.putfield 692, 3) := by decide +kernel
theorem dX18_second_173 : decode cX18_second 173 = .ok (.aload_n 0, 1) := by decide +kernel
theorem dX18_second_174 : decode cX18_second 174 = .ok (.getfield 35, 3) := by decide +kernel
theorem dX18_second_177 : decode cX18_second 177 = .ok (.invokevirtual 695, 3) := by decide +kernel
theorem dX18_second_180 : decode cX18_second 180 = .ok (.aload_n 0, 1) := by decide +kernel
theorem dX18_second_181 : decode cX18_second 181 = .ok (.invokevirtual 698, 3) := by decide +kernel
theorem dX18_second_184 : decode cX18_second 184 = .ok (.iconst 0, 1) := by decide +kernel
theorem dX18_second_185 : decode cX18_second 185 = .ok (.istore_n 2, 1) := by decide +kernel
theorem dX18_second_186 : decode cX18_second 186 = .ok (.iload_n 2, 1) := by decide +kernel
theorem dX18_second_187 : decode cX18_second 187 = .ok (.aload_n 0, 1) := by decide +kernel
theorem dX18_second_188 : decode cX18_second 188 = .ok (.getfield 369, 3) := by decide +kernel
theorem dX18_second_191 : decode cX18_second 191 = .ok (.if_icmp .ge 65, 3) := by decide +kernel
theorem dX18_second_194 : decode cX18_second 194 = .ok (.aload_n 0, 1) := by decide +kernel
theorem dX18_second_195 : decode cX18_second 195 = .ok (.getfield 106, 3) := by decide +kernel
theorem dX18_second_198 : decode cX18_second 198 = .ok (.iload_n 2, 1) := by decide +kernel
theorem dX18_second_199 : decode cX18_second 199 = .ok (.iaload, 1) := by decide +kernel
theorem dX18_second_200 : decode cX18_second 200 = .ok (.aload_n 0, 1) := by decide +kernel
theorem dX18_second_201 : decode cX18_second 201 = .ok (.getfield 338, 3) := by decide +kernel
theorem dX18_second_204 : decode cX18_second 204 = .ok (.if_icmp .ge 46, 3) := by decide +kernel
theorem dX18_second_250 : decode cX18_second 250 = .ok (.iinc 2 1, 3) := by decide +kernel
theorem dX18_second_253 : decode cX18_second 253 = .ok (.goto (-67), 3) := by decide +kernel
theorem dX18_second_207 : decode cX18_second 207 = .ok (.aload_n 0, 1) := by decide +kernel
theorem dX18_second_208 : decode cX18_second 208 = .ok (.getfield 115, 3) := by decide +kernel
theorem dX18_second_211 : decode cX18_second 211 = .ok (.iload_n 2, 1) := by decide +kernel
theorem dX18_second_212 : decode cX18_second 212 = .ok (.iaload, 1) := by decide +kernel
theorem dX18_second_213 : decode cX18_second 213 = .ok (.ifCond .ge 37, 3) := by decide +kernel
theorem dX18_second_216 : decode cX18_second 216 = .ok (.aload_n 0, 1) := by decide +kernel
theorem dX18_second_217 : decode cX18_second 217 = .ok (.getfield 166, 3) := by decide +kernel
theorem dX18_second_220 : decode cX18_second 220 = .ok (.bipush 24, 2) := by decide +kernel
theorem dX18_second_222 : decode cX18_second 222 = .ok (.aload_n 0, 1) := by decide +kernel
theorem dX18_second_223 : decode cX18_second 223 = .ok (.getfield 112, 3) := by decide +kernel
theorem dX18_second_226 : decode cX18_second 226 = .ok (.iload_n 2, 1) := by decide +kernel
theorem dX18_second_227 : decode cX18_second 227 = .ok (.iaload, 1) := by decide +kernel
theorem dX18_second_228 : decode cX18_second 228 = .ok (.imul, 1) := by decide +kernel
theorem dX18_second_229 : decode cX18_second 229 = .ok (.aload_n 0, 1) := by decide +kernel
theorem dX18_second_230 : decode cX18_second 230 = .ok (.getfield 109, 3) := by decide +kernel
theorem dX18_second_233 : decode cX18_second 233 = .ok (.iload_n 2, 1) := by decide +kernel
theorem dX18_second_234 : decode cX18_second 234 = .ok (.iaload, 1) := by decide +kernel
theorem dX18_second_235 : decode cX18_second 235 = .ok (.iadd, 1) := by decide +kernel
theorem dX18_second_236 : decode cX18_second 236 = .ok (.baload, 1) := by decide +kernel
theorem dX18_second_237 : decode cX18_second 237 = .ok (.ifCond .eq 13, 3) := by decide +kernel
theorem dX18_second_240 : decode cX18_second 240 = .ok (.aload_n 0, 1) := by decide +kernel
theorem dX18_second_241 : decode cX18_second 241 = .ok (.getfield 115, 3) := by decide +kernel
theorem dX18_second_244 : decode cX18_second 244 = .ok (.iload_n 2, 1) := by decide +kernel
theorem dX18_second_245 : decode cX18_second 245 = .ok (.aload_n 0, 1) := by decide +kernel
theorem dX18_second_246 : decode cX18_second 246 = .ok (.getfield 401, 3) := by decide +kernel
theorem dX18_second_249 : decode cX18_second 249 = .ok (.iastore, 1) := by decide +kernel
theorem dX18_second_256 : decode cX18_second 256 = .ok (.aload_n 0, 1) := by decide +kernel
theorem dX18_second_257 : decode cX18_second 257 = .ok (.getfield 28, 3) := by decide +kernel
theorem dX18_second_260 : decode cX18_second 260 = .ok (.iconst 4, 1) := by decide +kernel
theorem dX18_second_261 : decode cX18_second 261 = .ok (.invokevirtual 404, 3) := by decide +kernel
theorem dX18_second_264 : decode cX18_second 264 = .ok (.ifCond .le 7, 3) := by decide +kernel
theorem dX18_second_271 : decode cX18_second 271 = .ok (.return_, 1) := by decide +kernel
theorem dX18_second_267 : decode cX18_second 267 = .ok (.aload_n 0, 1) := by decide +kernel
theorem dX18_second_268 : decode cX18_second 268 = .ok (.invokevirtual 700, 3) := by decide +kernel
theorem dX18_second_42 : decode cX18_second 42 = .ok (.aload_n 0, 1) := by decide +kernel
theorem dX18_second_43 : decode cX18_second 43 = .ok (.invokevirtual 680, 3) := by decide +kernel
theorem dX18_pass_0 : decode cX18_pass 0 = .ok (.aload_n 0, 1) := by decide +kernel
theorem dX18_pass_1 : decode cX18_pass 1 = .ok (.iload_n 1, 1) := by decide +kernel
theorem dX18_pass_2 : decode cX18_pass 2 = .ok (.iconst 1, 1) := by decide +kernel
theorem dX18_pass_3 : decode cX18_pass 3 = .ok (.if_icmp .lt 13, 3) := by decide +kernel
theorem dX18_pass_16 : decode cX18_pass 16 = .ok (.iconst 0, 1) := by decide +kernel
theorem dX18_pass_17 : decode cX18_pass 17 = .ok (.aload_n 0, 1) := by decide +kernel
theorem dX18_pass_18 : decode cX18_pass 18 = .ok (.getfield 192, 3) := by decide +kernel
theorem dX18_pass_21 : decode cX18_pass 21 = .ok (.ifCond .eq 19, 3) := by decide +kernel
theorem dX18_pass_40 : decode cX18_pass 40 = .ok (.iconst 0, 1) := by decide +kernel
theorem dX18_pass_41 : decode cX18_pass 41 = .ok (.invokevirtual 199, 3) := by decide +kernel
theorem dX18_pass_44 : decode cX18_pass 44 = .ok (.ifCond .ne 5, 3) := by decide +kernel
theorem dX18_pass_49 : decode cX18_pass 49 = .ok (.iconst 0, 1) := by decide +kernel
theorem dX18_pass_50 : decode cX18_pass 50 = .ok (.istore_n 2, 1) := by decide +kernel
theorem dX18_pass_51 : decode cX18_pass 51 = .ok (.iload_n 2, 1) := by decide +kernel
theorem dX18_pass_52 : decode cX18_pass 52 = .ok (.iload_n 1, 1) := by decide +kernel
theorem dX18_pass_53 : decode cX18_pass 53 = .ok (.if_icmp .ge 13, 3) := by decide +kernel
theorem dX18_pass_56 : decode cX18_pass 56 = .ok (.aload_n 0, 1) := by decide +kernel
theorem dX18_pass_57 : decode cX18_pass 57 = .ok (.invokevirtual 703, 3) := by decide +kernel
theorem dX18_pass_60 : decode cX18_pass 60 = .ok (.iinc 2 1, 3) := by decide +kernel
theorem dX18_pass_63 : decode cX18_pass 63 = .ok (.goto (-12), 3) := by decide +kernel
theorem dX18_pass_66 : decode cX18_pass 66 = .ok (.aload_n 0, 1) := by decide +kernel
theorem dX18_pass_67 : decode cX18_pass 67 = .ok (.getfield 401, 3) := by decide +kernel
theorem dX18_pass_70 : decode cX18_pass 70 = .ok (.ireturn, 1) := by decide +kernel
theorem dX18_pass_47 : decode cX18_pass 47 = .ok (.iconst 0, 1) := by decide +kernel
theorem dX18_pass_48 : decode cX18_pass 48 = .ok (.ireturn, 1) := by decide +kernel
theorem dX18_pass_24 : decode cX18_pass 24 = .ok (.aload_n 0, 1) := by decide +kernel
theorem dX18_pass_25 : decode cX18_pass 25 = .ok (.getfield 401, 3) := by decide +kernel
theorem dX18_pass_28 : decode cX18_pass 28 = .ok (.iload_n 1, 1) := by decide +kernel
theorem dX18_pass_29 : decode cX18_pass 29 = .ok (.iadd, 1) := by decide +kernel
theorem dX18_pass_30 : decode cX18_pass 30 = .ok (.sipush 6000, 3) := by decide +kernel
theorem dX18_pass_33 : decode cX18_pass 33 = .ok (.if_icmp .gt 7, 3) := by decide +kernel
theorem dX18_pass_36 : decode cX18_pass 36 = .ok (.iconst 1, 1) := by decide +kernel
theorem dX18_pass_37 : decode cX18_pass 37 = .ok (.goto 4, 3) := by decide +kernel
theorem dX18_pass_6 : decode cX18_pass 6 = .ok (.iload_n 1, 1) := by decide +kernel
theorem dX18_pass_7 : decode cX18_pass 7 = .ok (.bipush 60, 2) := by decide +kernel
theorem dX18_pass_9 : decode cX18_pass 9 = .ok (.if_icmp .gt 7, 3) := by decide +kernel
theorem dX18_pass_12 : decode cX18_pass 12 = .ok (.iconst 1, 1) := by decide +kernel
theorem dX18_pass_13 : decode cX18_pass 13 = .ok (.goto 4, 3) := by decide +kernel
theorem dX18_told_0 : decode cX18_told 0 = .ok (.aload_n 0, 1) := by decide +kernel
theorem dX18_told_1 : decode cX18_told 1 = .ok (.iload_n 1, 1) := by decide +kernel
theorem dX18_told_2 : decode cX18_told 2 = .ok (.bipush 9, 2) := by decide +kernel
theorem dX18_told_4 : decode cX18_told 4 = .ok (.invokestatic 207, 3) := by decide +kernel
theorem dX18_told_7 : decode cX18_told 7 = .ok (.aload_n 0, 1) := by decide +kernel
theorem dX18_told_8 : decode cX18_told 8 = .ok (.getfield 192, 3) := by decide +kernel
theorem dX18_told_11 : decode cX18_told 11 = .ok (.invokevirtual 199, 3) := by decide +kernel
theorem dX18_told_14 : decode cX18_told 14 = .ok (.ifCond .ne 5, 3) := by decide +kernel
theorem dX18_told_19 : decode cX18_told 19 = .ok (.iload_n 1, 1) := by decide +kernel
theorem dX18_told_20 : decode cX18_told 20 = .ok (.tableswitch 128 0 7 #[48, 53, 58, 67, 73, 81, 94, 111], 48) := by decide +kernel
theorem dX18_told_148 : decode cX18_told 148 = .ok (.aload_n 0, 1) := by decide +kernel
theorem dX18_told_149 : decode cX18_told 149 = .ok (.getfield 401, 3) := by decide +kernel
theorem dX18_told_152 : decode cX18_told 152 = .ok (.ireturn, 1) := by decide +kernel
theorem dX18_told_68 : decode cX18_told 68 = .ok (.aload_n 0, 1) := by decide +kernel
theorem dX18_told_69 : decode cX18_told 69 = .ok (.getfield 351, 3) := by decide +kernel
theorem dX18_told_72 : decode cX18_told 72 = .ok (.ireturn, 1) := by decide +kernel
theorem dX18_told_73 : decode cX18_told 73 = .ok (.aload_n 0, 1) := by decide +kernel
theorem dX18_told_74 : decode cX18_told 74 = .ok (.invokevirtual 689, 3) := by decide +kernel
theorem dX18_told_77 : decode cX18_told 77 = .ok (.ireturn, 1) := by decide +kernel
theorem dX18_told_78 : decode cX18_told 78 = .ok (.aload_n 0, 1) := by decide +kernel
theorem dX18_told_79 : decode cX18_told 79 = .ok (.getfield 28, 3) := by decide +kernel
theorem dX18_told_82 : decode cX18_told 82 = .ok (.iconst (-1), 1) := by decide +kernel
theorem dX18_told_83 : decode cX18_told 83 = .ok (.invokevirtual 404, 3) := by decide +kernel
theorem dX18_told_86 : decode cX18_told 86 = .ok (.ireturn, 1) := by decide +kernel
theorem dX18_told_87 : decode cX18_told 87 = .ok (.aload_n 0, 1) := by decide +kernel
theorem dX18_told_88 : decode cX18_told 88 = .ok (.iconst (-1), 1) := by decide +kernel
theorem dX18_told_89 : decode cX18_told 89 = .ok (.invokevirtual 657, 3) := by decide +kernel
theorem dX18_told_92 : decode cX18_told 92 = .ok (.ireturn, 1) := by decide +kernel
theorem dX18_told_93 : decode cX18_told 93 = .ok (.aload_n 0, 1) := by decide +kernel
theorem dX18_told_94 : decode cX18_told 94 = .ok (.getfield 49, 3) := by decide +kernel
theorem dX18_told_97 : decode cX18_told 97 = .ok (.invokevirtual 611, 3) := by decide +kernel
theorem dX18_told_100 : decode cX18_told 100 = .ok (.ireturn, 1) := by decide +kernel
theorem dX18_told_101 : decode cX18_told 101 = .ok (.aload_n 0, 1) := by decide +kernel
theorem dX18_told_102 : decode cX18_told 102 = .ok (.invokevirtual 414, 3) := by decide +kernel
theorem dX18_told_105 : decode cX18_told 105 = .ok (.ifCond .eq 7, 3) := by decide +kernel
theorem dX18_told_112 : decode cX18_told 112 = .ok (.iconst 0, 1) := by decide +kernel
theorem dX18_told_113 : decode cX18_told 113 = .ok (.ireturn, 1) := by decide +kernel
theorem dX18_told_108 : decode cX18_told 108 = .ok (.iconst 1, 1) := by decide +kernel
theorem dX18_told_109 : decode cX18_told 109 = .ok (.goto 4, 3) := by decide +kernel
theorem dX18_told_114 : decode cX18_told 114 = .ok (.aload_n 0, 1) := by decide +kernel
theorem dX18_told_115 : decode cX18_told 115 = .ok (.getfield 28, 3) := by decide +kernel
theorem dX18_told_118 : decode cX18_told 118 = .ok (.iconst 1, 1) := by decide +kernel
theorem dX18_told_119 : decode cX18_told 119 = .ok (.invokevirtual 404, 3) := by decide +kernel
theorem dX18_told_122 : decode cX18_told 122 = .ok (.ifCond .le 7, 3) := by decide +kernel
theorem dX18_told_129 : decode cX18_told 129 = .ok (.iconst 0, 1) := by decide +kernel
theorem dX18_told_130 : decode cX18_told 130 = .ok (.ireturn, 1) := by decide +kernel
theorem dX18_told_125 : decode cX18_told 125 = .ok (.iconst 1, 1) := by decide +kernel
theorem dX18_told_126 : decode cX18_told 126 = .ok (.goto 4, 3) := by decide +kernel
theorem dX18_told_131 : decode cX18_told 131 = .ok (.aload_n 0, 1) := by decide +kernel
theorem dX18_told_132 : decode cX18_told 132 = .ok (.getfield 28, 3) := by decide +kernel
theorem dX18_told_135 : decode cX18_told 135 = .ok (.iconst 4, 1) := by decide +kernel
theorem dX18_told_136 : decode cX18_told 136 = .ok (.invokevirtual 404, 3) := by decide +kernel
theorem dX18_told_139 : decode cX18_told 139 = .ok (.ifCond .le 7, 3) := by decide +kernel
theorem dX18_told_146 : decode cX18_told 146 = .ok (.iconst 0, 1) := by decide +kernel
theorem dX18_told_147 : decode cX18_told 147 = .ok (.ireturn, 1) := by decide +kernel
theorem dX18_told_142 : decode cX18_told 142 = .ok (.iconst 1, 1) := by decide +kernel
theorem dX18_told_143 : decode cX18_told 143 = .ok (.goto 4, 3) := by decide +kernel
theorem dX18_told_17 : decode cX18_told 17 = .ok (.iconst 0, 1) := by decide +kernel
theorem dX18_told_18 : decode cX18_told 18 = .ok (.ireturn, 1) := by decide +kernel
theorem dX11_init_0 : decode cX11_init 0 = .ok (.aload_n 0, 1) := by decide +kernel
theorem dX11_init_1 : decode cX11_init 1 = .ok (.invokespecial 1, 3) := by decide +kernel
theorem dX11_init_4 : decode cX11_init 4 = .ok (.aload_n 0, 1) := by decide +kernel
theorem dX11_init_5 : decode cX11_init 5 = .ok (.new 7, 3) := by decide +kernel
theorem dX11_init_8 : decode cX11_init 8 = .ok (.dup, 1) := by decide +kernel
theorem dX11_init_9 : decode cX11_init 9 = .ok (.invokespecial 9, 3) := by decide +kernel
theorem dX11_init_12 : decode cX11_init 12 = .ok (.putfield 10, 3) := by decide +kernel
theorem dX11_init_15 : decode cX11_init 15 = .ok (.aload_n 0, 1) := by decide +kernel
theorem dX11_init_16 : decode cX11_init 16 = .ok (.new 16, 3) := by decide +kernel
theorem dX11_init_19 : decode cX11_init 19 = .ok (.dup, 1) := by decide +kernel
theorem dX11_init_20 : decode cX11_init 20 = .ok (.aload_n 0, 1) := by decide +kernel
theorem dX11_init_21 : decode cX11_init 21 = .ok (.getfield 10, 3) := by decide +kernel
theorem dX11_init_24 : decode cX11_init 24 = .ok (.invokespecial 18, 3) := by decide +kernel
theorem dX11_init_27 : decode cX11_init 27 = .ok (.putfield 21, 3) := by decide +kernel
theorem dX11_init_30 : decode cX11_init 30 = .ok (.aload_n 0, 1) := by decide +kernel
theorem dX11_init_31 : decode cX11_init 31 = .ok (.new 25, 3) := by decide +kernel
theorem dX11_init_34 : decode cX11_init 34 = .ok (.dup, 1) := by decide +kernel
theorem dX11_init_35 : decode cX11_init 35 = .ok (.invokespecial 27, 3) := by decide +kernel
theorem dX11_init_38 : decode cX11_init 38 = .ok (.putfield 28, 3) := by decide +kernel
theorem dX11_init_41 : decode cX11_init 41 = .ok (.aload_n 0, 1) := by decide +kernel
theorem dX11_init_42 : decode cX11_init 42 = .ok (.new 32, 3) := by decide +kernel
theorem dX11_init_45 : decode cX11_init 45 = .ok (.dup, 1) := by decide +kernel
theorem dX11_init_46 : decode cX11_init 46 = .ok (.invokespecial 34, 3) := by decide +kernel
theorem dX11_init_49 : decode cX11_init 49 = .ok (.putfield 35, 3) := by decide +kernel
theorem dX11_init_52 : decode cX11_init 52 = .ok (.aload_n 0, 1) := by decide +kernel
theorem dX11_init_53 : decode cX11_init 53 = .ok (.new 39, 3) := by decide +kernel
theorem dX11_init_56 : decode cX11_init 56 = .ok (.dup, 1) := by decide +kernel
theorem dX11_init_57 : decode cX11_init 57 = .ok (.aload_n 0, 1) := by decide +kernel
theorem dX11_init_58 : decode cX11_init 58 = .ok (.getfield 10, 3) := by decide +kernel
theorem dX11_init_61 : decode cX11_init 61 = .ok (.aload_n 0, 1) := by decide +kernel
theorem dX11_init_62 : decode cX11_init 62 = .ok (.getfield 21, 3) := by decide +kernel
theorem dX11_init_65 : decode cX11_init 65 = .ok (.invokespecial 41, 3) := by decide +kernel
theorem dX11_init_68 : decode cX11_init 68 = .ok (.putfield 44, 3) := by decide +kernel
theorem dX11_init_71 : decode cX11_init 71 = .ok (.aload_n 0, 1) := by decide +kernel
theorem dX11_init_72 : decode cX11_init 72 = .ok (.new 48, 3) := by decide +kernel
theorem dX11_init_75 : decode cX11_init 75 = .ok (.dup, 1) := by decide +kernel
theorem dX11_init_76 : decode cX11_init 76 = .ok (.aload_n 0, 1) := by decide +kernel
theorem dX11_init_77 : decode cX11_init 77 = .ok (.getfield 10, 3) := by decide +kernel
theorem dX11_init_80 : decode cX11_init 80 = .ok (.aload_n 0, 1) := by decide +kernel
theorem dX11_init_81 : decode cX11_init 81 = .ok (.getfield 21, 3) := by decide +kernel
theorem dX11_init_84 : decode cX11_init 84 = .ok (.aload_n 0, 1) := by decide +kernel
theorem dX11_init_85 : decode cX11_init 85 = .ok (.getfield 44, 3) := by decide +kernel
theorem dX11_init_88 : decode cX11_init 88 = .ok (.invokespecial 50, 3) := by decide +kernel
theorem dX11_init_91 : decode cX11_init 91 = .ok (.putfield 53, 3) := by decide +kernel
theorem dX11_init_94 : decode cX11_init 94 = .ok (.aload_n 0, 1) := by decide +kernel
theorem dX11_init_95 : decode cX11_init 95 = .ok (.new 57, 3) := by decide +kernel
theorem dX11_init_98 : decode cX11_init 98 = .ok (.dup, 1) := by decide +kernel
theorem dX11_init_99 : decode cX11_init 99 = .ok (.invokespecial 59, 3) := by decide +kernel
theorem dX11_init_102 : decode cX11_init 102 = .ok (.putfield 60, 3) := by decide +kernel
theorem dX11_init_105 : decode cX11_init 105 = .ok (.aload_n 0, 1) := by decide +kernel
theorem dX11_init_106 : decode cX11_init 106 = .ok (.new 64, 3) := by decide +kernel
theorem dX11_init_109 : decode cX11_init 109 = .ok (.dup, 1) := by decide +kernel
theorem dX11_init_110 : decode cX11_init 110 = .ok (.invokespecial 66, 3) := by decide +kernel
theorem dX11_init_113 : decode cX11_init 113 = .ok (.putfield 67, 3) := by decide +kernel
theorem dX11_init_116 : decode cX11_init 116 = .ok (.aload_n 0, 1) := by decide +kernel
theorem dX11_init_117 : decode cX11_init 117 = .ok (.new 71, 3) := by decide +kernel
theorem dX11_init_120 : decode cX11_init 120 = .ok (.dup, 1) := by decide +kernel
theorem dX11_init_121 : decode cX11_init 121 = .ok (.aload_n 0, 1) := by decide +kernel
theorem dX11_init_122 : decode cX11_init 122 = .ok (.getfield 67, 3) := by decide +kernel
theorem dX11_init_125 : decode cX11_init 125 = .ok (.invokespecial 73, 3) := by decide +kernel
theorem dX11_init_128 : decode cX11_init 128 = .ok (.putfield 76, 3) := by decide +kernel
theorem dX11_init_131 : decode cX11_init 131 = .ok (.aload_n 0, 1) := by decide +kernel
theorem dX11_init_132 : decode cX11_init 132 = .ok (.new 80, 3) := by decide +kernel
theorem dX11_init_135 : decode cX11_init 135 = .ok (.dup, 1) := by decide +kernel
theorem dX11_init_136 : decode cX11_init 136 = .ok (.aload_n 0, 1) := by decide +kernel
theorem dX11_init_137 : decode cX11_init 137 = .ok (.getfield 67, 3) := by decide +kernel
theorem dX11_init_140 : decode cX11_init 140 = .ok (.aload_n 0, 1) := by decide +kernel
theorem dX11_init_141 : decode cX11_init 141 = .ok (.getfield 76, 3) := by decide +kernel
theorem dX11_init_144 : decode cX11_init 144 = .ok (.invokespecial 82, 3) := by decide +kernel
theorem dX11_init_147 : decode cX11_init 147 = .ok (.putfield 85, 3) := by decide +kernel
theorem dX11_init_150 : decode cX11_init 150 = .ok (.aload_n 0, 1) := by decide +kernel
theorem dX11_init_151 : decode cX11_init 151 = .ok (.new 89, 3) := by decide +kernel
theorem dX11_init_154 : decode cX11_init 154 = .ok (.dup, 1) := by decide +kernel
theorem dX11_init_155 : decode cX11_init 155 = .ok (.invokespecial 91, 3) := by decide +kernel
theorem dX11_init_158 : decode cX11_init 158 = .ok (.putfield 92, 3) := by decide +kernel
theorem dX11_init_161 : decode cX11_init 161 = .ok (.return_, 1) := by decide +kernel
theorem dX11_isWithin_0 : decode cX11_isWithin 0 = .ok (.iload_n 0, 1) := by decide +kernel
theorem dX11_isWithin_1 : decode cX11_isWithin 1 = .ok (.iload_n 1, 1) := by decide +kernel
theorem dX11_isWithin_2 : decode cX11_isWithin 2 = .ok (.if_icmp .lt 12, 3) := by decide +kernel
theorem dX11_isWithin_14 : decode cX11_isWithin 14 = .ok (.iconst 0, 1) := by decide +kernel
theorem dX11_isWithin_15 : decode cX11_isWithin 15 = .ok (.ireturn, 1) := by decide +kernel
theorem dX11_isWithin_5 : decode cX11_isWithin 5 = .ok (.iload_n 0, 1) := by decide +kernel
theorem dX11_isWithin_6 : decode cX11_isWithin 6 = .ok (.iload_n 2, 1) := by decide +kernel
theorem dX11_isWithin_7 : decode cX11_isWithin 7 = .ok (.if_icmp .gt 7, 3) := by decide +kernel
theorem dX11_isWithin_10 : decode cX11_isWithin 10 = .ok (.iconst 1, 1) := by decide +kernel
theorem dX11_isWithin_11 : decode cX11_isWithin 11 = .ok (.goto 4, 3) := by decide +kernel
theorem dX11_isOnPlan_0 : decode cX11_isOnPlan 0 = .ok (.iload_n 0, 1) := by decide +kernel
theorem dX11_isOnPlan_1 : decode cX11_isOnPlan 1 = .ok (.iconst 0, 1) := by decide +kernel
theorem dX11_isOnPlan_2 : decode cX11_isOnPlan 2 = .ok (.bipush 24, 2) := by decide +kernel
theorem dX11_isOnPlan_4 : decode cX11_isOnPlan 4 = .ok (.invokestatic 133, 3) := by decide +kernel
theorem dX11_isOnPlan_7 : decode cX11_isOnPlan 7 = .ok (.ifCond .eq 17, 3) := by decide +kernel
theorem dX11_isOnPlan_24 : decode cX11_isOnPlan 24 = .ok (.iconst 0, 1) := by decide +kernel
theorem dX11_isOnPlan_25 : decode cX11_isOnPlan 25 = .ok (.ireturn, 1) := by decide +kernel
theorem dX11_isOnPlan_10 : decode cX11_isOnPlan 10 = .ok (.iload_n 1, 1) := by decide +kernel
theorem dX11_isOnPlan_11 : decode cX11_isOnPlan 11 = .ok (.iconst 0, 1) := by decide +kernel
theorem dX11_isOnPlan_12 : decode cX11_isOnPlan 12 = .ok (.bipush 24, 2) := by decide +kernel
theorem dX11_isOnPlan_14 : decode cX11_isOnPlan 14 = .ok (.invokestatic 133, 3) := by decide +kernel
theorem dX11_isOnPlan_17 : decode cX11_isOnPlan 17 = .ok (.ifCond .eq 7, 3) := by decide +kernel
theorem dX11_isOnPlan_20 : decode cX11_isOnPlan 20 = .ok (.iconst 1, 1) := by decide +kernel
theorem dX11_isOnPlan_21 : decode cX11_isOnPlan 21 = .ok (.goto 4, 3) := by decide +kernel
theorem dX11_line_0 : decode cX11_line 0 = .ok (.iload_n 1, 1) := by decide +kernel
theorem dX11_line_1 : decode cX11_line 1 = .ok (.iload_n 2, 1) := by decide +kernel
theorem dX11_line_2 : decode cX11_line 2 = .ok (.invokestatic 96, 3) := by decide +kernel
theorem dX11_line_5 : decode cX11_line 5 = .ok (.ifCond .eq 16, 3) := by decide +kernel
theorem dX11_line_21 : decode cX11_line 21 = .ok (.iconst 0, 1) := by decide +kernel
theorem dX11_line_22 : decode cX11_line 22 = .ok (.invokestatic 100, 3) := by decide +kernel
theorem dX11_line_25 : decode cX11_line 25 = .ok (.iload_n 1, 1) := by decide +kernel
theorem dX11_line_26 : decode cX11_line 26 = .ok (.iload_n 3, 1) := by decide +kernel
theorem dX11_line_27 : decode cX11_line 27 = .ok (.if_icmp .ne 7, 3) := by decide +kernel
theorem dX11_line_34 : decode cX11_line 34 = .ok (.iconst 0, 1) := by decide +kernel
theorem dX11_line_35 : decode cX11_line 35 = .ok (.iload_n 2, 1) := by decide +kernel
theorem dX11_line_36 : decode cX11_line 36 = .ok (.iload 4, 2) := by decide +kernel
theorem dX11_line_38 : decode cX11_line 38 = .ok (.if_icmp .ne 7, 3) := by decide +kernel
theorem dX11_line_45 : decode cX11_line 45 = .ok (.iconst 0, 1) := by decide +kernel
theorem dX11_line_46 : decode cX11_line 46 = .ok (.if_icmp .eq 7, 3) := by decide +kernel
theorem dX11_line_53 : decode cX11_line 53 = .ok (.iconst 0, 1) := by decide +kernel
theorem dX11_line_54 : decode cX11_line 54 = .ok (.invokestatic 100, 3) := by decide +kernel
theorem dX11_line_57 : decode cX11_line 57 = .ok (.aload_n 0, 1) := by decide +kernel
theorem dX11_line_58 : decode cX11_line 58 = .ok (.getfield 104, 3) := by decide +kernel
theorem dX11_line_61 : decode cX11_line 61 = .ok (.ifCond .ne 19, 3) := by decide +kernel
theorem dX11_line_80 : decode cX11_line 80 = .ok (.iconst 0, 1) := by decide +kernel
theorem dX11_line_81 : decode cX11_line 81 = .ok (.invokestatic 112, 3) := by decide +kernel
theorem dX11_line_84 : decode cX11_line 84 = .ok (.aload_n 0, 1) := by decide +kernel
theorem dX11_line_85 : decode cX11_line 85 = .ok (.getfield 10, 3) := by decide +kernel
theorem dX11_line_88 : decode cX11_line 88 = .ok (.iload_n 1, 1) := by decide +kernel
theorem dX11_line_89 : decode cX11_line 89 = .ok (.iload_n 2, 1) := by decide +kernel
theorem dX11_line_90 : decode cX11_line 90 = .ok (.iload_n 3, 1) := by decide +kernel
theorem dX11_line_91 : decode cX11_line 91 = .ok (.iload 4, 2) := by decide +kernel
theorem dX11_line_93 : decode cX11_line 93 = .ok (.invokevirtual 115, 3) := by decide +kernel
theorem dX11_line_96 : decode cX11_line 96 = .ok (.istore 5, 2) := by decide +kernel
theorem dX11_line_98 : decode cX11_line 98 = .ok (.iload 5, 2) := by decide +kernel
theorem dX11_line_100 : decode cX11_line 100 = .ok (.iconst (-1), 1) := by decide +kernel
theorem dX11_line_101 : decode cX11_line 101 = .ok (.if_icmp .eq 11, 3) := by decide +kernel
theorem dX11_line_112 : decode cX11_line 112 = .ok (.iload 5, 2) := by decide +kernel
theorem dX11_line_114 : decode cX11_line 114 = .ok (.ireturn, 1) := by decide +kernel
theorem dX11_line_104 : decode cX11_line 104 = .ok (.aload_n 0, 1) := by decide +kernel
theorem dX11_line_105 : decode cX11_line 105 = .ok (.getfield 21, 3) := by decide +kernel
theorem dX11_line_108 : decode cX11_line 108 = .ok (.iconst 0, 1) := by decide +kernel
theorem dX11_line_109 : decode cX11_line 109 = .ok (.putfield 119, 3) := by decide +kernel
theorem dX11_line_64 : decode cX11_line 64 = .ok (.aload_n 0, 1) := by decide +kernel
theorem dX11_line_65 : decode cX11_line 65 = .ok (.getfield 10, 3) := by decide +kernel
theorem dX11_line_68 : decode cX11_line 68 = .ok (.getfield 108, 3) := by decide +kernel
theorem dX11_line_71 : decode cX11_line 71 = .ok (.bipush 20, 2) := by decide +kernel
theorem dX11_line_73 : decode cX11_line 73 = .ok (.if_icmp .ge 7, 3) := by decide +kernel
theorem dX11_line_76 : decode cX11_line 76 = .ok (.iconst 1, 1) := by decide +kernel
theorem dX11_line_77 : decode cX11_line 77 = .ok (.goto 4, 3) := by decide +kernel
theorem dX11_line_49 : decode cX11_line 49 = .ok (.iconst 1, 1) := by decide +kernel
theorem dX11_line_50 : decode cX11_line 50 = .ok (.goto 4, 3) := by decide +kernel
theorem dX11_line_41 : decode cX11_line 41 = .ok (.iconst 1, 1) := by decide +kernel
theorem dX11_line_42 : decode cX11_line 42 = .ok (.goto 4, 3) := by decide +kernel
theorem dX11_line_30 : decode cX11_line 30 = .ok (.iconst 1, 1) := by decide +kernel
theorem dX11_line_31 : decode cX11_line 31 = .ok (.goto 4, 3) := by decide +kernel
theorem dX11_line_8 : decode cX11_line 8 = .ok (.iload_n 3, 1) := by decide +kernel
theorem dX11_line_9 : decode cX11_line 9 = .ok (.iload 4, 2) := by decide +kernel
theorem dX11_line_11 : decode cX11_line 11 = .ok (.invokestatic 96, 3) := by decide +kernel
theorem dX11_line_14 : decode cX11_line 14 = .ok (.ifCond .eq 7, 3) := by decide +kernel
theorem dX11_line_17 : decode cX11_line 17 = .ok (.iconst 1, 1) := by decide +kernel
theorem dX11_line_18 : decode cX11_line 18 = .ok (.goto 4, 3) := by decide +kernel
theorem dX11_isLine_0 : decode cX11_isLine 0 = .ok (.iload_n 1, 1) := by decide +kernel
theorem dX11_isLine_1 : decode cX11_isLine 1 = .ok (.iconst 0, 1) := by decide +kernel
theorem dX11_isLine_2 : decode cX11_isLine 2 = .ok (.aload_n 0, 1) := by decide +kernel
theorem dX11_isLine_3 : decode cX11_isLine 3 = .ok (.getfield 10, 3) := by decide +kernel
theorem dX11_isLine_6 : decode cX11_isLine 6 = .ok (.getfield 108, 3) := by decide +kernel
theorem dX11_isLine_9 : decode cX11_isLine 9 = .ok (.iconst 1, 1) := by decide +kernel
theorem dX11_isLine_10 : decode cX11_isLine 10 = .ok (.isub, 1) := by decide +kernel
theorem dX11_isLine_11 : decode cX11_isLine 11 = .ok (.invokestatic 133, 3) := by decide +kernel
theorem dX11_isLine_14 : decode cX11_isLine 14 = .ok (.ireturn, 1) := by decide +kernel
theorem dX11_move_0 : decode cX11_move 0 = .ok (.aload_n 0, 1) := by decide +kernel
theorem dX11_move_1 : decode cX11_move 1 = .ok (.iload_n 1, 1) := by decide +kernel
theorem dX11_move_2 : decode cX11_move 2 = .ok (.invokevirtual 122, 3) := by decide +kernel
theorem dX11_move_5 : decode cX11_move 5 = .ok (.ifCond .eq 20, 3) := by decide +kernel
theorem dX11_move_25 : decode cX11_move 25 = .ok (.iconst 0, 1) := by decide +kernel
theorem dX11_move_26 : decode cX11_move 26 = .ok (.invokestatic 100, 3) := by decide +kernel
theorem dX11_move_29 : decode cX11_move 29 = .ok (.aload_n 0, 1) := by decide +kernel
theorem dX11_move_30 : decode cX11_move 30 = .ok (.getfield 104, 3) := by decide +kernel
theorem dX11_move_33 : decode cX11_move 33 = .ok (.ifCond .ne 7, 3) := by decide +kernel
theorem dX11_move_40 : decode cX11_move 40 = .ok (.iconst 0, 1) := by decide +kernel
theorem dX11_move_41 : decode cX11_move 41 = .ok (.invokestatic 112, 3) := by decide +kernel
theorem dX11_move_44 : decode cX11_move 44 = .ok (.aload_n 0, 1) := by decide +kernel
theorem dX11_move_45 : decode cX11_move 45 = .ok (.getfield 10, 3) := by decide +kernel
theorem dX11_move_48 : decode cX11_move 48 = .ok (.iload_n 1, 1) := by decide +kernel
theorem dX11_move_49 : decode cX11_move 49 = .ok (.iload_n 2, 1) := by decide +kernel
theorem dX11_move_50 : decode cX11_move 50 = .ok (.iload_n 3, 1) := by decide +kernel
theorem dX11_move_51 : decode cX11_move 51 = .ok (.invokevirtual 130, 3) := by decide +kernel
theorem dX11_move_54 : decode cX11_move 54 = .ok (.istore 4, 2) := by decide +kernel
theorem dX11_move_56 : decode cX11_move 56 = .ok (.iload 4, 2) := by decide +kernel
theorem dX11_move_58 : decode cX11_move 58 = .ok (.ifCond .eq 11, 3) := by decide +kernel
theorem dX11_move_69 : decode cX11_move 69 = .ok (.iload 4, 2) := by decide +kernel
theorem dX11_move_71 : decode cX11_move 71 = .ok (.ireturn, 1) := by decide +kernel
theorem dX11_move_61 : decode cX11_move 61 = .ok (.aload_n 0, 1) := by decide +kernel
theorem dX11_move_62 : decode cX11_move 62 = .ok (.getfield 21, 3) := by decide +kernel
theorem dX11_move_65 : decode cX11_move 65 = .ok (.iconst 0, 1) := by decide +kernel
theorem dX11_move_66 : decode cX11_move 66 = .ok (.putfield 119, 3) := by decide +kernel
theorem dX11_move_36 : decode cX11_move 36 = .ok (.iconst 1, 1) := by decide +kernel
theorem dX11_move_37 : decode cX11_move 37 = .ok (.goto 4, 3) := by decide +kernel
theorem dX11_move_8 : decode cX11_move 8 = .ok (.aload_n 0, 1) := by decide +kernel
theorem dX11_move_9 : decode cX11_move 9 = .ok (.getfield 10, 3) := by decide +kernel
theorem dX11_move_12 : decode cX11_move 12 = .ok (.iload_n 1, 1) := by decide +kernel
theorem dX11_move_13 : decode cX11_move 13 = .ok (.iload_n 2, 1) := by decide +kernel
theorem dX11_move_14 : decode cX11_move 14 = .ok (.iload_n 3, 1) := by decide +kernel
theorem dX11_move_15 : decode cX11_move 15 = .ok (.invokevirtual 126, 3) := by decide +kernel
theorem dX11_move_18 : decode cX11_move 18 = .ok (.ifCond .eq 7, 3) := by decide +kernel
theorem dX11_move_21 : decode cX11_move 21 = .ok (.iconst 1, 1) := by decide +kernel
theorem dX11_move_22 : decode cX11_move 22 = .ok (.goto 4, 3) := by decide +kernel
theorem dX11_door_0 : decode cX11_door 0 = .ok (.aload_n 0, 1) := by decide +kernel
theorem dX11_door_1 : decode cX11_door 1 = .ok (.iload_n 1, 1) := by decide +kernel
theorem dX11_door_2 : decode cX11_door 2 = .ok (.invokevirtual 122, 3) := by decide +kernel
theorem dX11_door_5 : decode cX11_door 5 = .ok (.ifCond .eq 17, 3) := by decide +kernel
theorem dX11_door_22 : decode cX11_door 22 = .ok (.iconst 0, 1) := by decide +kernel
theorem dX11_door_23 : decode cX11_door 23 = .ok (.invokestatic 100, 3) := by decide +kernel
theorem dX11_door_26 : decode cX11_door 26 = .ok (.iload_n 2, 1) := by decide +kernel
theorem dX11_door_27 : decode cX11_door 27 = .ok (.ifCond .lt 24, 3) := by decide +kernel
theorem dX11_door_51 : decode cX11_door 51 = .ok (.iconst 0, 1) := by decide +kernel
theorem dX11_door_52 : decode cX11_door 52 = .ok (.invokestatic 100, 3) := by decide +kernel
theorem dX11_door_55 : decode cX11_door 55 = .ok (.aload_n 0, 1) := by decide +kernel
theorem dX11_door_56 : decode cX11_door 56 = .ok (.getfield 104, 3) := by decide +kernel
theorem dX11_door_59 : decode cX11_door 59 = .ok (.ifCond .ne 21, 3) := by decide +kernel
theorem dX11_door_80 : decode cX11_door 80 = .ok (.iconst 0, 1) := by decide +kernel
theorem dX11_door_81 : decode cX11_door 81 = .ok (.invokestatic 112, 3) := by decide +kernel
theorem dX11_door_84 : decode cX11_door 84 = .ok (.aload_n 0, 1) := by decide +kernel
theorem dX11_door_85 : decode cX11_door 85 = .ok (.getfield 10, 3) := by decide +kernel
theorem dX11_door_88 : decode cX11_door 88 = .ok (.iload_n 1, 1) := by decide +kernel
theorem dX11_door_89 : decode cX11_door 89 = .ok (.iload_n 2, 1) := by decide +kernel
theorem dX11_door_90 : decode cX11_door 90 = .ok (.iload_n 3, 1) := by decide +kernel
theorem dX11_door_91 : decode cX11_door 91 = .ok (.iload 4, 2) := by decide +kernel
theorem dX11_door_93 : decode cX11_door 93 = .ok (.invokevirtual 144, 3) := by decide +kernel
theorem dX11_door_96 : decode cX11_door 96 = .ok (.ireturn, 1) := by decide +kernel
theorem dX11_door_62 : decode cX11_door 62 = .ok (.aload_n 0, 1) := by decide +kernel
theorem dX11_door_63 : decode cX11_door 63 = .ok (.getfield 10, 3) := by decide +kernel
theorem dX11_door_66 : decode cX11_door 66 = .ok (.getfield 140, 3) := by decide +kernel
theorem dX11_door_69 : decode cX11_door 69 = .ok (.iload_n 1, 1) := by decide +kernel
theorem dX11_door_70 : decode cX11_door 70 = .ok (.iaload, 1) := by decide +kernel
theorem dX11_door_71 : decode cX11_door 71 = .ok (.bipush 6, 2) := by decide +kernel
theorem dX11_door_73 : decode cX11_door 73 = .ok (.if_icmp .ge 7, 3) := by decide +kernel
theorem dX11_door_76 : decode cX11_door 76 = .ok (.iconst 1, 1) := by decide +kernel
theorem dX11_door_77 : decode cX11_door 77 = .ok (.goto 4, 3) := by decide +kernel
theorem dX11_door_30 : decode cX11_door 30 = .ok (.iload_n 2, 1) := by decide +kernel
theorem dX11_door_31 : decode cX11_door 31 = .ok (.iload_n 3, 1) := by decide +kernel
theorem dX11_door_32 : decode cX11_door 32 = .ok (.if_icmp .ge 19, 3) := by decide +kernel
theorem dX11_door_35 : decode cX11_door 35 = .ok (.iload_n 3, 1) := by decide +kernel
theorem dX11_door_36 : decode cX11_door 36 = .ok (.aload_n 0, 1) := by decide +kernel
theorem dX11_door_37 : decode cX11_door 37 = .ok (.getfield 10, 3) := by decide +kernel
theorem dX11_door_40 : decode cX11_door 40 = .ok (.iload_n 1, 1) := by decide +kernel
theorem dX11_door_41 : decode cX11_door 41 = .ok (.invokevirtual 136, 3) := by decide +kernel
theorem dX11_door_44 : decode cX11_door 44 = .ok (.if_icmp .gt 7, 3) := by decide +kernel
theorem dX11_door_47 : decode cX11_door 47 = .ok (.iconst 1, 1) := by decide +kernel
theorem dX11_door_48 : decode cX11_door 48 = .ok (.goto 4, 3) := by decide +kernel
theorem dX11_door_8 : decode cX11_door 8 = .ok (.iload 4, 2) := by decide +kernel
theorem dX11_door_10 : decode cX11_door 10 = .ok (.iconst 1, 1) := by decide +kernel
theorem dX11_door_11 : decode cX11_door 11 = .ok (.iconst 5, 1) := by decide +kernel
theorem dX11_door_12 : decode cX11_door 12 = .ok (.invokestatic 133, 3) := by decide +kernel
theorem dX11_door_15 : decode cX11_door 15 = .ok (.ifCond .eq 7, 3) := by decide +kernel
theorem dX11_door_18 : decode cX11_door 18 = .ok (.iconst 1, 1) := by decide +kernel
theorem dX11_door_19 : decode cX11_door 19 = .ok (.goto 4, 3) := by decide +kernel
theorem dX11_find_0 : decode cX11_find 0 = .ok (.aload_n 0, 1) := by decide +kernel
theorem dX11_find_1 : decode cX11_find 1 = .ok (.getfield 104, 3) := by decide +kernel
theorem dX11_find_4 : decode cX11_find 4 = .ok (.ifCond .ne 19, 3) := by decide +kernel
theorem dX11_find_23 : decode cX11_find 23 = .ok (.iconst 0, 1) := by decide +kernel
theorem dX11_find_24 : decode cX11_find 24 = .ok (.invokestatic 112, 3) := by decide +kernel
theorem dX11_find_27 : decode cX11_find 27 = .ok (.aload_n 0, 1) := by decide +kernel
theorem dX11_find_28 : decode cX11_find 28 = .ok (.getfield 21, 3) := by decide +kernel
theorem dX11_find_31 : decode cX11_find 31 = .ok (.invokevirtual 150, 3) := by decide +kernel
theorem dX11_find_34 : decode cX11_find 34 = .ok (.ireturn, 1) := by decide +kernel
theorem dX11_find_7 : decode cX11_find 7 = .ok (.aload_n 0, 1) := by decide +kernel
theorem dX11_find_8 : decode cX11_find 8 = .ok (.getfield 21, 3) := by decide +kernel
theorem dX11_find_11 : decode cX11_find 11 = .ok (.getfield 147, 3) := by decide +kernel
theorem dX11_find_14 : decode cX11_find 14 = .ok (.bipush 60, 2) := by decide +kernel
theorem dX11_find_16 : decode cX11_find 16 = .ok (.if_icmp .ge 7, 3) := by decide +kernel
theorem dX11_find_19 : decode cX11_find 19 = .ok (.iconst 1, 1) := by decide +kernel
theorem dX11_find_20 : decode cX11_find 20 = .ok (.goto 4, 3) := by decide +kernel
theorem dX11_count_0 : decode cX11_count 0 = .ok (.iload_n 1, 1) := by decide +kernel
theorem dX11_count_1 : decode cX11_count 1 = .ok (.iconst 0, 1) := by decide +kernel
theorem dX11_count_2 : decode cX11_count 2 = .ok (.iconst 3, 1) := by decide +kernel
theorem dX11_count_3 : decode cX11_count 3 = .ok (.invokestatic 133, 3) := by decide +kernel
theorem dX11_count_6 : decode cX11_count 6 = .ok (.invokestatic 100, 3) := by decide +kernel
theorem dX11_count_9 : decode cX11_count 9 = .ok (.aload_n 0, 1) := by decide +kernel
theorem dX11_count_10 : decode cX11_count 10 = .ok (.getfield 21, 3) := by decide +kernel
theorem dX11_count_13 : decode cX11_count 13 = .ok (.getfield 119, 3) := by decide +kernel
theorem dX11_count_16 : decode cX11_count 16 = .ok (.invokestatic 112, 3) := by decide +kernel
theorem dX11_count_19 : decode cX11_count 19 = .ok (.iload_n 1, 1) := by decide +kernel
theorem dX11_count_20 : decode cX11_count 20 = .ok (.tableswitch 52 0 2 #[28, 36, 44], 28) := by decide +kernel
theorem dX11_count_72 : decode cX11_count 72 = .ok (.aload_n 0, 1) := by decide +kernel
theorem dX11_count_73 : decode cX11_count 73 = .ok (.getfield 21, 3) := by decide +kernel
theorem dX11_count_76 : decode cX11_count 76 = .ok (.invokevirtual 163, 3) := by decide +kernel
theorem dX11_count_79 : decode cX11_count 79 = .ok (.ireturn, 1) := by decide +kernel
theorem dX11_count_48 : decode cX11_count 48 = .ok (.aload_n 0, 1) := by decide +kernel
theorem dX11_count_49 : decode cX11_count 49 = .ok (.getfield 21, 3) := by decide +kernel
theorem dX11_count_52 : decode cX11_count 52 = .ok (.getfield 154, 3) := by decide +kernel
theorem dX11_count_55 : decode cX11_count 55 = .ok (.ireturn, 1) := by decide +kernel
theorem dX11_count_56 : decode cX11_count 56 = .ok (.aload_n 0, 1) := by decide +kernel
theorem dX11_count_57 : decode cX11_count 57 = .ok (.getfield 21, 3) := by decide +kernel
theorem dX11_count_60 : decode cX11_count 60 = .ok (.invokevirtual 157, 3) := by decide +kernel
theorem dX11_count_63 : decode cX11_count 63 = .ok (.ireturn, 1) := by decide +kernel
theorem dX11_count_64 : decode cX11_count 64 = .ok (.aload_n 0, 1) := by decide +kernel
theorem dX11_count_65 : decode cX11_count 65 = .ok (.getfield 21, 3) := by decide +kernel
theorem dX11_count_68 : decode cX11_count 68 = .ok (.invokevirtual 160, 3) := by decide +kernel
theorem dX11_count_71 : decode cX11_count 71 = .ok (.ireturn, 1) := by decide +kernel
theorem dX11_isSpace_0 : decode cX11_isSpace 0 = .ok (.iload_n 1, 1) := by decide +kernel
theorem dX11_isSpace_1 : decode cX11_isSpace 1 = .ok (.iconst 0, 1) := by decide +kernel
theorem dX11_isSpace_2 : decode cX11_isSpace 2 = .ok (.aload_n 0, 1) := by decide +kernel
theorem dX11_isSpace_3 : decode cX11_isSpace 3 = .ok (.getfield 21, 3) := by decide +kernel
theorem dX11_isSpace_6 : decode cX11_isSpace 6 = .ok (.getfield 154, 3) := by decide +kernel
theorem dX11_isSpace_9 : decode cX11_isSpace 9 = .ok (.iconst 1, 1) := by decide +kernel
theorem dX11_isSpace_10 : decode cX11_isSpace 10 = .ok (.isub, 1) := by decide +kernel
theorem dX11_isSpace_11 : decode cX11_isSpace 11 = .ok (.invokestatic 133, 3) := by decide +kernel
theorem dX11_isSpace_14 : decode cX11_isSpace 14 = .ok (.ireturn, 1) := by decide +kernel
theorem dX11_sides_0 : decode cX11_sides 0 = .ok (.aload_n 0, 1) := by decide +kernel
theorem dX11_sides_1 : decode cX11_sides 1 = .ok (.iload_n 1, 1) := by decide +kernel
theorem dX11_sides_2 : decode cX11_sides 2 = .ok (.invokevirtual 166, 3) := by decide +kernel
theorem dX11_sides_5 : decode cX11_sides 5 = .ok (.ifCond .eq 11, 3) := by decide +kernel
theorem dX11_sides_16 : decode cX11_sides 16 = .ok (.iconst 0, 1) := by decide +kernel
theorem dX11_sides_17 : decode cX11_sides 17 = .ok (.invokestatic 100, 3) := by decide +kernel
theorem dX11_sides_20 : decode cX11_sides 20 = .ok (.aload_n 0, 1) := by decide +kernel
theorem dX11_sides_21 : decode cX11_sides 21 = .ok (.getfield 21, 3) := by decide +kernel
theorem dX11_sides_24 : decode cX11_sides 24 = .ok (.getfield 119, 3) := by decide +kernel
theorem dX11_sides_27 : decode cX11_sides 27 = .ok (.invokestatic 112, 3) := by decide +kernel
theorem dX11_sides_30 : decode cX11_sides 30 = .ok (.aload_n 0, 1) := by decide +kernel
theorem dX11_sides_31 : decode cX11_sides 31 = .ok (.getfield 21, 3) := by decide +kernel
theorem dX11_sides_34 : decode cX11_sides 34 = .ok (.iload_n 1, 1) := by decide +kernel
theorem dX11_sides_35 : decode cX11_sides 35 = .ok (.iload_n 2, 1) := by decide +kernel
theorem dX11_sides_36 : decode cX11_sides 36 = .ok (.invokevirtual 169, 3) := by decide +kernel
theorem dX11_sides_39 : decode cX11_sides 39 = .ok (.ireturn, 1) := by decide +kernel
theorem dX11_sides_8 : decode cX11_sides 8 = .ok (.iload_n 2, 1) := by decide +kernel
theorem dX11_sides_9 : decode cX11_sides 9 = .ok (.ifCond .lt 7, 3) := by decide +kernel
theorem dX11_sides_12 : decode cX11_sides 12 = .ok (.iconst 1, 1) := by decide +kernel
theorem dX11_sides_13 : decode cX11_sides 13 = .ok (.goto 4, 3) := by decide +kernel
theorem dX11_side_0 : decode cX11_side 0 = .ok (.aload_n 0, 1) := by decide +kernel
theorem dX11_side_1 : decode cX11_side 1 = .ok (.iload_n 1, 1) := by decide +kernel
theorem dX11_side_2 : decode cX11_side 2 = .ok (.invokevirtual 166, 3) := by decide +kernel
theorem dX11_side_5 : decode cX11_side 5 = .ok (.ifCond .eq 38, 3) := by decide +kernel
theorem dX11_side_43 : decode cX11_side 43 = .ok (.iconst 0, 1) := by decide +kernel
theorem dX11_side_44 : decode cX11_side 44 = .ok (.invokestatic 100, 3) := by decide +kernel
theorem dX11_side_47 : decode cX11_side 47 = .ok (.aload_n 0, 1) := by decide +kernel
theorem dX11_side_48 : decode cX11_side 48 = .ok (.getfield 21, 3) := by decide +kernel
theorem dX11_side_51 : decode cX11_side 51 = .ok (.getfield 119, 3) := by decide +kernel
theorem dX11_side_54 : decode cX11_side 54 = .ok (.invokestatic 112, 3) := by decide +kernel
theorem dX11_side_57 : decode cX11_side 57 = .ok (.aload_n 0, 1) := by decide +kernel
theorem dX11_side_58 : decode cX11_side 58 = .ok (.getfield 21, 3) := by decide +kernel
theorem dX11_side_61 : decode cX11_side 61 = .ok (.iload_n 1, 1) := by decide +kernel
theorem dX11_side_62 : decode cX11_side 62 = .ok (.iload_n 2, 1) := by decide +kernel
theorem dX11_side_63 : decode cX11_side 63 = .ok (.iload_n 3, 1) := by decide +kernel
theorem dX11_side_64 : decode cX11_side 64 = .ok (.iload 4, 2) := by decide +kernel
theorem dX11_side_66 : decode cX11_side 66 = .ok (.invokevirtual 173, 3) := by decide +kernel
theorem dX11_side_69 : decode cX11_side 69 = .ok (.ireturn, 1) := by decide +kernel
theorem dX11_side_8 : decode cX11_side 8 = .ok (.iload_n 2, 1) := by decide +kernel
theorem dX11_side_9 : decode cX11_side 9 = .ok (.ifCond .lt 34, 3) := by decide +kernel
theorem dX11_side_12 : decode cX11_side 12 = .ok (.iload_n 3, 1) := by decide +kernel
theorem dX11_side_13 : decode cX11_side 13 = .ok (.ifCond .lt 30, 3) := by decide +kernel
theorem dX11_side_16 : decode cX11_side 16 = .ok (.iload_n 3, 1) := by decide +kernel
theorem dX11_side_17 : decode cX11_side 17 = .ok (.aload_n 0, 1) := by decide +kernel
theorem dX11_side_18 : decode cX11_side 18 = .ok (.getfield 21, 3) := by decide +kernel
theorem dX11_side_21 : decode cX11_side 21 = .ok (.iload_n 1, 1) := by decide +kernel
theorem dX11_side_22 : decode cX11_side 22 = .ok (.iload_n 2, 1) := by decide +kernel
theorem dX11_side_23 : decode cX11_side 23 = .ok (.invokevirtual 169, 3) := by decide +kernel
theorem dX11_side_26 : decode cX11_side 26 = .ok (.if_icmp .ge 17, 3) := by decide +kernel
theorem dX11_side_29 : decode cX11_side 29 = .ok (.iload 4, 2) := by decide +kernel
theorem dX11_side_31 : decode cX11_side 31 = .ok (.iconst 0, 1) := by decide +kernel
theorem dX11_side_32 : decode cX11_side 32 = .ok (.iconst 5, 1) := by decide +kernel
theorem dX11_side_33 : decode cX11_side 33 = .ok (.invokestatic 133, 3) := by decide +kernel
theorem dX11_side_36 : decode cX11_side 36 = .ok (.ifCond .eq 7, 3) := by decide +kernel
theorem dX11_side_39 : decode cX11_side 39 = .ok (.iconst 1, 1) := by decide +kernel
theorem dX11_side_40 : decode cX11_side 40 = .ok (.goto 4, 3) := by decide +kernel
theorem dX11_size_0 : decode cX11_size 0 = .ok (.aload_n 0, 1) := by decide +kernel
theorem dX11_size_1 : decode cX11_size 1 = .ok (.iload_n 1, 1) := by decide +kernel
theorem dX11_size_2 : decode cX11_size 2 = .ok (.invokevirtual 166, 3) := by decide +kernel
theorem dX11_size_5 : decode cX11_size 5 = .ok (.ifCond .eq 16, 3) := by decide +kernel
theorem dX11_size_21 : decode cX11_size 21 = .ok (.iconst 0, 1) := by decide +kernel
theorem dX11_size_22 : decode cX11_size 22 = .ok (.invokestatic 100, 3) := by decide +kernel
theorem dX11_size_25 : decode cX11_size 25 = .ok (.aload_n 0, 1) := by decide +kernel
theorem dX11_size_26 : decode cX11_size 26 = .ok (.getfield 21, 3) := by decide +kernel
theorem dX11_size_29 : decode cX11_size 29 = .ok (.getfield 119, 3) := by decide +kernel
theorem dX11_size_32 : decode cX11_size 32 = .ok (.invokestatic 112, 3) := by decide +kernel
theorem dX11_size_35 : decode cX11_size 35 = .ok (.aload_n 0, 1) := by decide +kernel
theorem dX11_size_36 : decode cX11_size 36 = .ok (.getfield 21, 3) := by decide +kernel
theorem dX11_size_39 : decode cX11_size 39 = .ok (.iload_n 1, 1) := by decide +kernel
theorem dX11_size_40 : decode cX11_size 40 = .ok (.iload_n 2, 1) := by decide +kernel
theorem dX11_size_41 : decode cX11_size 41 = .ok (.invokevirtual 176, 3) := by decide +kernel
theorem dX11_size_44 : decode cX11_size 44 = .ok (.ireturn, 1) := by decide +kernel
theorem dX11_size_8 : decode cX11_size 8 = .ok (.iload_n 2, 1) := by decide +kernel
theorem dX11_size_9 : decode cX11_size 9 = .ok (.iconst 0, 1) := by decide +kernel
theorem dX11_size_10 : decode cX11_size 10 = .ok (.iconst 2, 1) := by decide +kernel
theorem dX11_size_11 : decode cX11_size 11 = .ok (.invokestatic 133, 3) := by decide +kernel
theorem dX11_size_14 : decode cX11_size 14 = .ok (.ifCond .eq 7, 3) := by decide +kernel
theorem dX11_size_17 : decode cX11_size 17 = .ok (.iconst 1, 1) := by decide +kernel
theorem dX11_size_18 : decode cX11_size 18 = .ok (.goto 4, 3) := by decide +kernel
theorem dX11_isCell_0 : decode cX11_isCell 0 = .ok (.iload_n 0, 1) := by decide +kernel
theorem dX11_isCell_1 : decode cX11_isCell 1 = .ok (.iconst 0, 1) := by decide +kernel
theorem dX11_isCell_2 : decode cX11_isCell 2 = .ok (.bipush 23, 2) := by decide +kernel
theorem dX11_isCell_4 : decode cX11_isCell 4 = .ok (.invokestatic 133, 3) := by decide +kernel
theorem dX11_isCell_7 : decode cX11_isCell 7 = .ok (.ifCond .eq 17, 3) := by decide +kernel
theorem dX11_isCell_24 : decode cX11_isCell 24 = .ok (.iconst 0, 1) := by decide +kernel
theorem dX11_isCell_25 : decode cX11_isCell 25 = .ok (.ireturn, 1) := by decide +kernel
theorem dX11_isCell_10 : decode cX11_isCell 10 = .ok (.iload_n 1, 1) := by decide +kernel
theorem dX11_isCell_11 : decode cX11_isCell 11 = .ok (.iconst 0, 1) := by decide +kernel
theorem dX11_isCell_12 : decode cX11_isCell 12 = .ok (.bipush 23, 2) := by decide +kernel
theorem dX11_isCell_14 : decode cX11_isCell 14 = .ok (.invokestatic 133, 3) := by decide +kernel
theorem dX11_isCell_17 : decode cX11_isCell 17 = .ok (.ifCond .eq 7, 3) := by decide +kernel
theorem dX11_isCell_20 : decode cX11_isCell 20 = .ok (.iconst 1, 1) := by decide +kernel
theorem dX11_isCell_21 : decode cX11_isCell 21 = .ok (.goto 4, 3) := by decide +kernel
theorem dX11_at_0 : decode cX11_at 0 = .ok (.iload_n 1, 1) := by decide +kernel
theorem dX11_at_1 : decode cX11_at 1 = .ok (.iload_n 2, 1) := by decide +kernel
theorem dX11_at_2 : decode cX11_at 2 = .ok (.invokestatic 179, 3) := by decide +kernel
theorem dX11_at_5 : decode cX11_at 5 = .ok (.invokestatic 100, 3) := by decide +kernel
theorem dX11_at_8 : decode cX11_at 8 = .ok (.aload_n 0, 1) := by decide +kernel
theorem dX11_at_9 : decode cX11_at 9 = .ok (.getfield 21, 3) := by decide +kernel
theorem dX11_at_12 : decode cX11_at 12 = .ok (.getfield 119, 3) := by decide +kernel
theorem dX11_at_15 : decode cX11_at 15 = .ok (.invokestatic 112, 3) := by decide +kernel
theorem dX11_at_18 : decode cX11_at 18 = .ok (.aload_n 0, 1) := by decide +kernel
theorem dX11_at_19 : decode cX11_at 19 = .ok (.getfield 21, 3) := by decide +kernel
theorem dX11_at_22 : decode cX11_at 22 = .ok (.iload_n 1, 1) := by decide +kernel
theorem dX11_at_23 : decode cX11_at 23 = .ok (.iload_n 2, 1) := by decide +kernel
theorem dX11_at_24 : decode cX11_at 24 = .ok (.invokevirtual 182, 3) := by decide +kernel
theorem dX11_at_27 : decode cX11_at 27 = .ok (.ireturn, 1) := by decide +kernel
theorem dX11_isSpaceOrOutside_0 : decode cX11_isSpaceOrOutside 0 = .ok (.aload_n 0, 1) := by decide +kernel
theorem dX11_isSpaceOrOutside_1 : decode cX11_isSpaceOrOutside 1 = .ok (.iload_n 1, 1) := by decide +kernel
theorem dX11_isSpaceOrOutside_2 : decode cX11_isSpaceOrOutside 2 = .ok (.invokevirtual 166, 3) := by decide +kernel
theorem dX11_isSpaceOrOutside_5 : decode cX11_isSpaceOrOutside 5 = .ok (.ifCond .ne 18, 3) := by decide +kernel
theorem dX11_isSpaceOrOutside_23 : decode cX11_isSpaceOrOutside 23 = .ok (.iconst 1, 1) := by decide +kernel
theorem dX11_isSpaceOrOutside_24 : decode cX11_isSpaceOrOutside 24 = .ok (.goto 4, 3) := by decide +kernel
theorem dX11_isSpaceOrOutside_28 : decode cX11_isSpaceOrOutside 28 = .ok (.ireturn, 1) := by decide +kernel
theorem dX11_isSpaceOrOutside_8 : decode cX11_isSpaceOrOutside 8 = .ok (.iload_n 1, 1) := by decide +kernel
theorem dX11_isSpaceOrOutside_9 : decode cX11_isSpaceOrOutside 9 = .ok (.iconst (-1), 1) := by decide +kernel
theorem dX11_isSpaceOrOutside_10 : decode cX11_isSpaceOrOutside 10 = .ok (.if_icmp .ne 17, 3) := by decide +kernel
theorem dX11_isSpaceOrOutside_27 : decode cX11_isSpaceOrOutside 27 = .ok (.iconst 0, 1) := by decide +kernel
theorem dX11_isSpaceOrOutside_13 : decode cX11_isSpaceOrOutside 13 = .ok (.aload_n 0, 1) := by decide +kernel
theorem dX11_isSpaceOrOutside_14 : decode cX11_isSpaceOrOutside 14 = .ok (.getfield 21, 3) := by decide +kernel
theorem dX11_isSpaceOrOutside_17 : decode cX11_isSpaceOrOutside 17 = .ok (.getfield 147, 3) := by decide +kernel
theorem dX11_isSpaceOrOutside_20 : decode cX11_isSpaceOrOutside 20 = .ok (.ifCond .le 7, 3) := by decide +kernel
theorem dX11_between_0 : decode cX11_between 0 = .ok (.aload_n 0, 1) := by decide +kernel
theorem dX11_between_1 : decode cX11_between 1 = .ok (.iload_n 1, 1) := by decide +kernel
theorem dX11_between_2 : decode cX11_between 2 = .ok (.invokevirtual 166, 3) := by decide +kernel
theorem dX11_between_5 : decode cX11_between 5 = .ok (.ifCond .eq 15, 3) := by decide +kernel
theorem dX11_between_20 : decode cX11_between 20 = .ok (.iconst 0, 1) := by decide +kernel
theorem dX11_between_21 : decode cX11_between 21 = .ok (.invokestatic 100, 3) := by decide +kernel
theorem dX11_between_24 : decode cX11_between 24 = .ok (.aload_n 0, 1) := by decide +kernel
theorem dX11_between_25 : decode cX11_between 25 = .ok (.getfield 21, 3) := by decide +kernel
theorem dX11_between_28 : decode cX11_between 28 = .ok (.getfield 119, 3) := by decide +kernel
theorem dX11_between_31 : decode cX11_between 31 = .ok (.invokestatic 112, 3) := by decide +kernel
theorem dX11_between_34 : decode cX11_between 34 = .ok (.aload_n 0, 1) := by decide +kernel
theorem dX11_between_35 : decode cX11_between 35 = .ok (.getfield 21, 3) := by decide +kernel
theorem dX11_between_38 : decode cX11_between 38 = .ok (.iload_n 1, 1) := by decide +kernel
theorem dX11_between_39 : decode cX11_between 39 = .ok (.iload_n 2, 1) := by decide +kernel
theorem dX11_between_40 : decode cX11_between 40 = .ok (.invokevirtual 188, 3) := by decide +kernel
theorem dX11_between_43 : decode cX11_between 43 = .ok (.ireturn, 1) := by decide +kernel
theorem dX11_between_8 : decode cX11_between 8 = .ok (.aload_n 0, 1) := by decide +kernel
theorem dX11_between_9 : decode cX11_between 9 = .ok (.iload_n 2, 1) := by decide +kernel
theorem dX11_between_10 : decode cX11_between 10 = .ok (.invokevirtual 185, 3) := by decide +kernel
theorem dX11_between_13 : decode cX11_between 13 = .ok (.ifCond .eq 7, 3) := by decide +kernel
theorem dX11_between_16 : decode cX11_between 16 = .ok (.iconst 1, 1) := by decide +kernel
theorem dX11_between_17 : decode cX11_between 17 = .ok (.goto 4, 3) := by decide +kernel
theorem dX11_way_0 : decode cX11_way 0 = .ok (.aload_n 0, 1) := by decide +kernel
theorem dX11_way_1 : decode cX11_way 1 = .ok (.iload_n 1, 1) := by decide +kernel
theorem dX11_way_2 : decode cX11_way 2 = .ok (.invokevirtual 185, 3) := by decide +kernel
theorem dX11_way_5 : decode cX11_way 5 = .ok (.ifCond .eq 15, 3) := by decide +kernel
theorem dX11_way_20 : decode cX11_way 20 = .ok (.iconst 0, 1) := by decide +kernel
theorem dX11_way_21 : decode cX11_way 21 = .ok (.invokestatic 100, 3) := by decide +kernel
theorem dX11_way_24 : decode cX11_way 24 = .ok (.aload_n 0, 1) := by decide +kernel
theorem dX11_way_25 : decode cX11_way 25 = .ok (.getfield 21, 3) := by decide +kernel
theorem dX11_way_28 : decode cX11_way 28 = .ok (.getfield 119, 3) := by decide +kernel
theorem dX11_way_31 : decode cX11_way 31 = .ok (.invokestatic 112, 3) := by decide +kernel
theorem dX11_way_34 : decode cX11_way 34 = .ok (.aload_n 0, 1) := by decide +kernel
theorem dX11_way_35 : decode cX11_way 35 = .ok (.getfield 21, 3) := by decide +kernel
theorem dX11_way_38 : decode cX11_way 38 = .ok (.iload_n 1, 1) := by decide +kernel
theorem dX11_way_39 : decode cX11_way 39 = .ok (.iload_n 2, 1) := by decide +kernel
theorem dX11_way_40 : decode cX11_way 40 = .ok (.invokevirtual 191, 3) := by decide +kernel
theorem dX11_way_43 : decode cX11_way 43 = .ok (.ireturn, 1) := by decide +kernel
theorem dX11_way_8 : decode cX11_way 8 = .ok (.aload_n 0, 1) := by decide +kernel
theorem dX11_way_9 : decode cX11_way 9 = .ok (.iload_n 2, 1) := by decide +kernel
theorem dX11_way_10 : decode cX11_way 10 = .ok (.invokevirtual 185, 3) := by decide +kernel
theorem dX11_way_13 : decode cX11_way 13 = .ok (.ifCond .eq 7, 3) := by decide +kernel
theorem dX11_way_16 : decode cX11_way 16 = .ok (.iconst 1, 1) := by decide +kernel
theorem dX11_way_17 : decode cX11_way 17 = .ok (.goto 4, 3) := by decide +kernel
theorem dX11_name_0 : decode cX11_name 0 = .ok (.aload_n 0, 1) := by decide +kernel
theorem dX11_name_1 : decode cX11_name 1 = .ok (.iload_n 1, 1) := by decide +kernel
theorem dX11_name_2 : decode cX11_name 2 = .ok (.invokevirtual 166, 3) := by decide +kernel
theorem dX11_name_5 : decode cX11_name 5 = .ok (.ifCond .eq 18, 3) := by decide +kernel
theorem dX11_name_23 : decode cX11_name 23 = .ok (.iconst 0, 1) := by decide +kernel
theorem dX11_name_24 : decode cX11_name 24 = .ok (.invokestatic 100, 3) := by decide +kernel
theorem dX11_name_27 : decode cX11_name 27 = .ok (.aload_n 0, 1) := by decide +kernel
theorem dX11_name_28 : decode cX11_name 28 = .ok (.getfield 21, 3) := by decide +kernel
theorem dX11_name_31 : decode cX11_name 31 = .ok (.getfield 119, 3) := by decide +kernel
theorem dX11_name_34 : decode cX11_name 34 = .ok (.ifCond .eq 14, 3) := by decide +kernel
theorem dX11_name_48 : decode cX11_name 48 = .ok (.iconst 0, 1) := by decide +kernel
theorem dX11_name_49 : decode cX11_name 49 = .ok (.invokestatic 112, 3) := by decide +kernel
theorem dX11_name_52 : decode cX11_name 52 = .ok (.aload_n 0, 1) := by decide +kernel
theorem dX11_name_53 : decode cX11_name 53 = .ok (.getfield 21, 3) := by decide +kernel
theorem dX11_name_56 : decode cX11_name 56 = .ok (.getfield 194, 3) := by decide +kernel
theorem dX11_name_59 : decode cX11_name 59 = .ok (.iload_n 1, 1) := by decide +kernel
theorem dX11_name_60 : decode cX11_name 60 = .ok (.iaload, 1) := by decide +kernel
theorem dX11_name_61 : decode cX11_name 61 = .ok (.istore_n 3, 1) := by decide +kernel
theorem dX11_name_62 : decode cX11_name 62 = .ok (.aload_n 0, 1) := by decide +kernel
theorem dX11_name_63 : decode cX11_name 63 = .ok (.getfield 21, 3) := by decide +kernel
theorem dX11_name_66 : decode cX11_name 66 = .ok (.getfield 194, 3) := by decide +kernel
theorem dX11_name_69 : decode cX11_name 69 = .ok (.iload_n 1, 1) := by decide +kernel
theorem dX11_name_70 : decode cX11_name 70 = .ok (.iload_n 2, 1) := by decide +kernel
theorem dX11_name_71 : decode cX11_name 71 = .ok (.iastore, 1) := by decide +kernel
theorem dX11_name_72 : decode cX11_name 72 = .ok (.iload_n 3, 1) := by decide +kernel
theorem dX11_name_73 : decode cX11_name 73 = .ok (.ireturn, 1) := by decide +kernel
theorem dX11_name_37 : decode cX11_name 37 = .ok (.aload_n 0, 1) := by decide +kernel
theorem dX11_name_38 : decode cX11_name 38 = .ok (.getfield 104, 3) := by decide +kernel
theorem dX11_name_41 : decode cX11_name 41 = .ok (.ifCond .ne 7, 3) := by decide +kernel
theorem dX11_name_44 : decode cX11_name 44 = .ok (.iconst 1, 1) := by decide +kernel
theorem dX11_name_45 : decode cX11_name 45 = .ok (.goto 4, 3) := by decide +kernel
theorem dX11_name_8 : decode cX11_name 8 = .ok (.iload_n 2, 1) := by decide +kernel
theorem dX11_name_9 : decode cX11_name 9 = .ok (.iconst 0, 1) := by decide +kernel
theorem dX11_name_10 : decode cX11_name 10 = .ok (.sipush 1000, 3) := by decide +kernel
theorem dX11_name_13 : decode cX11_name 13 = .ok (.invokestatic 133, 3) := by decide +kernel
theorem dX11_name_16 : decode cX11_name 16 = .ok (.ifCond .eq 7, 3) := by decide +kernel
theorem dX11_name_19 : decode cX11_name 19 = .ok (.iconst 1, 1) := by decide +kernel
theorem dX11_name_20 : decode cX11_name 20 = .ok (.goto 4, 3) := by decide +kernel
theorem dX11_nameOf_0 : decode cX11_nameOf 0 = .ok (.aload_n 0, 1) := by decide +kernel
theorem dX11_nameOf_1 : decode cX11_nameOf 1 = .ok (.iload_n 1, 1) := by decide +kernel
theorem dX11_nameOf_2 : decode cX11_nameOf 2 = .ok (.invokevirtual 166, 3) := by decide +kernel
theorem dX11_nameOf_5 : decode cX11_nameOf 5 = .ok (.invokestatic 100, 3) := by decide +kernel
theorem dX11_nameOf_8 : decode cX11_nameOf 8 = .ok (.aload_n 0, 1) := by decide +kernel
theorem dX11_nameOf_9 : decode cX11_nameOf 9 = .ok (.getfield 21, 3) := by decide +kernel
theorem dX11_nameOf_12 : decode cX11_nameOf 12 = .ok (.getfield 119, 3) := by decide +kernel
theorem dX11_nameOf_15 : decode cX11_nameOf 15 = .ok (.invokestatic 112, 3) := by decide +kernel
theorem dX11_nameOf_18 : decode cX11_nameOf 18 = .ok (.aload_n 0, 1) := by decide +kernel
theorem dX11_nameOf_19 : decode cX11_nameOf 19 = .ok (.getfield 21, 3) := by decide +kernel
theorem dX11_nameOf_22 : decode cX11_nameOf 22 = .ok (.getfield 194, 3) := by decide +kernel
theorem dX11_nameOf_25 : decode cX11_nameOf 25 = .ok (.iload_n 1, 1) := by decide +kernel
theorem dX11_nameOf_26 : decode cX11_nameOf 26 = .ok (.iaload, 1) := by decide +kernel
theorem dX11_nameOf_27 : decode cX11_nameOf 27 = .ok (.ireturn, 1) := by decide +kernel
theorem dX11_say_0 : decode cX11_say 0 = .ok (.lload_n 1, 1) := by decide +kernel
theorem dX11_say_1 : decode cX11_say 1 = .ok (.invokestatic 197, 3) := by decide +kernel
theorem dX11_say_4 : decode cX11_say 4 = .ok (.invokestatic 100, 3) := by decide +kernel
theorem dX11_say_7 : decode cX11_say 7 = .ok (.aload_n 0, 1) := by decide +kernel
theorem dX11_say_8 : decode cX11_say 8 = .ok (.getfield 28, 3) := by decide +kernel
theorem dX11_say_11 : decode cX11_say 11 = .ok (.lload_n 1, 1) := by decide +kernel
theorem dX11_say_12 : decode cX11_say 12 = .ok (.invokevirtual 201, 3) := by decide +kernel
theorem dX11_say_15 : decode cX11_say 15 = .ok (.invokestatic 112, 3) := by decide +kernel
theorem dX11_say_18 : decode cX11_say 18 = .ok (.aload_n 0, 1) := by decide +kernel
theorem dX11_say_19 : decode cX11_say 19 = .ok (.getfield 28, 3) := by decide +kernel
theorem dX11_say_22 : decode cX11_say 22 = .ok (.lload_n 1, 1) := by decide +kernel
theorem dX11_say_23 : decode cX11_say 23 = .ok (.invokevirtual 204, 3) := by decide +kernel
theorem dX11_say_26 : decode cX11_say 26 = .ok (.ireturn, 1) := by decide +kernel
theorem dX11_trim_0 : decode cX11_trim 0 = .ok (.iload_n 1, 1) := by decide +kernel
theorem dX11_trim_1 : decode cX11_trim 1 = .ok (.ifCond .lt 18, 3) := by decide +kernel
theorem dX11_trim_19 : decode cX11_trim 19 = .ok (.iconst 0, 1) := by decide +kernel
theorem dX11_trim_20 : decode cX11_trim 20 = .ok (.invokestatic 100, 3) := by decide +kernel
theorem dX11_trim_23 : decode cX11_trim 23 = .ok (.aload_n 0, 1) := by decide +kernel
theorem dX11_trim_24 : decode cX11_trim 24 = .ok (.getfield 28, 3) := by decide +kernel
theorem dX11_trim_27 : decode cX11_trim 27 = .ok (.dup, 1) := by decide +kernel
theorem dX11_trim_28 : decode cX11_trim 28 = .ok (.getfield 208, 3) := by decide +kernel
theorem dX11_trim_31 : decode cX11_trim 31 = .ok (.iload_n 1, 1) := by decide +kernel
theorem dX11_trim_32 : decode cX11_trim 32 = .ok (.isub, 1) := by decide +kernel
theorem dX11_trim_33 : decode cX11_trim 33 = .ok (.putfield 208, 3) := by decide +kernel
theorem dX11_trim_36 : decode cX11_trim 36 = .ok (.aload_n 0, 1) := by decide +kernel
theorem dX11_trim_37 : decode cX11_trim 37 = .ok (.getfield 28, 3) := by decide +kernel
theorem dX11_trim_40 : decode cX11_trim 40 = .ok (.getfield 208, 3) := by decide +kernel
theorem dX11_trim_43 : decode cX11_trim 43 = .ok (.ireturn, 1) := by decide +kernel
theorem dX11_trim_4 : decode cX11_trim 4 = .ok (.iload_n 1, 1) := by decide +kernel
theorem dX11_trim_5 : decode cX11_trim 5 = .ok (.aload_n 0, 1) := by decide +kernel
theorem dX11_trim_6 : decode cX11_trim 6 = .ok (.getfield 28, 3) := by decide +kernel
theorem dX11_trim_9 : decode cX11_trim 9 = .ok (.getfield 208, 3) := by decide +kernel
theorem dX11_trim_12 : decode cX11_trim 12 = .ok (.if_icmp .gt 7, 3) := by decide +kernel
theorem dX11_trim_15 : decode cX11_trim 15 = .ok (.iconst 1, 1) := by decide +kernel
theorem dX11_trim_16 : decode cX11_trim 16 = .ok (.goto 4, 3) := by decide +kernel
theorem dX11_rules_0 : decode cX11_rules 0 = .ok (.aload_n 0, 1) := by decide +kernel
theorem dX11_rules_1 : decode cX11_rules 1 = .ok (.getfield 28, 3) := by decide +kernel
theorem dX11_rules_4 : decode cX11_rules 4 = .ok (.invokevirtual 211, 3) := by decide +kernel
theorem dX11_rules_7 : decode cX11_rules 7 = .ok (.ifCond .ne 13, 3) := by decide +kernel
theorem dX11_rules_20 : decode cX11_rules 20 = .ok (.aload_n 0, 1) := by decide +kernel
theorem dX11_rules_21 : decode cX11_rules 21 = .ok (.getfield 35, 3) := by decide +kernel
theorem dX11_rules_24 : decode cX11_rules 24 = .ok (.aload_n 0, 1) := by decide +kernel
theorem dX11_rules_25 : decode cX11_rules 25 = .ok (.getfield 28, 3) := by decide +kernel
theorem dX11_rules_28 : decode cX11_rules 28 = .ok (.invokevirtual 218, 3) := by decide +kernel
theorem dX11_rules_31 : decode cX11_rules 31 = .ok (.aload_n 0, 1) := by decide +kernel
theorem dX11_rules_32 : decode cX11_rules 32 = .ok (.getfield 28, 3) := by decide +kernel
theorem dX11_rules_35 : decode cX11_rules 35 = .ok (.iconst 0, 1) := by decide +kernel
theorem dX11_rules_36 : decode cX11_rules 36 = .ok (.putfield 208, 3) := by decide +kernel
theorem dX11_rules_39 : decode cX11_rules 39 = .ok (.aload_n 0, 1) := by decide +kernel
theorem dX11_rules_40 : decode cX11_rules 40 = .ok (.getfield 35, 3) := by decide +kernel
theorem dX11_rules_43 : decode cX11_rules 43 = .ok (.getfield 222, 3) := by decide +kernel
theorem dX11_rules_46 : decode cX11_rules 46 = .ok (.ireturn, 1) := by decide +kernel
theorem dX11_rules_10 : decode cX11_rules 10 = .ok (.iconst (-1), 1) := by decide +kernel
theorem dX11_rules_11 : decode cX11_rules 11 = .ok (.aload_n 0, 1) := by decide +kernel
theorem dX11_rules_12 : decode cX11_rules 12 = .ok (.getfield 28, 3) := by decide +kernel
theorem dX11_rules_15 : decode cX11_rules 15 = .ok (.invokevirtual 215, 3) := by decide +kernel
theorem dX11_rules_18 : decode cX11_rules 18 = .ok (.isub, 1) := by decide +kernel
theorem dX11_rules_19 : decode cX11_rules 19 = .ok (.ireturn, 1) := by decide +kernel
theorem dX11_fact_0 : decode cX11_fact 0 = .ok (.lload_n 1, 1) := by decide +kernel
theorem dX11_fact_1 : decode cX11_fact 1 = .ok (.invokestatic 225, 3) := by decide +kernel
theorem dX11_fact_4 : decode cX11_fact 4 = .ok (.ifCond .eq 18, 3) := by decide +kernel
theorem dX11_fact_22 : decode cX11_fact 22 = .ok (.iconst 0, 1) := by decide +kernel
theorem dX11_fact_23 : decode cX11_fact 23 = .ok (.invokestatic 100, 3) := by decide +kernel
theorem dX11_fact_26 : decode cX11_fact 26 = .ok (.aload_n 0, 1) := by decide +kernel
theorem dX11_fact_27 : decode cX11_fact 27 = .ok (.getfield 35, 3) := by decide +kernel
theorem dX11_fact_30 : decode cX11_fact 30 = .ok (.lload_n 1, 1) := by decide +kernel
theorem dX11_fact_31 : decode cX11_fact 31 = .ok (.invokevirtual 230, 3) := by decide +kernel
theorem dX11_fact_34 : decode cX11_fact 34 = .ok (.invokestatic 112, 3) := by decide +kernel
theorem dX11_fact_37 : decode cX11_fact 37 = .ok (.aload_n 0, 1) := by decide +kernel
theorem dX11_fact_38 : decode cX11_fact 38 = .ok (.getfield 35, 3) := by decide +kernel
theorem dX11_fact_41 : decode cX11_fact 41 = .ok (.lload_n 1, 1) := by decide +kernel
theorem dX11_fact_42 : decode cX11_fact 42 = .ok (.iload_n 3, 1) := by decide +kernel
theorem dX11_fact_43 : decode cX11_fact 43 = .ok (.invokevirtual 233, 3) := by decide +kernel
theorem dX11_fact_46 : decode cX11_fact 46 = .ok (.lreturn, 1) := by decide +kernel
theorem dX11_fact_7 : decode cX11_fact 7 = .ok (.iload_n 3, 1) := by decide +kernel
theorem dX11_fact_8 : decode cX11_fact 8 = .ok (.ldc 228, 2) := by decide +kernel
theorem dX11_fact_10 : decode cX11_fact 10 = .ok (.ldc 229, 2) := by decide +kernel
theorem dX11_fact_12 : decode cX11_fact 12 = .ok (.invokestatic 133, 3) := by decide +kernel
theorem dX11_fact_15 : decode cX11_fact 15 = .ok (.ifCond .eq 7, 3) := by decide +kernel
theorem dX11_fact_18 : decode cX11_fact 18 = .ok (.iconst 1, 1) := by decide +kernel
theorem dX11_fact_19 : decode cX11_fact 19 = .ok (.goto 4, 3) := by decide +kernel
theorem dX11_measure_0 : decode cX11_measure 0 = .ok (.aload_n 0, 1) := by decide +kernel
theorem dX11_measure_1 : decode cX11_measure 1 = .ok (.iload_n 1, 1) := by decide +kernel
theorem dX11_measure_2 : decode cX11_measure 2 = .ok (.invokevirtual 166, 3) := by decide +kernel
theorem dX11_measure_5 : decode cX11_measure 5 = .ok (.ifCond .eq 23, 3) := by decide +kernel
theorem dX11_measure_28 : decode cX11_measure 28 = .ok (.iconst 0, 1) := by decide +kernel
theorem dX11_measure_29 : decode cX11_measure 29 = .ok (.invokestatic 100, 3) := by decide +kernel
theorem dX11_measure_32 : decode cX11_measure 32 = .ok (.aload_n 0, 1) := by decide +kernel
theorem dX11_measure_33 : decode cX11_measure 33 = .ok (.getfield 21, 3) := by decide +kernel
theorem dX11_measure_36 : decode cX11_measure 36 = .ok (.getfield 119, 3) := by decide +kernel
theorem dX11_measure_39 : decode cX11_measure 39 = .ok (.ifCond .eq 18, 3) := by decide +kernel
theorem dX11_measure_57 : decode cX11_measure 57 = .ok (.iconst 0, 1) := by decide +kernel
theorem dX11_measure_58 : decode cX11_measure 58 = .ok (.invokestatic 112, 3) := by decide +kernel
theorem dX11_measure_61 : decode cX11_measure 61 = .ok (.aload_n 0, 1) := by decide +kernel
theorem dX11_measure_62 : decode cX11_measure 62 = .ok (.getfield 21, 3) := by decide +kernel
theorem dX11_measure_65 : decode cX11_measure 65 = .ok (.iload_n 1, 1) := by decide +kernel
theorem dX11_measure_66 : decode cX11_measure 66 = .ok (.iload_n 2, 1) := by decide +kernel
theorem dX11_measure_67 : decode cX11_measure 67 = .ok (.invokevirtual 176, 3) := by decide +kernel
theorem dX11_measure_70 : decode cX11_measure 70 = .ok (.istore 5, 2) := by decide +kernel
theorem dX11_measure_72 : decode cX11_measure 72 = .ok (.aload_n 0, 1) := by decide +kernel
theorem dX11_measure_73 : decode cX11_measure 73 = .ok (.getfield 35, 3) := by decide +kernel
theorem dX11_measure_76 : decode cX11_measure 76 = .ok (.lload_n 3, 1) := by decide +kernel
theorem dX11_measure_77 : decode cX11_measure 77 = .ok (.iload 5, 2) := by decide +kernel
theorem dX11_measure_79 : decode cX11_measure 79 = .ok (.invokevirtual 233, 3) := by decide +kernel
theorem dX11_measure_82 : decode cX11_measure 82 = .ok (.pop2, 1) := by decide +kernel
theorem dX11_measure_83 : decode cX11_measure 83 = .ok (.iload 5, 2) := by decide +kernel
theorem dX11_measure_85 : decode cX11_measure 85 = .ok (.ireturn, 1) := by decide +kernel
theorem dX11_measure_42 : decode cX11_measure 42 = .ok (.aload_n 0, 1) := by decide +kernel
theorem dX11_measure_43 : decode cX11_measure 43 = .ok (.getfield 35, 3) := by decide +kernel
theorem dX11_measure_46 : decode cX11_measure 46 = .ok (.lload_n 3, 1) := by decide +kernel
theorem dX11_measure_47 : decode cX11_measure 47 = .ok (.invokevirtual 230, 3) := by decide +kernel
theorem dX11_measure_50 : decode cX11_measure 50 = .ok (.ifCond .eq 7, 3) := by decide +kernel
theorem dX11_measure_53 : decode cX11_measure 53 = .ok (.iconst 1, 1) := by decide +kernel
theorem dX11_measure_54 : decode cX11_measure 54 = .ok (.goto 4, 3) := by decide +kernel
theorem dX11_measure_8 : decode cX11_measure 8 = .ok (.iload_n 2, 1) := by decide +kernel
theorem dX11_measure_9 : decode cX11_measure 9 = .ok (.iconst 0, 1) := by decide +kernel
theorem dX11_measure_10 : decode cX11_measure 10 = .ok (.iconst 2, 1) := by decide +kernel
theorem dX11_measure_11 : decode cX11_measure 11 = .ok (.invokestatic 133, 3) := by decide +kernel
theorem dX11_measure_14 : decode cX11_measure 14 = .ok (.ifCond .eq 14, 3) := by decide +kernel
theorem dX11_measure_17 : decode cX11_measure 17 = .ok (.lload_n 3, 1) := by decide +kernel
theorem dX11_measure_18 : decode cX11_measure 18 = .ok (.invokestatic 225, 3) := by decide +kernel
theorem dX11_measure_21 : decode cX11_measure 21 = .ok (.ifCond .eq 7, 3) := by decide +kernel
theorem dX11_measure_24 : decode cX11_measure 24 = .ok (.iconst 1, 1) := by decide +kernel
theorem dX11_measure_25 : decode cX11_measure 25 = .ok (.goto 4, 3) := by decide +kernel
theorem dX11_check_0 : decode cX11_check 0 = .ok (.iload_n 1, 1) := by decide +kernel
theorem dX11_check_1 : decode cX11_check 1 = .ok (.iconst 0, 1) := by decide +kernel
theorem dX11_check_2 : decode cX11_check 2 = .ok (.ldc 237, 2) := by decide +kernel
theorem dX11_check_4 : decode cX11_check 4 = .ok (.invokestatic 133, 3) := by decide +kernel
theorem dX11_check_7 : decode cX11_check 7 = .ok (.invokestatic 100, 3) := by decide +kernel
theorem dX11_check_10 : decode cX11_check 10 = .ok (.aload_n 0, 1) := by decide +kernel
theorem dX11_check_11 : decode cX11_check 11 = .ok (.getfield 35, 3) := by decide +kernel
theorem dX11_check_14 : decode cX11_check 14 = .ok (.iload_n 1, 1) := by decide +kernel
theorem dX11_check_15 : decode cX11_check 15 = .ok (.invokevirtual 238, 3) := by decide +kernel
theorem dX11_check_18 : decode cX11_check 18 = .ok (.aload_n 0, 1) := by decide +kernel
theorem dX11_check_19 : decode cX11_check 19 = .ok (.getfield 35, 3) := by decide +kernel
theorem dX11_check_22 : decode cX11_check 22 = .ok (.invokevirtual 242, 3) := by decide +kernel
theorem dX11_check_25 : decode cX11_check 25 = .ok (.ireturn, 1) := by decide +kernel
theorem dX11_rule_0 : decode cX11_rule 0 = .ok (.iload_n 1, 1) := by decide +kernel
theorem dX11_rule_1 : decode cX11_rule 1 = .ok (.iconst 0, 1) := by decide +kernel
theorem dX11_rule_2 : decode cX11_rule 2 = .ok (.aload_n 0, 1) := by decide +kernel
theorem dX11_rule_3 : decode cX11_rule 3 = .ok (.getfield 35, 3) := by decide +kernel
theorem dX11_rule_6 : decode cX11_rule 6 = .ok (.getfield 222, 3) := by decide +kernel
theorem dX11_rule_9 : decode cX11_rule 9 = .ok (.iconst 1, 1) := by decide +kernel
theorem dX11_rule_10 : decode cX11_rule 10 = .ok (.isub, 1) := by decide +kernel
theorem dX11_rule_11 : decode cX11_rule 11 = .ok (.invokestatic 133, 3) := by decide +kernel
theorem dX11_rule_14 : decode cX11_rule 14 = .ok (.ifCond .eq 17, 3) := by decide +kernel
theorem dX11_rule_31 : decode cX11_rule 31 = .ok (.iconst 0, 1) := by decide +kernel
theorem dX11_rule_32 : decode cX11_rule 32 = .ok (.invokestatic 100, 3) := by decide +kernel
theorem dX11_rule_35 : decode cX11_rule 35 = .ok (.aload_n 0, 1) := by decide +kernel
theorem dX11_rule_36 : decode cX11_rule 36 = .ok (.getfield 35, 3) := by decide +kernel
theorem dX11_rule_39 : decode cX11_rule 39 = .ok (.getfield 245, 3) := by decide +kernel
theorem dX11_rule_42 : decode cX11_rule 42 = .ok (.invokestatic 112, 3) := by decide +kernel
theorem dX11_rule_45 : decode cX11_rule 45 = .ok (.aload_n 0, 1) := by decide +kernel
theorem dX11_rule_46 : decode cX11_rule 46 = .ok (.getfield 35, 3) := by decide +kernel
theorem dX11_rule_49 : decode cX11_rule 49 = .ok (.iload_n 1, 1) := by decide +kernel
theorem dX11_rule_50 : decode cX11_rule 50 = .ok (.iload_n 2, 1) := by decide +kernel
theorem dX11_rule_51 : decode cX11_rule 51 = .ok (.invokevirtual 248, 3) := by decide +kernel
theorem dX11_rule_54 : decode cX11_rule 54 = .ok (.lreturn, 1) := by decide +kernel
theorem dX11_rule_17 : decode cX11_rule 17 = .ok (.iload_n 2, 1) := by decide +kernel
theorem dX11_rule_18 : decode cX11_rule 18 = .ok (.iconst 0, 1) := by decide +kernel
theorem dX11_rule_19 : decode cX11_rule 19 = .ok (.bipush 6, 2) := by decide +kernel
theorem dX11_rule_21 : decode cX11_rule 21 = .ok (.invokestatic 133, 3) := by decide +kernel
theorem dX11_rule_24 : decode cX11_rule 24 = .ok (.ifCond .eq 7, 3) := by decide +kernel
theorem dX11_rule_27 : decode cX11_rule 27 = .ok (.iconst 1, 1) := by decide +kernel
theorem dX11_rule_28 : decode cX11_rule 28 = .ok (.goto 4, 3) := by decide +kernel
theorem dX11_build_0 : decode cX11_build 0 = .ok (.iload_n 1, 1) := by decide +kernel
theorem dX11_build_1 : decode cX11_build 1 = .ok (.iconst 0, 1) := by decide +kernel
theorem dX11_build_2 : decode cX11_build 2 = .ok (.ldc 237, 2) := by decide +kernel
theorem dX11_build_4 : decode cX11_build 4 = .ok (.invokestatic 133, 3) := by decide +kernel
theorem dX11_build_7 : decode cX11_build 7 = .ok (.invokestatic 100, 3) := by decide +kernel
theorem dX11_build_10 : decode cX11_build 10 = .ok (.aload_n 0, 1) := by decide +kernel
theorem dX11_build_11 : decode cX11_build 11 = .ok (.getfield 104, 3) := by decide +kernel
theorem dX11_build_14 : decode cX11_build 14 = .ok (.ifCond .ne 33, 3) := by decide +kernel
theorem dX11_build_47 : decode cX11_build 47 = .ok (.iconst 0, 1) := by decide +kernel
theorem dX11_build_48 : decode cX11_build 48 = .ok (.invokestatic 112, 3) := by decide +kernel
theorem dX11_build_51 : decode cX11_build 51 = .ok (.aload_n 0, 1) := by decide +kernel
theorem dX11_build_52 : decode cX11_build 52 = .ok (.getfield 35, 3) := by decide +kernel
theorem dX11_build_55 : decode cX11_build 55 = .ok (.iload_n 1, 1) := by decide +kernel
theorem dX11_build_56 : decode cX11_build 56 = .ok (.invokevirtual 238, 3) := by decide +kernel
theorem dX11_build_59 : decode cX11_build 59 = .ok (.aload_n 0, 1) := by decide +kernel
theorem dX11_build_60 : decode cX11_build 60 = .ok (.getfield 35, 3) := by decide +kernel
theorem dX11_build_63 : decode cX11_build 63 = .ok (.invokevirtual 252, 3) := by decide +kernel
theorem dX11_build_66 : decode cX11_build 66 = .ok (.istore_n 2, 1) := by decide +kernel
theorem dX11_build_67 : decode cX11_build 67 = .ok (.iload_n 2, 1) := by decide +kernel
theorem dX11_build_68 : decode cX11_build 68 = .ok (.iconst (-1), 1) := by decide +kernel
theorem dX11_build_69 : decode cX11_build 69 = .ok (.if_icmp .eq 7, 3) := by decide +kernel
theorem dX11_build_76 : decode cX11_build 76 = .ok (.aload_n 0, 1) := by decide +kernel
theorem dX11_build_77 : decode cX11_build 77 = .ok (.iconst 1, 1) := by decide +kernel
theorem dX11_build_78 : decode cX11_build 78 = .ok (.putfield 104, 3) := by decide +kernel
theorem dX11_build_81 : decode cX11_build 81 = .ok (.aload_n 0, 1) := by decide +kernel
theorem dX11_build_82 : decode cX11_build 82 = .ok (.getfield 44, 3) := by decide +kernel
theorem dX11_build_85 : decode cX11_build 85 = .ok (.invokevirtual 255, 3) := by decide +kernel
theorem dX11_build_88 : decode cX11_build 88 = .ok (.aload_n 0, 1) := by decide +kernel
theorem dX11_build_89 : decode cX11_build 89 = .ok (.getfield 53, 3) := by decide +kernel
theorem dX11_build_92 : decode cX11_build 92 = .ok (.invokevirtual 258, 3) := by decide +kernel
theorem dX11_build_95 : decode cX11_build 95 = .ok (.aload_n 0, 1) := by decide +kernel
theorem dX11_build_96 : decode cX11_build 96 = .ok (.getfield 85, 3) := by decide +kernel
theorem dX11_build_99 : decode cX11_build 99 = .ok (.aload_n 0, 1) := by decide +kernel
theorem dX11_build_100 : decode cX11_build 100 = .ok (.getfield 21, 3) := by decide +kernel
theorem dX11_build_103 : decode cX11_build 103 = .ok (.getfield 154, 3) := by decide +kernel
theorem dX11_build_106 : decode cX11_build 106 = .ok (.bipush 10, 2) := by decide +kernel
theorem dX11_build_108 : decode cX11_build 108 = .ok (.iadd, 1) := by decide +kernel
theorem dX11_build_109 : decode cX11_build 109 = .ok (.putfield 261, 3) := by decide +kernel
theorem dX11_build_112 : decode cX11_build 112 = .ok (.aload_n 0, 1) := by decide +kernel
theorem dX11_build_113 : decode cX11_build 113 = .ok (.getfield 53, 3) := by decide +kernel
theorem dX11_build_116 : decode cX11_build 116 = .ok (.getfield 264, 3) := by decide +kernel
theorem dX11_build_119 : decode cX11_build 119 = .ok (.ireturn, 1) := by decide +kernel
theorem dX11_build_72 : decode cX11_build 72 = .ok (.iconst (-1), 1) := by decide +kernel
theorem dX11_build_73 : decode cX11_build 73 = .ok (.iload_n 2, 1) := by decide +kernel
theorem dX11_build_74 : decode cX11_build 74 = .ok (.isub, 1) := by decide +kernel
theorem dX11_build_75 : decode cX11_build 75 = .ok (.ireturn, 1) := by decide +kernel
theorem dX11_build_17 : decode cX11_build 17 = .ok (.aload_n 0, 1) := by decide +kernel
theorem dX11_build_18 : decode cX11_build 18 = .ok (.getfield 21, 3) := by decide +kernel
theorem dX11_build_21 : decode cX11_build 21 = .ok (.getfield 119, 3) := by decide +kernel
theorem dX11_build_24 : decode cX11_build 24 = .ok (.ifCond .eq 23, 3) := by decide +kernel
theorem dX11_build_27 : decode cX11_build 27 = .ok (.aload_n 0, 1) := by decide +kernel
theorem dX11_build_28 : decode cX11_build 28 = .ok (.getfield 21, 3) := by decide +kernel
theorem dX11_build_31 : decode cX11_build 31 = .ok (.getfield 154, 3) := by decide +kernel
theorem dX11_build_34 : decode cX11_build 34 = .ok (.iconst 1, 1) := by decide +kernel
theorem dX11_build_35 : decode cX11_build 35 = .ok (.bipush 40, 2) := by decide +kernel
theorem dX11_build_37 : decode cX11_build 37 = .ok (.invokestatic 133, 3) := by decide +kernel
theorem dX11_build_40 : decode cX11_build 40 = .ok (.ifCond .eq 7, 3) := by decide +kernel
theorem dX11_build_43 : decode cX11_build 43 = .ok (.iconst 1, 1) := by decide +kernel
theorem dX11_build_44 : decode cX11_build 44 = .ok (.goto 4, 3) := by decide +kernel
theorem zl_X18_666 : zm_L zk_E RX18 666 yX18_nextOne (.code yX18_nextOne cX18_nextOne 5 (some .int)) 0 ∧ Cond.instanceMethod yX18_nextOne ∈ zk_E.2.2.1 ∧ Cond.selects yX18_nextOne.cls yX18_nextOne yX18_nextOne ∈ zk_E.2.2.1 := ⟨⟨zk_b21 206 (by decide +kernel) rfl, zk_b1 13 (by decide +kernel) rfl, zk_b21 203 (by decide +kernel) rfl, by decide +kernel, by decide +kernel, by decide +kernel⟩, zk_b21 205 (by decide +kernel) rfl, zk_s19 (q := (yX18_nextOne, 60)) 15 (by decide +kernel)⟩
theorem zl_X18_669 : zm_L zk_E RX18 669 yX18_step (.code yX18_step cX18_step 9 none) 1 ∧ Cond.instanceMethod yX18_step ∈ zk_E.2.2.1 ∧ Cond.selects yX18_step.cls yX18_step yX18_step ∈ zk_E.2.2.1 := ⟨⟨zk_b21 210 (by decide +kernel) rfl, zk_b1 13 (by decide +kernel) rfl, zk_b21 207 (by decide +kernel) rfl, by decide +kernel, by decide +kernel, by decide +kernel⟩, zk_b21 209 (by decide +kernel) rfl, zk_s20 (q := (yX18_step, 60)) 0 (by decide +kernel)⟩
theorem zl_X18_673 : zm_L zk_E RX18 673 yX12_bitTime (.code yX12_bitTime cX12_bitTime 4 none) 0 ∧ Cond.instanceMethod yX12_bitTime ∈ zk_E.2.2.1 ∧ Cond.selects yX12_bitTime.cls yX12_bitTime yX12_bitTime ∈ zk_E.2.2.1 := ⟨⟨zk_b21 152 (by decide +kernel) rfl, zk_b1 18 (by decide +kernel) rfl, zk_b21 149 (by decide +kernel) rfl, by decide +kernel, by decide +kernel, by decide +kernel⟩, zk_b21 150 (by decide +kernel) rfl, zk_b21 151 (by decide +kernel) rfl⟩
theorem zt_18_2 : zm_T zk_E RX18 18 2 .int false := ⟨RX18, TX18, 60, tyX18, rfl, tyX18_ok, nmX18, rfl, rfl, rfl⟩
theorem zl_X18_676 : zm_F zk_E RX18 676 14 1 := ⟨RX14, TX14, 36, rfl, zk_i14, by decide, zk_b14 117 (by decide +kernel) rfl⟩
theorem zt_14_1 : zm_T zk_E RX14 14 1 .int false := ⟨RX14, TX14, 36, tyX14, rfl, tyX14_ok, nmX14, rfl, rfl, rfl⟩
theorem zl_X18_679 : zm_F zk_E RX18 679 13 12 := ⟨RX13, TX13, 24, rfl, zk_i13, by decide, zk_b15 205 (by decide +kernel) rfl⟩
theorem zt_13_12 : zm_T zk_E RX13 13 12 .int false := ⟨RX13, TX13, 24, tyX13, rfl, tyX13_ok, nmX13, rfl, rfl, rfl⟩
theorem zl_X18_683 : zm_L zk_E RX18 683 yX18_detect (.code yX18_detect cX18_detect 3 none) 0 ∧ Cond.instanceMethod yX18_detect ∈ zk_E.2.2.1 ∧ Cond.selects yX18_detect.cls yX18_detect yX18_detect ∈ zk_E.2.2.1 := ⟨⟨zk_b21 88 (by decide +kernel) rfl, zk_b1 13 (by decide +kernel) rfl, zk_b21 85 (by decide +kernel) rfl, by decide +kernel, by decide +kernel, by decide +kernel⟩, zk_b21 87 (by decide +kernel) rfl, zk_s18 (q := (yX18_detect, 60)) 6 (by decide +kernel)⟩
theorem zl_X18_686 : zm_L zk_E RX18 686 yX14_go (.code yX14_go cX14_go 3 (some .int)) 1 ∧ Cond.instanceMethod yX14_go ∈ zk_E.2.2.1 ∧ Cond.selects yX14_go.cls yX14_go yX14_go ∈ zk_E.2.2.1 := ⟨⟨zk_b21 96 (by decide +kernel) rfl, zk_b1 16 (by decide +kernel) rfl, zk_b21 93 (by decide +kernel) rfl, by decide +kernel, by decide +kernel, by decide +kernel⟩, zk_b21 94 (by decide +kernel) rfl, zk_b21 95 (by decide +kernel) rfl⟩
theorem zl_X18_689 : zm_L zk_E RX18 689 yX18_inSpaces (.code yX18_inSpaces cX18_inSpaces 3 (some .int)) 0 ∧ Cond.instanceMethod yX18_inSpaces ∈ zk_E.2.2.1 ∧ Cond.selects yX18_inSpaces.cls yX18_inSpaces yX18_inSpaces ∈ zk_E.2.2.1 := ⟨⟨zk_b21 100 (by decide +kernel) rfl, zk_b1 13 (by decide +kernel) rfl, zk_b21 97 (by decide +kernel) rfl, by decide +kernel, by decide +kernel, by decide +kernel⟩, zk_b21 99 (by decide +kernel) rfl, zk_s18 (q := (yX18_inSpaces, 60)) 8 (by decide +kernel)⟩
theorem zl_X18_692 : zm_F zk_E RX18 692 17 14 := ⟨RX17, TX17, 19, rfl, zk_i17, by decide, zk_b15 30 (by decide +kernel) rfl⟩
theorem zt_17_14 : zm_T zk_E RX17 17 14 .int false := ⟨RX17, TX17, 19, tyX17, rfl, tyX17_ok, nmX17, rfl, rfl, rfl⟩
theorem zl_X18_695 : zm_L zk_E RX18 695 yX17_tick (.code yX17_tick cX17_tick 2 none) 0 ∧ Cond.instanceMethod yX17_tick ∈ zk_E.2.2.1 ∧ Cond.selects yX17_tick.cls yX17_tick yX17_tick ∈ zk_E.2.2.1 := ⟨⟨zk_b21 104 (by decide +kernel) rfl, zk_b1 17 (by decide +kernel) rfl, zk_b21 101 (by decide +kernel) rfl, by decide +kernel, by decide +kernel, by decide +kernel⟩, zk_b21 102 (by decide +kernel) rfl, zk_b21 103 (by decide +kernel) rfl⟩
theorem zl_X18_698 : zm_L zk_E RX18 698 yX18_line_ (.code yX18_line_ cX18_line_ 4 none) 0 ∧ Cond.instanceMethod yX18_line_ ∈ zk_E.2.2.1 ∧ Cond.selects yX18_line_.cls yX18_line_ yX18_line_ ∈ zk_E.2.2.1 := ⟨⟨zk_b21 148 (by decide +kernel) rfl, zk_b1 13 (by decide +kernel) rfl, zk_b21 145 (by decide +kernel) rfl, by decide +kernel, by decide +kernel, by decide +kernel⟩, zk_b21 147 (by decide +kernel) rfl, zk_s19 (q := (yX18_line_, 60)) 3 (by decide +kernel)⟩
theorem zl_X18_700 : zm_L zk_E RX18 700 yX18_leave (.code yX18_leave cX18_leave 2 none) 0 ∧ Cond.instanceMethod yX18_leave ∈ zk_E.2.2.1 ∧ Cond.selects yX18_leave.cls yX18_leave yX18_leave ∈ zk_E.2.2.1 := ⟨⟨zk_b21 202 (by decide +kernel) rfl, zk_b1 13 (by decide +kernel) rfl, zk_b21 199 (by decide +kernel) rfl, by decide +kernel, by decide +kernel, by decide +kernel⟩, zk_b21 201 (by decide +kernel) rfl, zk_s19 (q := (yX18_leave, 60)) 14 (by decide +kernel)⟩
theorem zl_X18_680 : zm_L zk_E RX18 680 yX18_spread (.code yX18_spread cX18_spread 5 none) 0 ∧ Cond.instanceMethod yX18_spread ∈ zk_E.2.2.1 ∧ Cond.selects yX18_spread.cls yX18_spread yX18_spread ∈ zk_E.2.2.1 := ⟨⟨zk_b21 84 (by decide +kernel) rfl, zk_b1 13 (by decide +kernel) rfl, zk_b21 81 (by decide +kernel) rfl, by decide +kernel, by decide +kernel, by decide +kernel⟩, zk_b21 83 (by decide +kernel) rfl, zk_s18 (q := (yX18_spread, 60)) 5 (by decide +kernel)⟩
theorem zl_X18_703 : zm_L zk_E RX18 703 yX18_second (.code yX18_second cX18_second 4 none) 0 ∧ Cond.instanceMethod yX18_second ∈ zk_E.2.2.1 ∧ Cond.selects yX18_second.cls yX18_second yX18_second ∈ zk_E.2.2.1 := ⟨⟨zk_b21 80 (by decide +kernel) rfl, zk_b1 13 (by decide +kernel) rfl, zk_b21 77 (by decide +kernel) rfl, by decide +kernel, by decide +kernel, by decide +kernel⟩, zk_b21 79 (by decide +kernel) rfl, zk_s18 (q := (yX18_second, 60)) 4 (by decide +kernel)⟩
theorem zl_X11_1 : Cond.methodLink RX11 1 Lib.objectInit ∈ zk_E.2.2.1 ∧ Cond.instanceMethod Lib.objectInit ∈ zk_E.2.2.1 ∧ Cond.code Lib.objectInit ⟨#[0xb1]⟩ 1 none ∈ zk_E.2.2.1 := ⟨zk_b1 42 (by decide +kernel) rfl, zk_b1 43 (by decide +kernel) rfl, zk_b1 44 (by decide +kernel) rfl⟩
theorem zl_X11_7 : zm_N zk_E RX11 7 8 zk_fs8 := ⟨RX8, TX8, 4, tyX8, rfl, zk_i8, tyX8_ok, zk_b1 45 (by decide +kernel) rfl, zk_b1 46 (by decide +kernel) rfl, zk_b1 2 (by decide +kernel) rfl, rfl⟩
theorem zl_X11_9 : zm_LN zk_E RX11 9 yX8_init (.code yX8_init cX8_init 1 none) 0 ∧ Cond.instanceMethod yX8_init ∈ zk_E.2.2.1 := ⟨⟨zk_b1 49 (by decide +kernel) rfl, zk_b1 2 (by decide +kernel) rfl, ⟨"TowerHouse", zk_n1 47 (by decide +kernel) rfl⟩, by decide +kernel, by decide +kernel, by decide +kernel⟩, zk_b1 48 (by decide +kernel) rfl⟩
theorem zl_X11_10 : zm_F zk_E RX11 10 11 0 := ⟨RX11, TX11, 13, rfl, zk_i11, by decide, zk_b3 226 (by decide +kernel) rfl⟩
theorem zt_11_0 : zm_T zk_E RX11 11 0 (.object "TowerHouse$Plan") true := ⟨RX11, TX11, 13, tyX11, rfl, tyX11_ok, nmX11, rfl, rfl, rfl⟩
theorem zl_X11_16 : zm_N zk_E RX11 16 2 zk_fs2 := ⟨RX2, TX2, 19, tyX2, rfl, zk_i2, tyX2_ok, zk_b1 76 (by decide +kernel) rfl, zk_b1 77 (by decide +kernel) rfl, zk_b1 3 (by decide +kernel) rfl, rfl⟩
theorem zl_X11_18 : zm_L zk_E RX11 18 yX2_init (.code yX2_init cX2_init 2 none) 1 ∧ Cond.instanceMethod yX2_init ∈ zk_E.2.2.1 := ⟨⟨zk_b1 80 (by decide +kernel) rfl, zk_b1 3 (by decide +kernel) rfl, zk_b1 78 (by decide +kernel) rfl, by decide +kernel, by decide +kernel, by decide +kernel⟩, zk_b1 79 (by decide +kernel) rfl⟩
theorem zl_X11_21 : zm_F zk_E RX11 21 11 1 := ⟨RX11, TX11, 13, rfl, zk_i11, by decide, zk_b3 227 (by decide +kernel) rfl⟩
theorem zt_11_1 : zm_T zk_E RX11 11 1 (.object "TowerHouse$Finding") true := ⟨RX11, TX11, 13, tyX11, rfl, tyX11_ok, nmX11, rfl, rfl, rfl⟩
theorem zl_X11_25 : zm_N zk_E RX11 25 6 zk_fs6 := ⟨RX6, TX6, 10, tyX6, rfl, zk_i6, tyX6_ok, zk_b1 149 (by decide +kernel) rfl, zk_b1 150 (by decide +kernel) rfl, zk_b1 4 (by decide +kernel) rfl, rfl⟩
theorem zl_X11_27 : zm_LN zk_E RX11 27 yX6_init (.code yX6_init cX6_init 1 none) 0 ∧ Cond.instanceMethod yX6_init ∈ zk_E.2.2.1 := ⟨⟨zk_b1 153 (by decide +kernel) rfl, zk_b1 4 (by decide +kernel) rfl, ⟨"TowerHouse", zk_n1 151 (by decide +kernel) rfl⟩, by decide +kernel, by decide +kernel, by decide +kernel⟩, zk_b1 152 (by decide +kernel) rfl⟩
theorem zl_X11_28 : zm_F zk_E RX11 28 11 2 := ⟨RX11, TX11, 13, rfl, zk_i11, by decide, zk_b3 228 (by decide +kernel) rfl⟩
theorem zt_11_2 : zm_T zk_E RX11 11 2 (.object "TowerHouse$PermitText") true := ⟨RX11, TX11, 13, tyX11, rfl, tyX11_ok, nmX11, rfl, rfl, rfl⟩
theorem zl_X11_32 : zm_N zk_E RX11 32 7 zk_fs7 := ⟨RX7, TX7, 16, tyX7, rfl, zk_i7, tyX7_ok, zk_b1 194 (by decide +kernel) rfl, zk_b1 195 (by decide +kernel) rfl, zk_b1 5 (by decide +kernel) rfl, rfl⟩
theorem zl_X11_34 : zm_LN zk_E RX11 34 yX7_init (.code yX7_init cX7_init 1 none) 0 ∧ Cond.instanceMethod yX7_init ∈ zk_E.2.2.1 := ⟨⟨zk_b1 198 (by decide +kernel) rfl, zk_b1 5 (by decide +kernel) rfl, ⟨"TowerHouse", zk_n1 196 (by decide +kernel) rfl⟩, by decide +kernel, by decide +kernel, by decide +kernel⟩, zk_b1 197 (by decide +kernel) rfl⟩
theorem zl_X11_35 : zm_F zk_E RX11 35 11 3 := ⟨RX11, TX11, 13, rfl, zk_i11, by decide, zk_b3 229 (by decide +kernel) rfl⟩
theorem zt_11_3 : zm_T zk_E RX11 11 3 (.object "TowerHouse$Permits") true := ⟨RX11, TX11, 13, tyX11, rfl, tyX11_ok, nmX11, rfl, rfl, rfl⟩
theorem zl_X11_39 : zm_N zk_E RX11 39 10 zk_fs10 := ⟨RX10, TX10, 11, tyX10, rfl, zk_i10, tyX10_ok, zk_b2 13 (by decide +kernel) rfl, zk_b2 14 (by decide +kernel) rfl, zk_b1 6 (by decide +kernel) rfl, rfl⟩
theorem zl_X11_41 : zm_L zk_E RX11 41 yX10_init (.code yX10_init cX10_init 3 none) 2 ∧ Cond.instanceMethod yX10_init ∈ zk_E.2.2.1 := ⟨⟨zk_b2 17 (by decide +kernel) rfl, zk_b1 6 (by decide +kernel) rfl, zk_b2 15 (by decide +kernel) rfl, by decide +kernel, by decide +kernel, by decide +kernel⟩, zk_b2 16 (by decide +kernel) rfl⟩
theorem zl_X11_44 : zm_F zk_E RX11 44 11 4 := ⟨RX11, TX11, 13, rfl, zk_i11, by decide, zk_b3 230 (by decide +kernel) rfl⟩
theorem zt_11_4 : zm_T zk_E RX11 11 4 (.object "TowerHouse$Storey") true := ⟨RX11, TX11, 13, tyX11, rfl, tyX11_ok, nmX11, rfl, rfl, rfl⟩
theorem zl_X11_48 : zm_N zk_E RX11 48 0 zk_fs0 := ⟨RX0, TX0, 19, tyX0, rfl, zk_i0, tyX0_ok, zk_b2 57 (by decide +kernel) rfl, zk_b2 58 (by decide +kernel) rfl, zk_b1 7 (by decide +kernel) rfl, rfl⟩
theorem zl_X11_50 : zm_L zk_E RX11 50 yX0_init (.code yX0_init cX0_init 4 none) 3 ∧ Cond.instanceMethod yX0_init ∈ zk_E.2.2.1 := ⟨⟨zk_b2 61 (by decide +kernel) rfl, zk_b1 7 (by decide +kernel) rfl, zk_b2 59 (by decide +kernel) rfl, by decide +kernel, by decide +kernel, by decide +kernel⟩, zk_b2 60 (by decide +kernel) rfl⟩
theorem zl_X11_53 : zm_F zk_E RX11 53 11 5 := ⟨RX11, TX11, 13, rfl, zk_i11, by decide, zk_b3 231 (by decide +kernel) rfl⟩
theorem zt_11_5 : zm_T zk_E RX11 11 5 (.object "TowerHouse$Access") true := ⟨RX11, TX11, 13, tyX11, rfl, tyX11_ok, nmX11, rfl, rfl, rfl⟩
theorem zl_X11_57 : zm_N zk_E RX11 57 5 zk_fs5 := ⟨RX5, TX5, 13, tyX5, rfl, zk_i5, tyX5_ok, zk_b2 126 (by decide +kernel) rfl, zk_b2 127 (by decide +kernel) rfl, zk_b1 8 (by decide +kernel) rfl, rfl⟩
theorem zl_X11_59 : zm_LN zk_E RX11 59 yX5_init (.code yX5_init cX5_init 1 none) 0 ∧ Cond.instanceMethod yX5_init ∈ zk_E.2.2.1 := ⟨⟨zk_b2 130 (by decide +kernel) rfl, zk_b1 8 (by decide +kernel) rfl, ⟨"TowerHouse", zk_n2 128 (by decide +kernel) rfl⟩, by decide +kernel, by decide +kernel, by decide +kernel⟩, zk_b2 129 (by decide +kernel) rfl⟩
theorem zl_X11_60 : zm_F zk_E RX11 60 11 6 := ⟨RX11, TX11, 13, rfl, zk_i11, by decide, zk_b3 232 (by decide +kernel) rfl⟩
theorem zt_11_6 : zm_T zk_E RX11 11 6 (.object "TowerHouse$MatrixText") true := ⟨RX11, TX11, 13, tyX11, rfl, tyX11_ok, nmX11, rfl, rfl, rfl⟩
theorem zl_X11_64 : zm_N zk_E RX11 64 9 zk_fs9 := ⟨RX9, TX9, 20, tyX9, rfl, zk_i9, tyX9_ok, zk_b2 179 (by decide +kernel) rfl, zk_b2 180 (by decide +kernel) rfl, zk_b1 9 (by decide +kernel) rfl, rfl⟩
theorem zl_X11_66 : zm_LN zk_E RX11 66 yX9_init (.code yX9_init cX9_init 1 none) 0 ∧ Cond.instanceMethod yX9_init ∈ zk_E.2.2.1 := ⟨⟨zk_b2 183 (by decide +kernel) rfl, zk_b1 9 (by decide +kernel) rfl, ⟨"TowerHouse", zk_n2 181 (by decide +kernel) rfl⟩, by decide +kernel, by decide +kernel, by decide +kernel⟩, zk_b2 182 (by decide +kernel) rfl⟩
theorem zl_X11_67 : zm_F zk_E RX11 67 11 8 := ⟨RX11, TX11, 13, rfl, zk_i11, by decide, zk_b3 234 (by decide +kernel) rfl⟩
theorem zt_11_8 : zm_T zk_E RX11 11 8 (.object "TowerHouse$Program") true := ⟨RX11, TX11, 13, tyX11, rfl, tyX11_ok, nmX11, rfl, rfl, rfl⟩
theorem zl_X11_71 : zm_N zk_E RX11 71 1 zk_fs1 := ⟨RX1, TX1, 20, tyX1, rfl, zk_i1, tyX1_ok, zk_b3 22 (by decide +kernel) rfl, zk_b3 23 (by decide +kernel) rfl, zk_b1 10 (by decide +kernel) rfl, rfl⟩
theorem zl_X11_73 : zm_L zk_E RX11 73 yX1_init (.code yX1_init cX1_init 3 none) 1 ∧ Cond.instanceMethod yX1_init ∈ zk_E.2.2.1 := ⟨⟨zk_b3 26 (by decide +kernel) rfl, zk_b1 10 (by decide +kernel) rfl, zk_b3 24 (by decide +kernel) rfl, by decide +kernel, by decide +kernel, by decide +kernel⟩, zk_b3 25 (by decide +kernel) rfl⟩
theorem zl_X11_76 : zm_F zk_E RX11 76 11 9 := ⟨RX11, TX11, 13, rfl, zk_i11, by decide, zk_b3 235 (by decide +kernel) rfl⟩
theorem zt_11_9 : zm_T zk_E RX11 11 9 (.object "TowerHouse$Bus") true := ⟨RX11, TX11, 13, tyX11, rfl, tyX11_ok, nmX11, rfl, rfl, rfl⟩
theorem zl_X11_80 : zm_N zk_E RX11 80 4 zk_fs4 := ⟨RX4, TX4, 19, tyX4, rfl, zk_i4, tyX4_ok, zk_b3 95 (by decide +kernel) rfl, zk_b3 96 (by decide +kernel) rfl, zk_b1 11 (by decide +kernel) rfl, rfl⟩
theorem zl_X11_82 : zm_L zk_E RX11 82 yX4_init (.code yX4_init cX4_init 3 none) 2 ∧ Cond.instanceMethod yX4_init ∈ zk_E.2.2.1 := ⟨⟨zk_b3 99 (by decide +kernel) rfl, zk_b1 11 (by decide +kernel) rfl, zk_b3 97 (by decide +kernel) rfl, by decide +kernel, by decide +kernel, by decide +kernel⟩, zk_b3 98 (by decide +kernel) rfl⟩
theorem zl_X11_85 : zm_F zk_E RX11 85 11 7 := ⟨RX11, TX11, 13, rfl, zk_i11, by decide, zk_b3 233 (by decide +kernel) rfl⟩
theorem zt_11_7 : zm_T zk_E RX11 11 7 (.object "TowerHouse$Matrix") true := ⟨RX11, TX11, 13, tyX11, rfl, tyX11_ok, nmX11, rfl, rfl, rfl⟩
theorem zl_X11_89 : zm_N zk_E RX11 89 3 zk_fs3 := ⟨RX3, TX3, 16, tyX3, rfl, zk_i3, tyX3_ok, zk_b3 165 (by decide +kernel) rfl, zk_b3 166 (by decide +kernel) rfl, zk_b1 12 (by decide +kernel) rfl, rfl⟩
theorem zl_X11_91 : zm_LN zk_E RX11 91 yX3_init (.code yX3_init cX3_init 1 none) 0 ∧ Cond.instanceMethod yX3_init ∈ zk_E.2.2.1 := ⟨⟨zk_b3 169 (by decide +kernel) rfl, zk_b1 12 (by decide +kernel) rfl, ⟨"TowerHouse", zk_n3 167 (by decide +kernel) rfl⟩, by decide +kernel, by decide +kernel, by decide +kernel⟩, zk_b3 168 (by decide +kernel) rfl⟩
theorem zl_X11_92 : zm_F zk_E RX11 92 11 10 := ⟨RX11, TX11, 13, rfl, zk_i11, by decide, zk_b3 236 (by decide +kernel) rfl⟩
theorem zt_11_10 : zm_T zk_E RX11 11 10 (.object "TowerHouse$Lifts") true := ⟨RX11, TX11, 13, tyX11, rfl, tyX11_ok, nmX11, rfl, rfl, rfl⟩
theorem zl_X11_133 : zm_L zk_E RX11 133 yX11_isWithin (.code yX11_isWithin cX11_isWithin 3 (some .boolean)) 3 ∧ Cond.static yX11_isWithin ∈ zk_E.2.2.1 := ⟨⟨zk_b4 119 (by decide +kernel) rfl, zk_b1 1 (by decide +kernel) rfl, zk_b4 117 (by decide +kernel) rfl, by decide +kernel, by decide +kernel, by decide +kernel⟩, zk_b4 118 (by decide +kernel) rfl⟩
theorem zl_X11_96 : zm_L zk_E RX11 96 yX11_isOnPlan (.code yX11_isOnPlan cX11_isOnPlan 2 (some .boolean)) 2 ∧ Cond.static yX11_isOnPlan ∈ zk_E.2.2.1 := ⟨⟨zk_b4 116 (by decide +kernel) rfl, zk_b1 1 (by decide +kernel) rfl, zk_b4 114 (by decide +kernel) rfl, by decide +kernel, by decide +kernel, by decide +kernel⟩, zk_b4 115 (by decide +kernel) rfl⟩
theorem zl_X11_100 : zm_L zk_E RX11 100 yX11_needArgument (.code yX11_needArgument cX11_needArgument 1 none) 1 ∧ Cond.static yX11_needArgument ∈ zk_E.2.2.1 := ⟨⟨zk_b4 122 (by decide +kernel) rfl, zk_b1 1 (by decide +kernel) rfl, zk_b4 120 (by decide +kernel) rfl, by decide +kernel, by decide +kernel, by decide +kernel⟩, zk_b4 121 (by decide +kernel) rfl⟩
theorem zl_X11_104 : zm_F zk_E RX11 104 11 11 := ⟨RX11, TX11, 13, rfl, zk_i11, by decide, zk_b3 237 (by decide +kernel) rfl⟩
theorem zl_X11_112 : zm_L zk_E RX11 112 yX11_needState (.code yX11_needState cX11_needState 1 none) 1 ∧ Cond.static yX11_needState ∈ zk_E.2.2.1 := ⟨⟨zk_b4 192 (by decide +kernel) rfl, zk_b1 1 (by decide +kernel) rfl, zk_b4 190 (by decide +kernel) rfl, by decide +kernel, by decide +kernel, by decide +kernel⟩, zk_b4 191 (by decide +kernel) rfl⟩
theorem zl_X11_115 : zm_L zk_E RX11 115 yX8_addLine (.code yX8_addLine cX8_addLine 9 (some .int)) 4 ∧ Cond.instanceMethod yX8_addLine ∈ zk_E.2.2.1 ∧ Cond.selects yX8_addLine.cls yX8_addLine yX8_addLine ∈ zk_E.2.2.1 := ⟨⟨zk_b4 212 (by decide +kernel) rfl, zk_b1 2 (by decide +kernel) rfl, zk_b4 209 (by decide +kernel) rfl, by decide +kernel, by decide +kernel, by decide +kernel⟩, zk_b4 210 (by decide +kernel) rfl, zk_b4 211 (by decide +kernel) rfl⟩
theorem zl_X11_119 : zm_FN zk_E RX11 119 2 2 := ⟨RX2, TX2, 19, "TowerHouse", rfl, zk_i2, by decide, zk_n1 86 (by decide +kernel) rfl⟩
theorem zl_X11_108 : zm_FN zk_E RX11 108 8 0 := ⟨RX8, TX8, 4, "TowerHouse", rfl, zk_i8, by decide, zk_n1 54 (by decide +kernel) rfl⟩
theorem zl_X11_122 : zm_L zk_E RX11 122 yX11_isLine (.code yX11_isLine cX11_isLine 2 (some .boolean)) 1 ∧ Cond.instanceMethod yX11_isLine ∈ zk_E.2.2.1 ∧ Cond.selects yX11_isLine.cls yX11_isLine yX11_isLine ∈ zk_E.2.2.1 := ⟨⟨zk_b4 237 (by decide +kernel) rfl, zk_b1 1 (by decide +kernel) rfl, zk_b4 234 (by decide +kernel) rfl, by decide +kernel, by decide +kernel, by decide +kernel⟩, zk_b4 236 (by decide +kernel) rfl, zk_s1 (q := (yX11_isLine, 13)) 15 (by decide +kernel)⟩
theorem zl_X11_130 : zm_L zk_E RX11 130 yX8_moveLine (.code yX8_moveLine cX8_moveLine 5 (some .boolean)) 3 ∧ Cond.instanceMethod yX8_moveLine ∈ zk_E.2.2.1 ∧ Cond.selects yX8_moveLine.cls yX8_moveLine yX8_moveLine ∈ zk_E.2.2.1 := ⟨⟨zk_b5 6 (by decide +kernel) rfl, zk_b1 2 (by decide +kernel) rfl, zk_b5 3 (by decide +kernel) rfl, by decide +kernel, by decide +kernel, by decide +kernel⟩, zk_b5 4 (by decide +kernel) rfl, zk_b5 5 (by decide +kernel) rfl⟩
theorem zl_X11_126 : zm_L zk_E RX11 126 yX8_staysOnPlan (.code yX8_staysOnPlan cX8_staysOnPlan 5 (some .boolean)) 3 ∧ Cond.instanceMethod yX8_staysOnPlan ∈ zk_E.2.2.1 ∧ Cond.selects yX8_staysOnPlan.cls yX8_staysOnPlan yX8_staysOnPlan ∈ zk_E.2.2.1 := ⟨⟨zk_b5 1 (by decide +kernel) rfl, zk_b1 2 (by decide +kernel) rfl, zk_b4 238 (by decide +kernel) rfl, by decide +kernel, by decide +kernel, by decide +kernel⟩, zk_b4 239 (by decide +kernel) rfl, zk_b5 0 (by decide +kernel) rfl⟩
theorem zl_X11_144 : zm_L zk_E RX11 144 yX8_addDoor (.code yX8_addDoor cX8_addDoor 6 (some .int)) 4 ∧ Cond.instanceMethod yX8_addDoor ∈ zk_E.2.2.1 ∧ Cond.selects yX8_addDoor.cls yX8_addDoor yX8_addDoor ∈ zk_E.2.2.1 := ⟨⟨zk_b5 21 (by decide +kernel) rfl, zk_b1 2 (by decide +kernel) rfl, zk_b5 18 (by decide +kernel) rfl, by decide +kernel, by decide +kernel, by decide +kernel⟩, zk_b5 19 (by decide +kernel) rfl, zk_b5 20 (by decide +kernel) rfl⟩
theorem zl_X11_140 : zm_FN zk_E RX11 140 8 2 := ⟨RX8, TX8, 4, "TowerHouse", rfl, zk_i8, by decide, zk_n1 62 (by decide +kernel) rfl⟩
theorem zl_X11_136 : zm_L zk_E RX11 136 yX8_lengthOf (.code yX8_lengthOf cX8_lengthOf 3 (some .int)) 1 ∧ Cond.instanceMethod yX8_lengthOf ∈ zk_E.2.2.1 ∧ Cond.selects yX8_lengthOf.cls yX8_lengthOf yX8_lengthOf ∈ zk_E.2.2.1 := ⟨⟨zk_b5 17 (by decide +kernel) rfl, zk_b1 2 (by decide +kernel) rfl, zk_b5 14 (by decide +kernel) rfl, by decide +kernel, by decide +kernel, by decide +kernel⟩, zk_b5 15 (by decide +kernel) rfl, zk_b5 16 (by decide +kernel) rfl⟩
theorem zl_X11_150 : zm_L zk_E RX11 150 yX2_findSpaces (.code yX2_findSpaces cX2_findSpaces 2 (some .int)) 0 ∧ Cond.instanceMethod yX2_findSpaces ∈ zk_E.2.2.1 ∧ Cond.selects yX2_findSpaces.cls yX2_findSpaces yX2_findSpaces ∈ zk_E.2.2.1 := ⟨⟨zk_b5 32 (by decide +kernel) rfl, zk_b1 3 (by decide +kernel) rfl, zk_b5 29 (by decide +kernel) rfl, by decide +kernel, by decide +kernel, by decide +kernel⟩, zk_b5 30 (by decide +kernel) rfl, zk_b5 31 (by decide +kernel) rfl⟩
theorem zl_X11_147 : zm_FN zk_E RX11 147 2 1 := ⟨RX2, TX2, 19, "TowerHouse", rfl, zk_i2, by decide, zk_n1 85 (by decide +kernel) rfl⟩
theorem zl_X11_163 : zm_L zk_E RX11 163 yX2_countOutsideSides (.code yX2_countOutsideSides cX2_countOutsideSides 3 (some .int)) 0 ∧ Cond.instanceMethod yX2_countOutsideSides ∈ zk_E.2.2.1 ∧ Cond.selects yX2_countOutsideSides.cls yX2_countOutsideSides yX2_countOutsideSides ∈ zk_E.2.2.1 := ⟨⟨zk_b6 150 (by decide +kernel) rfl, zk_b1 3 (by decide +kernel) rfl, zk_b6 147 (by decide +kernel) rfl, by decide +kernel, by decide +kernel, by decide +kernel⟩, zk_b6 148 (by decide +kernel) rfl, zk_b6 149 (by decide +kernel) rfl⟩
theorem zl_X11_154 : zm_FN zk_E RX11 154 2 3 := ⟨RX2, TX2, 19, "TowerHouse", rfl, zk_i2, by decide, zk_n1 90 (by decide +kernel) rfl⟩
theorem zl_X11_157 : zm_L zk_E RX11 157 yX2_countPoints (.code yX2_countPoints cX2_countPoints 3 (some .int)) 0 ∧ Cond.instanceMethod yX2_countPoints ∈ zk_E.2.2.1 ∧ Cond.selects yX2_countPoints.cls yX2_countPoints yX2_countPoints ∈ zk_E.2.2.1 := ⟨⟨zk_b6 142 (by decide +kernel) rfl, zk_b1 3 (by decide +kernel) rfl, zk_b6 139 (by decide +kernel) rfl, by decide +kernel, by decide +kernel, by decide +kernel⟩, zk_b6 140 (by decide +kernel) rfl, zk_b6 141 (by decide +kernel) rfl⟩
theorem zl_X11_160 : zm_L zk_E RX11 160 yX2_countPieces (.code yX2_countPieces cX2_countPieces 1 (some .int)) 0 ∧ Cond.instanceMethod yX2_countPieces ∈ zk_E.2.2.1 ∧ Cond.selects yX2_countPieces.cls yX2_countPieces yX2_countPieces ∈ zk_E.2.2.1 := ⟨⟨zk_b6 146 (by decide +kernel) rfl, zk_b1 3 (by decide +kernel) rfl, zk_b6 143 (by decide +kernel) rfl, by decide +kernel, by decide +kernel, by decide +kernel⟩, zk_b6 144 (by decide +kernel) rfl, zk_b6 145 (by decide +kernel) rfl⟩
theorem zl_X11_166 : zm_L zk_E RX11 166 yX11_isSpace (.code yX11_isSpace cX11_isSpace 2 (some .boolean)) 1 ∧ Cond.instanceMethod yX11_isSpace ∈ zk_E.2.2.1 ∧ Cond.selects yX11_isSpace.cls yX11_isSpace yX11_isSpace ∈ zk_E.2.2.1 := ⟨⟨zk_b6 161 (by decide +kernel) rfl, zk_b1 1 (by decide +kernel) rfl, zk_b6 158 (by decide +kernel) rfl, by decide +kernel, by decide +kernel, by decide +kernel⟩, zk_b6 160 (by decide +kernel) rfl, zk_s3 (q := (yX11_isSpace, 13)) 1 (by decide +kernel)⟩
theorem zl_X11_169 : zm_L zk_E RX11 169 yX2_sidesOf (.code yX2_sidesOf cX2_sidesOf 4 (some .int)) 2 ∧ Cond.instanceMethod yX2_sidesOf ∈ zk_E.2.2.1 ∧ Cond.selects yX2_sidesOf.cls yX2_sidesOf yX2_sidesOf ∈ zk_E.2.2.1 := ⟨⟨zk_b6 165 (by decide +kernel) rfl, zk_b1 3 (by decide +kernel) rfl, zk_b6 162 (by decide +kernel) rfl, by decide +kernel, by decide +kernel, by decide +kernel⟩, zk_b6 163 (by decide +kernel) rfl, zk_b6 164 (by decide +kernel) rfl⟩
theorem zl_X11_173 : zm_L zk_E RX11 173 yX2_sideOf (.code yX2_sideOf cX2_sideOf 6 (some .int)) 4 ∧ Cond.instanceMethod yX2_sideOf ∈ zk_E.2.2.1 ∧ Cond.selects yX2_sideOf.cls yX2_sideOf yX2_sideOf ∈ zk_E.2.2.1 := ⟨⟨zk_b6 180 (by decide +kernel) rfl, zk_b1 3 (by decide +kernel) rfl, zk_b6 177 (by decide +kernel) rfl, by decide +kernel, by decide +kernel, by decide +kernel⟩, zk_b6 178 (by decide +kernel) rfl, zk_b6 179 (by decide +kernel) rfl⟩
theorem zl_X11_176 : zm_L zk_E RX11 176 yX2_measureOf (.code yX2_measureOf cX2_measureOf 3 (some .int)) 2 ∧ Cond.instanceMethod yX2_measureOf ∈ zk_E.2.2.1 ∧ Cond.selects yX2_measureOf.cls yX2_measureOf yX2_measureOf ∈ zk_E.2.2.1 := ⟨⟨zk_b6 191 (by decide +kernel) rfl, zk_b1 3 (by decide +kernel) rfl, zk_b6 188 (by decide +kernel) rfl, by decide +kernel, by decide +kernel, by decide +kernel⟩, zk_b6 189 (by decide +kernel) rfl, zk_b6 190 (by decide +kernel) rfl⟩
theorem zl_X11_179 : zm_L zk_E RX11 179 yX11_isCell (.code yX11_isCell cX11_isCell 2 (some .boolean)) 2 ∧ Cond.static yX11_isCell ∈ zk_E.2.2.1 := ⟨⟨zk_b6 205 (by decide +kernel) rfl, zk_b1 1 (by decide +kernel) rfl, zk_b6 203 (by decide +kernel) rfl, by decide +kernel, by decide +kernel, by decide +kernel⟩, zk_b6 204 (by decide +kernel) rfl⟩
theorem zl_X11_182 : zm_L zk_E RX11 182 yX2_spaceAt (.code yX2_spaceAt cX2_spaceAt 3 (some .int)) 2 ∧ Cond.instanceMethod yX2_spaceAt ∈ zk_E.2.2.1 ∧ Cond.selects yX2_spaceAt.cls yX2_spaceAt yX2_spaceAt ∈ zk_E.2.2.1 := ⟨⟨zk_b5 99 (by decide +kernel) rfl, zk_b1 3 (by decide +kernel) rfl, zk_b6 206 (by decide +kernel) rfl, by decide +kernel, by decide +kernel, by decide +kernel⟩, zk_b5 97 (by decide +kernel) rfl, zk_b5 98 (by decide +kernel) rfl⟩
theorem zl_X11_188 : zm_L zk_E RX11 188 yX2_lengthBetween (.code yX2_lengthBetween cX2_lengthBetween 9 (some .int)) 2 ∧ Cond.instanceMethod yX2_lengthBetween ∈ zk_E.2.2.1 ∧ Cond.selects yX2_lengthBetween.cls yX2_lengthBetween yX2_lengthBetween ∈ zk_E.2.2.1 := ⟨⟨zk_b6 221 (by decide +kernel) rfl, zk_b1 3 (by decide +kernel) rfl, zk_b6 218 (by decide +kernel) rfl, by decide +kernel, by decide +kernel, by decide +kernel⟩, zk_b6 219 (by decide +kernel) rfl, zk_b6 220 (by decide +kernel) rfl⟩
theorem zl_X11_185 : zm_L zk_E RX11 185 yX11_isSpaceOrOutside (.code yX11_isSpaceOrOutside cX11_isSpaceOrOutside 2 (some .boolean)) 1 ∧ Cond.instanceMethod yX11_isSpaceOrOutside ∈ zk_E.2.2.1 ∧ Cond.selects yX11_isSpaceOrOutside.cls yX11_isSpaceOrOutside yX11_isSpaceOrOutside ∈ zk_E.2.2.1 := ⟨⟨zk_b6 217 (by decide +kernel) rfl, zk_b1 1 (by decide +kernel) rfl, zk_b6 214 (by decide +kernel) rfl, by decide +kernel, by decide +kernel, by decide +kernel⟩, zk_b6 216 (by decide +kernel) rfl, zk_s3 (q := (yX11_isSpaceOrOutside, 13)) 4 (by decide +kernel)⟩
theorem zl_X11_191 : zm_L zk_E RX11 191 yX2_doorsOnWay (.code yX2_doorsOnWay cX2_doorsOnWay 7 (some .int)) 2 ∧ Cond.instanceMethod yX2_doorsOnWay ∈ zk_E.2.2.1 ∧ Cond.selects yX2_doorsOnWay.cls yX2_doorsOnWay yX2_doorsOnWay ∈ zk_E.2.2.1 := ⟨⟨zk_b6 232 (by decide +kernel) rfl, zk_b1 3 (by decide +kernel) rfl, zk_b6 229 (by decide +kernel) rfl, by decide +kernel, by decide +kernel, by decide +kernel⟩, zk_b6 230 (by decide +kernel) rfl, zk_b6 231 (by decide +kernel) rfl⟩
theorem zl_X11_194 : zm_FN zk_E RX11 194 2 8 := ⟨RX2, TX2, 19, "TowerHouse", rfl, zk_i2, by decide, zk_n1 98 (by decide +kernel) rfl⟩
theorem zl_X11_197 : zm_L zk_E RX11 197 yX6_isSayable (.code yX6_isSayable cX6_isSayable 5 (some .boolean)) 1 ∧ Cond.static yX6_isSayable ∈ zk_E.2.2.1 := ⟨⟨zk_b7 44 (by decide +kernel) rfl, zk_b1 4 (by decide +kernel) rfl, zk_b7 42 (by decide +kernel) rfl, by decide +kernel, by decide +kernel, by decide +kernel⟩, zk_b7 43 (by decide +kernel) rfl⟩
theorem zl_X11_201 : zm_L zk_E RX11 201 yX6_hasRoomFor (.code yX6_hasRoomFor cX6_hasRoomFor 5 (some .boolean)) 1 ∧ Cond.instanceMethod yX6_hasRoomFor ∈ zk_E.2.2.1 ∧ Cond.selects yX6_hasRoomFor.cls yX6_hasRoomFor yX6_hasRoomFor ∈ zk_E.2.2.1 := ⟨⟨zk_b7 51 (by decide +kernel) rfl, zk_b1 4 (by decide +kernel) rfl, zk_b7 48 (by decide +kernel) rfl, by decide +kernel, by decide +kernel, by decide +kernel⟩, zk_b7 49 (by decide +kernel) rfl, zk_b7 50 (by decide +kernel) rfl⟩
theorem zl_X11_204 : zm_L zk_E RX11 204 yX6_append (.code yX6_append cX6_append 6 (some .int)) 1 ∧ Cond.instanceMethod yX6_append ∈ zk_E.2.2.1 ∧ Cond.selects yX6_append.cls yX6_append yX6_append ∈ zk_E.2.2.1 := ⟨⟨zk_b7 55 (by decide +kernel) rfl, zk_b1 4 (by decide +kernel) rfl, zk_b7 52 (by decide +kernel) rfl, by decide +kernel, by decide +kernel, by decide +kernel⟩, zk_b7 53 (by decide +kernel) rfl, zk_b7 54 (by decide +kernel) rfl⟩
theorem zl_X11_208 : zm_FN zk_E RX11 208 6 1 := ⟨RX6, TX6, 10, "TowerHouse", rfl, zk_i6, by decide, zk_n1 157 (by decide +kernel) rfl⟩
theorem zl_X11_211 : zm_L zk_E RX11 211 yX6_readRules (.code yX6_readRules cX6_readRules 2 (some .boolean)) 0 ∧ Cond.instanceMethod yX6_readRules ∈ zk_E.2.2.1 ∧ Cond.selects yX6_readRules.cls yX6_readRules yX6_readRules ∈ zk_E.2.2.1 := ⟨⟨zk_b4 33 (by decide +kernel) rfl, zk_b1 4 (by decide +kernel) rfl, zk_b4 30 (by decide +kernel) rfl, by decide +kernel, by decide +kernel, by decide +kernel⟩, zk_b4 31 (by decide +kernel) rfl, zk_b4 32 (by decide +kernel) rfl⟩
theorem zl_X11_218 : zm_L zk_E RX11 218 yX7_takeRules (.code yX7_takeRules cX7_takeRules 2 none) 1 ∧ Cond.instanceMethod yX7_takeRules ∈ zk_E.2.2.1 ∧ Cond.selects yX7_takeRules.cls yX7_takeRules yX7_takeRules ∈ zk_E.2.2.1 := ⟨⟨zk_b4 101 (by decide +kernel) rfl, zk_b1 5 (by decide +kernel) rfl, zk_b4 98 (by decide +kernel) rfl, by decide +kernel, by decide +kernel, by decide +kernel⟩, zk_b4 99 (by decide +kernel) rfl, zk_b4 100 (by decide +kernel) rfl⟩
theorem zl_X11_222 : zm_FN zk_E RX11 222 7 0 := ⟨RX7, TX7, 16, "TowerHouse", rfl, zk_i7, by decide, zk_n1 203 (by decide +kernel) rfl⟩
theorem zl_X11_215 : zm_L zk_E RX11 215 yX6_wrongPlace (.code yX6_wrongPlace cX6_wrongPlace 1 (some .int)) 0 ∧ Cond.instanceMethod yX6_wrongPlace ∈ zk_E.2.2.1 ∧ Cond.selects yX6_wrongPlace.cls yX6_wrongPlace yX6_wrongPlace ∈ zk_E.2.2.1 := ⟨⟨zk_b4 97 (by decide +kernel) rfl, zk_b1 4 (by decide +kernel) rfl, zk_b4 94 (by decide +kernel) rfl, by decide +kernel, by decide +kernel, by decide +kernel⟩, zk_b4 95 (by decide +kernel) rfl, zk_b4 96 (by decide +kernel) rfl⟩
theorem zl_X11_225 : zm_L zk_E RX11 225 yX7_isFactName (.code yX7_isFactName cX7_isFactName 7 (some .boolean)) 1 ∧ Cond.static yX7_isFactName ∈ zk_E.2.2.1 := ⟨⟨zk_b7 72 (by decide +kernel) rfl, zk_b1 5 (by decide +kernel) rfl, zk_b7 70 (by decide +kernel) rfl, by decide +kernel, by decide +kernel, by decide +kernel⟩, zk_b7 71 (by decide +kernel) rfl⟩
theorem zl_X11_230 : zm_L zk_E RX11 230 yX7_hasRoomForFact (.code yX7_hasRoomForFact cX7_hasRoomForFact 3 (some .boolean)) 1 ∧ Cond.instanceMethod yX7_hasRoomForFact ∈ zk_E.2.2.1 ∧ Cond.selects yX7_hasRoomForFact.cls yX7_hasRoomForFact yX7_hasRoomForFact ∈ zk_E.2.2.1 := ⟨⟨zk_b7 81 (by decide +kernel) rfl, zk_b1 5 (by decide +kernel) rfl, zk_b7 78 (by decide +kernel) rfl, by decide +kernel, by decide +kernel, by decide +kernel⟩, zk_b7 79 (by decide +kernel) rfl, zk_b7 80 (by decide +kernel) rfl⟩
theorem zl_X11_233 : zm_L zk_E RX11 233 yX7_setFact (.code yX7_setFact cX7_setFact 7 (some .long)) 2 ∧ Cond.instanceMethod yX7_setFact ∈ zk_E.2.2.1 ∧ Cond.selects yX7_setFact.cls yX7_setFact yX7_setFact ∈ zk_E.2.2.1 := ⟨⟨zk_b7 89 (by decide +kernel) rfl, zk_b1 5 (by decide +kernel) rfl, zk_b7 86 (by decide +kernel) rfl, by decide +kernel, by decide +kernel, by decide +kernel⟩, zk_b7 87 (by decide +kernel) rfl, zk_b7 88 (by decide +kernel) rfl⟩
theorem zl_X11_228 : Cond.constant RX11 228 (-1000000000 : Int32) ∈ zk_E.2.2.1 := zk_b7 76 (by decide +kernel) rfl
theorem zl_X11_229 : Cond.constant RX11 229 (1000000000 : Int32) ∈ zk_E.2.2.1 := zk_b7 77 (by decide +kernel) rfl
theorem zl_X11_237 : Cond.constant RX11 237 (1000000 : Int32) ∈ zk_E.2.2.1 := zk_b7 105 (by decide +kernel) rfl
theorem zl_X11_238 : zm_L zk_E RX11 238 yX7_askAll (.code yX7_askAll cX7_askAll 3 none) 1 ∧ Cond.instanceMethod yX7_askAll ∈ zk_E.2.2.1 ∧ Cond.selects yX7_askAll.cls yX7_askAll yX7_askAll ∈ zk_E.2.2.1 := ⟨⟨zk_b7 109 (by decide +kernel) rfl, zk_b1 5 (by decide +kernel) rfl, zk_b7 106 (by decide +kernel) rfl, by decide +kernel, by decide +kernel, by decide +kernel⟩, zk_b7 107 (by decide +kernel) rfl, zk_b7 108 (by decide +kernel) rfl⟩
theorem zl_X11_242 : zm_L zk_E RX11 242 yX7_countBroken (.code yX7_countBroken cX7_countBroken 3 (some .int)) 0 ∧ Cond.instanceMethod yX7_countBroken ∈ zk_E.2.2.1 ∧ Cond.selects yX7_countBroken.cls yX7_countBroken yX7_countBroken ∈ zk_E.2.2.1 := ⟨⟨zk_b7 175 (by decide +kernel) rfl, zk_b1 5 (by decide +kernel) rfl, zk_b7 172 (by decide +kernel) rfl, by decide +kernel, by decide +kernel, by decide +kernel⟩, zk_b7 173 (by decide +kernel) rfl, zk_b7 174 (by decide +kernel) rfl⟩
theorem zl_X11_245 : zm_FN zk_E RX11 245 7 1 := ⟨RX7, TX7, 16, "TowerHouse", rfl, zk_i7, by decide, zk_n1 205 (by decide +kernel) rfl⟩
theorem zl_X11_248 : zm_L zk_E RX11 248 yX7_answerOf (.code yX7_answerOf cX7_answerOf 3 (some .long)) 2 ∧ Cond.instanceMethod yX7_answerOf ∈ zk_E.2.2.1 ∧ Cond.selects yX7_answerOf.cls yX7_answerOf yX7_answerOf ∈ zk_E.2.2.1 := ⟨⟨zk_b7 186 (by decide +kernel) rfl, zk_b1 5 (by decide +kernel) rfl, zk_b7 183 (by decide +kernel) rfl, by decide +kernel, by decide +kernel, by decide +kernel⟩, zk_b7 184 (by decide +kernel) rfl, zk_b7 185 (by decide +kernel) rfl⟩
theorem zl_X11_252 : zm_L zk_E RX11 252 yX7_firstRefusing (.code yX7_firstRefusing cX7_firstRefusing 2 (some .int)) 0 ∧ Cond.instanceMethod yX7_firstRefusing ∈ zk_E.2.2.1 ∧ Cond.selects yX7_firstRefusing.cls yX7_firstRefusing yX7_firstRefusing ∈ zk_E.2.2.1 := ⟨⟨zk_b7 197 (by decide +kernel) rfl, zk_b1 5 (by decide +kernel) rfl, zk_b7 194 (by decide +kernel) rfl, by decide +kernel, by decide +kernel, by decide +kernel⟩, zk_b7 195 (by decide +kernel) rfl, zk_b7 196 (by decide +kernel) rfl⟩
theorem zt_11_11 : zm_T zk_E RX11 11 11 .boolean false := ⟨RX11, TX11, 13, tyX11, rfl, tyX11_ok, nmX11, rfl, rfl, rfl⟩
theorem zl_X11_255 : zm_L zk_E RX11 255 yX10_numberCells (.code yX10_numberCells cX10_numberCells 6 none) 0 ∧ Cond.instanceMethod yX10_numberCells ∈ zk_E.2.2.1 ∧ Cond.selects yX10_numberCells.cls yX10_numberCells yX10_numberCells ∈ zk_E.2.2.1 := ⟨⟨zk_b7 201 (by decide +kernel) rfl, zk_b1 6 (by decide +kernel) rfl, zk_b7 198 (by decide +kernel) rfl, by decide +kernel, by decide +kernel, by decide +kernel⟩, zk_b7 199 (by decide +kernel) rfl, zk_b7 200 (by decide +kernel) rfl⟩
theorem zl_X11_258 : zm_L zk_E RX11 258 yX0_findPortals (.code yX0_findPortals cX0_findPortals 2 none) 0 ∧ Cond.instanceMethod yX0_findPortals ∈ zk_E.2.2.1 ∧ Cond.selects yX0_findPortals.cls yX0_findPortals yX0_findPortals ∈ zk_E.2.2.1 := ⟨⟨zk_b7 237 (by decide +kernel) rfl, zk_b1 7 (by decide +kernel) rfl, zk_b7 234 (by decide +kernel) rfl, by decide +kernel, by decide +kernel, by decide +kernel⟩, zk_b7 235 (by decide +kernel) rfl, zk_b7 236 (by decide +kernel) rfl⟩
theorem zl_X11_261 : zm_FN zk_E RX11 261 4 2 := ⟨RX4, TX4, 19, "TowerHouse", rfl, zk_i4, by decide, zk_n3 105 (by decide +kernel) rfl⟩
theorem zt_4_2 : zm_T zk_E RX4 4 2 .int false := ⟨RX4, TX4, 19, tyX4, rfl, tyX4_ok, nmX4, rfl, rfl, rfl⟩
theorem zl_X11_264 : zm_FN zk_E RX11 264 0 3 := ⟨RX0, TX0, 19, "TowerHouse", rfl, zk_i0, by decide, zk_n2 68 (by decide +kernel) rfl⟩
set_option maxHeartbeats 4000000 in
set_option maxRecDepth 100000 in
theorem zt_X18_nextOne_J135 {p : Program} {l : Launch} {e : Env} {R : Room} {s : State} {m : MethodId} {args : Array Value} {below : List Frame} {meth : Method} {c : Code} {V : zm_V} {mc ms d rc rs : Nat} (hX : zm_X p R s m args meth c RX18 "nextOne" cX18_nextOne 5 zk_E V mc ms) (hr : meth.sig.returnType = (some .int)) (hR : R.frames = d ∧ R.locals = 64 * d) (hd : 1 ≤ d) {N : Nat} {k : Nat → Int32 → Int32 → zm_S → Option ((Int32 × zm_S) ⊕ ((Int32) × zm_S))} {a0 : Nat} {i2 : Int32} {res : (Int32 × zm_S) ⊕ ((Int32) × zm_S)} {out : (Int32 × zm_S)}   (hf : ∀ o, res = .inl o → o = out) (hk : ∀ (x1 : Int32) (S' : zm_S), res = .inr (x1, S') → zw p l e R s m args below meth c (vx_MQ below (zm_Qc zk_E V (zo_i out)) (zm_XC zk_E V zo_x) args s mc ms (fun q => V.2.2.2.1 ≤ q)) 5 zk_E V mc ms 143 [(1, .int x1)] [] S' rc rs) (hrec : ∀ (i1' : Int32) (i2' : Int32) (S : zm_S), k a0 i1' i2' S = some res → zw p l e R s m args below meth c (vx_MQ below (zm_Qc zk_E V (zo_i out)) (zm_XC zk_E V zo_x) args s mc ms (fun q => V.2.2.2.1 ≤ q)) 5 zk_E V mc ms 4 [(0, .ref a0), (1, .int i1'), (2, .int i2')] [] S rc rs) {S : zm_S} (h : zf_X18_nextOne_J135 N k a0 i2 S = some res) : zw p l e R s m args below meth c (vx_MQ below (zm_Qc zk_E V (zo_i out)) (zm_XC zk_E V zo_x) args s mc ms (fun q => V.2.2.2.1 ≤ q)) 5 zk_E V mc ms 135 [(0, .ref a0), (2, .int i2)] [] S rc rs := by
  unfold zf_X18_nextOne_J135 at h
  refine zw_iload_n hX dX18_nextOne_135 rfl ?_
  refine zw_istore_n hX dX18_nextOne_136 (by decide) ?_
  refine zw_iinc (v := (i2 + (1 : Int32))) hX dX18_nextOne_137 rfl rfl (by decide) ?_
  refine zw_goto (tgt := 4) hX dX18_nextOne_140 (by decide) ?_
  refine zw_sub (lv' := [(0, .ref a0), (1, .int i2), (2, .int (i2 + (1 : Int32)))]) (List.forall_mem_cons.mpr ⟨rfl, (List.forall_mem_cons.mpr ⟨rfl, (List.forall_mem_cons.mpr ⟨rfl, zs_nil⟩)⟩)⟩) ?_
  exact hrec _ _ _ h
set_option maxHeartbeats 4000000 in
set_option maxRecDepth 100000 in
theorem zt_X18_nextOne_J98 {p : Program} {l : Launch} {e : Env} {R : Room} {s : State} {m : MethodId} {args : Array Value} {below : List Frame} {meth : Method} {c : Code} {V : zm_V} {mc ms d rc rs : Nat} (hX : zm_X p R s m args meth c RX18 "nextOne" cX18_nextOne 5 zk_E V mc ms) (hr : meth.sig.returnType = (some .int)) (hR : R.frames = d ∧ R.locals = 64 * d) (hd : 1 ≤ d) {N : Nat} {k : Nat → Int32 → Int32 → zm_S → Option ((Int32 × zm_S) ⊕ ((Int32) × zm_S))} {a0 : Nat} {i1 : Int32} {i2 : Int32} {t0 : Int32} {res : (Int32 × zm_S) ⊕ ((Int32) × zm_S)} {out : (Int32 × zm_S)}   (hf : ∀ o, res = .inl o → o = out) (hk : ∀ (x1 : Int32) (S' : zm_S), res = .inr (x1, S') → zw p l e R s m args below meth c (vx_MQ below (zm_Qc zk_E V (zo_i out)) (zm_XC zk_E V zo_x) args s mc ms (fun q => V.2.2.2.1 ≤ q)) 5 zk_E V mc ms 143 [(1, .int x1)] [] S' rc rs) (hrec : ∀ (i1' : Int32) (i2' : Int32) (S : zm_S), k a0 i1' i2' S = some res → zw p l e R s m args below meth c (vx_MQ below (zm_Qc zk_E V (zo_i out)) (zm_XC zk_E V zo_x) args s mc ms (fun q => V.2.2.2.1 ≤ q)) 5 zk_E V mc ms 4 [(0, .ref a0), (1, .int i1'), (2, .int i2')] [] S rc rs) {S : zm_S} (h : zf_X18_nextOne_J98 N k a0 i1 i2 t0 S = some res) : zw p l e R s m args below meth c (vx_MQ below (zm_Qc zk_E V (zo_i out)) (zm_XC zk_E V zo_x) args s mc ms (fun q => V.2.2.2.1 ≤ q)) 5 zk_E V mc ms 98 [(0, .ref a0), (1, .int i1), (2, .int i2)] [.int t0] S rc rs := by
  unfold zf_X18_nextOne_J98 at h
  refine zw_istore hX dX18_nextOne_98 (by decide) ?_
  refine zw_iload hX dX18_nextOne_100 rfl ?_
  refine zw_if_le (tgt := 137) hX dX18_nextOne_102 (by decide) (fun c102 => ?_) (fun c102 => ?_)
  · rw [if_pos c102] at h
    refine zw_iinc (v := (i2 + (1 : Int32))) hX dX18_nextOne_137 rfl rfl (by decide) ?_
    refine zw_goto (tgt := 4) hX dX18_nextOne_140 (by decide) ?_
    refine zw_sub (lv' := [(0, .ref a0), (1, .int i1), (2, .int (i2 + (1 : Int32)))]) (List.forall_mem_cons.mpr ⟨rfl, (List.forall_mem_cons.mpr ⟨rfl, (List.forall_mem_cons.mpr ⟨rfl, zs_nil⟩)⟩)⟩) ?_
    exact hrec _ _ _ h
  · rw [if_neg c102] at h
    refine zw_iload_n hX dX18_nextOne_105 rfl ?_
    refine zw_if_lt (tgt := 135) hX dX18_nextOne_106 (by decide) (fun c106 => ?_) (fun c106 => ?_)
    · rw [if_pos c106] at h
      refine zw_sub (lv' := [(0, .ref a0), (2, .int i2)]) (List.forall_mem_cons.mpr ⟨rfl, (List.forall_mem_cons.mpr ⟨rfl, zs_nil⟩)⟩) ?_
      exact zt_X18_nextOne_J135 hX hr hR hd hf hk hrec h
    · rw [if_neg c106] at h
      refine zw_iload hX dX18_nextOne_109 rfl ?_
      refine zw_aload_n hX dX18_nextOne_111 rfl ?_
      obtain ⟨b4, g, h⟩ := zb_some h
      refine zw_getr hX zl_X18_172 dX18_nextOne_112 g ?_
      refine zw_bipush (v := (24 : Int32)) hX dX18_nextOne_115 (by decide) ?_
      refine zw_aload_n hX dX18_nextOne_117 rfl ?_
      obtain ⟨b5, g, h⟩ := zb_some h
      refine zw_getr hX zl_X18_112 dX18_nextOne_118 g ?_
      refine zw_iload_n hX dX18_nextOne_121 rfl ?_
      obtain ⟨v6, g, h⟩ := zb_some h
      refine zw_xi hX dX18_nextOne_122 g ?_
      refine zw_imul hX dX18_nextOne_123 ?_
      refine zw_aload_n hX dX18_nextOne_124 rfl ?_
      obtain ⟨b7, g, h⟩ := zb_some h
      refine zw_getr hX zl_X18_109 dX18_nextOne_125 g ?_
      refine zw_iload_n hX dX18_nextOne_128 rfl ?_
      obtain ⟨v8, g, h⟩ := zb_some h
      refine zw_xi hX dX18_nextOne_129 g ?_
      refine zw_iadd hX dX18_nextOne_130 ?_
      obtain ⟨v9, g, h⟩ := zb_some h
      refine zw_xi hX dX18_nextOne_131 g ?_
      refine zw_icmp_ge (tgt := 137) hX dX18_nextOne_132 (by decide) (fun c132 => ?_) (fun c132 => ?_)
      · rw [if_pos c132] at h
        refine zw_iinc (v := (i2 + (1 : Int32))) hX dX18_nextOne_137 rfl rfl (by decide) ?_
        refine zw_goto (tgt := 4) hX dX18_nextOne_140 (by decide) ?_
        refine zw_sub (lv' := [(0, .ref a0), (1, .int i1), (2, .int (i2 + (1 : Int32)))]) (List.forall_mem_cons.mpr ⟨rfl, (List.forall_mem_cons.mpr ⟨rfl, (List.forall_mem_cons.mpr ⟨rfl, zs_nil⟩)⟩)⟩) ?_
        exact hrec _ _ _ h
      · rw [if_neg c132] at h
        refine zw_sub (lv' := [(0, .ref a0), (2, .int i2)]) (List.forall_mem_cons.mpr ⟨rfl, (List.forall_mem_cons.mpr ⟨rfl, zs_nil⟩)⟩) ?_
        exact zt_X18_nextOne_J135 hX hr hR hd hf hk hrec h
set_option maxHeartbeats 4000000 in
set_option maxRecDepth 100000 in
theorem zt_X18_nextOne_J68 {p : Program} {l : Launch} {e : Env} {R : Room} {s : State} {m : MethodId} {args : Array Value} {below : List Frame} {meth : Method} {c : Code} {V : zm_V} {mc ms d rc rs : Nat} (hX : zm_X p R s m args meth c RX18 "nextOne" cX18_nextOne 5 zk_E V mc ms) (hr : meth.sig.returnType = (some .int)) (hR : R.frames = d ∧ R.locals = 64 * d) (hd : 1 ≤ d) {N : Nat} {k : Nat → Int32 → Int32 → zm_S → Option ((Int32 × zm_S) ⊕ ((Int32) × zm_S))} {a0 : Nat} {i1 : Int32} {i2 : Int32} {t0 : Int32} {res : (Int32 × zm_S) ⊕ ((Int32) × zm_S)} {out : (Int32 × zm_S)}   (hf : ∀ o, res = .inl o → o = out) (hk : ∀ (x1 : Int32) (S' : zm_S), res = .inr (x1, S') → zw p l e R s m args below meth c (vx_MQ below (zm_Qc zk_E V (zo_i out)) (zm_XC zk_E V zo_x) args s mc ms (fun q => V.2.2.2.1 ≤ q)) 5 zk_E V mc ms 143 [(1, .int x1)] [] S' rc rs) (hrec : ∀ (i1' : Int32) (i2' : Int32) (S : zm_S), k a0 i1' i2' S = some res → zw p l e R s m args below meth c (vx_MQ below (zm_Qc zk_E V (zo_i out)) (zm_XC zk_E V zo_x) args s mc ms (fun q => V.2.2.2.1 ≤ q)) 5 zk_E V mc ms 4 [(0, .ref a0), (1, .int i1'), (2, .int i2')] [] S rc rs) {S : zm_S} (h : zf_X18_nextOne_J68 N k a0 i1 i2 t0 S = some res) : zw p l e R s m args below meth c (vx_MQ below (zm_Qc zk_E V (zo_i out)) (zm_XC zk_E V zo_x) args s mc ms (fun q => V.2.2.2.1 ≤ q)) 5 zk_E V mc ms 68 [(0, .ref a0), (1, .int i1), (2, .int i2)] [.int t0] S rc rs := by
  unfold zf_X18_nextOne_J68 at h
  refine zw_istore_n hX dX18_nextOne_68 (by decide) ?_
  refine zw_iload_n hX dX18_nextOne_69 rfl ?_
  refine zw_if_eq (tgt := 97) hX dX18_nextOne_70 (by decide) (fun c70 => ?_) (fun c70 => ?_)
  · rw [if_pos c70] at h
    refine zw_iconst (v := (0 : Int32)) hX dX18_nextOne_97 (by decide) ?_
    refine zw_sub (lv' := [(0, .ref a0), (1, .int i1), (2, .int i2)]) (List.forall_mem_cons.mpr ⟨rfl, (List.forall_mem_cons.mpr ⟨rfl, (List.forall_mem_cons.mpr ⟨rfl, zs_nil⟩)⟩)⟩) ?_
    exact zt_X18_nextOne_J98 hX hr hR hd hf hk hrec h
  · rw [if_neg c70] at h
    refine zw_aload_n hX dX18_nextOne_73 rfl ?_
    obtain ⟨b10, g, h⟩ := zb_some h
    refine zw_getr hX zl_X18_172 dX18_nextOne_74 g ?_
    refine zw_bipush (v := (24 : Int32)) hX dX18_nextOne_77 (by decide) ?_
    refine zw_aload_n hX dX18_nextOne_79 rfl ?_
    obtain ⟨b11, g, h⟩ := zb_some h
    refine zw_getr hX zl_X18_112 dX18_nextOne_80 g ?_
    refine zw_iload_n hX dX18_nextOne_83 rfl ?_
    obtain ⟨v12, g, h⟩ := zb_some h
    refine zw_xi hX dX18_nextOne_84 g ?_
    refine zw_imul hX dX18_nextOne_85 ?_
    refine zw_aload_n hX dX18_nextOne_86 rfl ?_
    obtain ⟨b13, g, h⟩ := zb_some h
    refine zw_getr hX zl_X18_109 dX18_nextOne_87 g ?_
    refine zw_iload_n hX dX18_nextOne_90 rfl ?_
    obtain ⟨v14, g, h⟩ := zb_some h
    refine zw_xi hX dX18_nextOne_91 g ?_
    refine zw_iadd hX dX18_nextOne_92 ?_
    obtain ⟨v15, g, h⟩ := zb_some h
    refine zw_xi hX dX18_nextOne_93 g ?_
    refine zw_goto (tgt := 98) hX dX18_nextOne_94 (by decide) ?_
    refine zw_sub (lv' := [(0, .ref a0), (1, .int i1), (2, .int i2)]) (List.forall_mem_cons.mpr ⟨rfl, (List.forall_mem_cons.mpr ⟨rfl, (List.forall_mem_cons.mpr ⟨rfl, zs_nil⟩)⟩)⟩) ?_
    exact zt_X18_nextOne_J98 hX hr hR hd hf hk hrec h
set_option maxHeartbeats 4000000 in
set_option maxRecDepth 100000 in
theorem zt_X18_nextOne_J67 {p : Program} {l : Launch} {e : Env} {R : Room} {s : State} {m : MethodId} {args : Array Value} {below : List Frame} {meth : Method} {c : Code} {V : zm_V} {mc ms d rc rs : Nat} (hX : zm_X p R s m args meth c RX18 "nextOne" cX18_nextOne 5 zk_E V mc ms) (hr : meth.sig.returnType = (some .int)) (hR : R.frames = d ∧ R.locals = 64 * d) (hd : 1 ≤ d) {N : Nat} {k : Nat → Int32 → Int32 → zm_S → Option ((Int32 × zm_S) ⊕ ((Int32) × zm_S))} {a0 : Nat} {i1 : Int32} {i2 : Int32} {res : (Int32 × zm_S) ⊕ ((Int32) × zm_S)} {out : (Int32 × zm_S)}   (hf : ∀ o, res = .inl o → o = out) (hk : ∀ (x1 : Int32) (S' : zm_S), res = .inr (x1, S') → zw p l e R s m args below meth c (vx_MQ below (zm_Qc zk_E V (zo_i out)) (zm_XC zk_E V zo_x) args s mc ms (fun q => V.2.2.2.1 ≤ q)) 5 zk_E V mc ms 143 [(1, .int x1)] [] S' rc rs) (hrec : ∀ (i1' : Int32) (i2' : Int32) (S : zm_S), k a0 i1' i2' S = some res → zw p l e R s m args below meth c (vx_MQ below (zm_Qc zk_E V (zo_i out)) (zm_XC zk_E V zo_x) args s mc ms (fun q => V.2.2.2.1 ≤ q)) 5 zk_E V mc ms 4 [(0, .ref a0), (1, .int i1'), (2, .int i2')] [] S rc rs) {S : zm_S} (h : zf_X18_nextOne_J67 N k a0 i1 i2 S = some res) : zw p l e R s m args below meth c (vx_MQ below (zm_Qc zk_E V (zo_i out)) (zm_XC zk_E V zo_x) args s mc ms (fun q => V.2.2.2.1 ≤ q)) 5 zk_E V mc ms 67 [(0, .ref a0), (1, .int i1), (2, .int i2)] [] S rc rs := by
  unfold zf_X18_nextOne_J67 at h
  refine zw_iconst (v := (0 : Int32)) hX dX18_nextOne_67 (by decide) ?_
  refine zw_sub (lv' := [(0, .ref a0), (1, .int i1), (2, .int i2)]) (List.forall_mem_cons.mpr ⟨rfl, (List.forall_mem_cons.mpr ⟨rfl, (List.forall_mem_cons.mpr ⟨rfl, zs_nil⟩)⟩)⟩) ?_
  exact zt_X18_nextOne_J68 hX hr hR hd hf hk hrec h
set_option maxHeartbeats 4000000 in
set_option maxRecDepth 100000 in
theorem zt_X18_nextOne_L4 {p : Program} {l : Launch} {e : Env} {R : Room} {s : State} {m : MethodId} {args : Array Value} {below : List Frame} {meth : Method} {c : Code} {V : zm_V} {mc ms d rc rs : Nat} (hX : zm_X p R s m args meth c RX18 "nextOne" cX18_nextOne 5 zk_E V mc ms) (hr : meth.sig.returnType = (some .int)) (hR : R.frames = d ∧ R.locals = 64 * d) (hd : 1 ≤ d) {N : Nat} {res : (Int32 × zm_S) ⊕ ((Int32) × zm_S)} {out : (Int32 × zm_S)} (a0 : Nat) (hf : ∀ o, res = .inl o → o = out) (hk : ∀ (x1 : Int32) (S' : zm_S), res = .inr (x1, S') → zw p l e R s m args below meth c (vx_MQ below (zm_Qc zk_E V (zo_i out)) (zm_XC zk_E V zo_x) args s mc ms (fun q => V.2.2.2.1 ≤ q)) 5 zk_E V mc ms 143 [(1, .int x1)] [] S' rc rs) : ∀ (n : Nat) (i1 : Int32) (i2 : Int32) (S : zm_S), zf_X18_nextOne_L4 N n a0 i1 i2 S = some res → zw p l e R s m args below meth c (vx_MQ below (zm_Qc zk_E V (zo_i out)) (zm_XC zk_E V zo_x) args s mc ms (fun q => V.2.2.2.1 ≤ q)) 5 zk_E V mc ms 4 [(0, .ref a0), (1, .int i1), (2, .int i2)] [] S rc rs := by
  intro n
  induction n with
  | zero => intro i1 i2 S h; cases h
  | succ n ih =>
    intro i1 i2 S h
    rw [zf_X18_nextOne_L4] at h
    refine zw_iload_n hX dX18_nextOne_4 rfl ?_
    refine zw_aload_n hX dX18_nextOne_5 rfl ?_
    obtain ⟨v1, g, h⟩ := zb_some h
    refine zw_geti hX zl_X18_369 dX18_nextOne_6 g ?_
    refine zw_icmp_ge (tgt := 143) hX dX18_nextOne_9 (by decide) (fun c9 => ?_) (fun c9 => ?_)
    · rw [if_pos c9] at h
      refine zw_sub (lv' := [(1, .int i1)]) (List.forall_mem_cons.mpr ⟨rfl, zs_nil⟩) ?_
      exact hk _ _ (Option.some.inj h).symm
    · rw [if_neg c9] at h
      refine zw_aload_n hX dX18_nextOne_12 rfl ?_
      obtain ⟨b2, g, h⟩ := zb_some h
      refine zw_getr hX zl_X18_181 dX18_nextOne_13 g ?_
      refine zw_iload_n hX dX18_nextOne_16 rfl ?_
      obtain ⟨v3, g, h⟩ := zb_some h
      refine zw_xz hX dX18_nextOne_17 g ?_
      refine zw_if_ne (tgt := 67) hX dX18_nextOne_18 (by decide) (fun c18 => ?_) (fun c18 => ?_)
      · rw [if_neg c18] at h
        refine zw_sub (lv' := [(0, .ref a0), (1, .int i1), (2, .int i2)]) (List.forall_mem_cons.mpr ⟨rfl, (List.forall_mem_cons.mpr ⟨rfl, (List.forall_mem_cons.mpr ⟨rfl, zs_nil⟩)⟩)⟩) ?_
        exact zt_X18_nextOne_J67 hX hr hR hd hf hk ih h
      · rw [if_pos c18] at h
        refine zw_aload_n hX dX18_nextOne_21 rfl ?_
        obtain ⟨b16, g, h⟩ := zb_some h
        refine zw_getr hX zl_X18_106 dX18_nextOne_22 g ?_
        refine zw_iload_n hX dX18_nextOne_25 rfl ?_
        obtain ⟨v17, g, h⟩ := zb_some h
        refine zw_xi hX dX18_nextOne_26 g ?_
        refine zw_aload_n hX dX18_nextOne_27 rfl ?_
        obtain ⟨v18, g, h⟩ := zb_some h
        refine zw_geti hX zl_X18_338 dX18_nextOne_28 g ?_
        refine zw_icmp_ge (tgt := 67) hX dX18_nextOne_31 (by decide) (fun c31 => ?_) (fun c31 => ?_)
        · rw [if_pos c31] at h
          refine zw_sub (lv' := [(0, .ref a0), (1, .int i1), (2, .int i2)]) (List.forall_mem_cons.mpr ⟨rfl, (List.forall_mem_cons.mpr ⟨rfl, (List.forall_mem_cons.mpr ⟨rfl, zs_nil⟩)⟩)⟩) ?_
          exact zt_X18_nextOne_J67 hX hr hR hd hf hk ih h
        · rw [if_neg c31] at h
          refine zw_aload_n hX dX18_nextOne_34 rfl ?_
          obtain ⟨b19, g, h⟩ := zb_some h
          refine zw_getr hX zl_X18_115 dX18_nextOne_35 g ?_
          refine zw_iload_n hX dX18_nextOne_38 rfl ?_
          obtain ⟨v20, g, h⟩ := zb_some h
          refine zw_xi hX dX18_nextOne_39 g ?_
          refine zw_if_ge (tgt := 67) hX dX18_nextOne_40 (by decide) (fun c40 => ?_) (fun c40 => ?_)
          · rw [if_pos c40] at h
            refine zw_sub (lv' := [(0, .ref a0), (1, .int i1), (2, .int i2)]) (List.forall_mem_cons.mpr ⟨rfl, (List.forall_mem_cons.mpr ⟨rfl, (List.forall_mem_cons.mpr ⟨rfl, zs_nil⟩)⟩)⟩) ?_
            exact zt_X18_nextOne_J67 hX hr hR hd hf hk ih h
          · rw [if_neg c40] at h
            refine zw_aload_n hX dX18_nextOne_43 rfl ?_
            obtain ⟨v21, g, h⟩ := zb_some h
            refine zw_geti hX zl_X18_401 dX18_nextOne_44 g ?_
            refine zw_aload_n hX dX18_nextOne_47 rfl ?_
            obtain ⟨b22, g, h⟩ := zb_some h
            refine zw_getr hX zl_X18_121 dX18_nextOne_48 g ?_
            refine zw_iload_n hX dX18_nextOne_51 rfl ?_
            obtain ⟨v23, g, h⟩ := zb_some h
            refine zw_xi hX dX18_nextOne_52 g ?_
            refine zw_isub hX dX18_nextOne_53 ?_
            refine zw_aload_n hX dX18_nextOne_54 rfl ?_
            obtain ⟨b24, g, h⟩ := zb_some h
            refine zw_getr hX zl_X18_103 dX18_nextOne_55 g ?_
            refine zw_iload_n hX dX18_nextOne_58 rfl ?_
            obtain ⟨v25, g, h⟩ := zb_some h
            refine zw_xi hX dX18_nextOne_59 g ?_
            refine zw_icmp_lt (tgt := 67) hX dX18_nextOne_60 (by decide) (fun c60 => ?_) (fun c60 => ?_)
            · rw [if_pos c60] at h
              refine zw_sub (lv' := [(0, .ref a0), (1, .int i1), (2, .int i2)]) (List.forall_mem_cons.mpr ⟨rfl, (List.forall_mem_cons.mpr ⟨rfl, (List.forall_mem_cons.mpr ⟨rfl, zs_nil⟩)⟩)⟩) ?_
              exact zt_X18_nextOne_J67 hX hr hR hd hf hk ih h
            · rw [if_neg c60] at h
              refine zw_iconst (v := (1 : Int32)) hX dX18_nextOne_63 (by decide) ?_
              refine zw_goto (tgt := 68) hX dX18_nextOne_64 (by decide) ?_
              refine zw_sub (lv' := [(0, .ref a0), (1, .int i1), (2, .int i2)]) (List.forall_mem_cons.mpr ⟨rfl, (List.forall_mem_cons.mpr ⟨rfl, (List.forall_mem_cons.mpr ⟨rfl, zs_nil⟩)⟩)⟩) ?_
              exact zt_X18_nextOne_J68 hX hr hR hd hf hk ih h
set_option maxHeartbeats 4000000 in
set_option maxRecDepth 100000 in
theorem zt_X18_nextOne {l : Launch} {V : zm_V} {N : Nat} {S : zm_S} {out : (Int32 × zm_S)} {d : Nat} {a0 : Nat} (hd : 1 ≤ d) (h : zf_X18_nextOne N a0 S = some out) : zm_Met l zk_E V yX18_nextOne (.code yX18_nextOne cX18_nextOne 5 (some .int)) d [.ref a0] S 0 0 (zo_i out) zo_x := by
  refine zm_of (by decide +kernel) (Nat.le_of_ble_eq_true rfl) ?_
  intro p e R s m args below meth c hRR hX hr hxt
  have hR : R.frames = d ∧ R.locals = 64 * d := by rw [hRR]; exact ⟨rfl, rfl⟩
  have hX : zm_X p R s m args meth c RX18 "nextOne" cX18_nextOne 5 zk_E V 0 0 := hX
  unfold zf_X18_nextOne at h
  refine zw_sub (lv' := [(0, .ref a0)]) (List.forall_mem_cons.mpr ⟨rfl, zs_nil⟩) ?_
  refine zw_iconst (v := (-1 : Int32)) hX dX18_nextOne_0 (by decide) ?_
  refine zw_istore_n hX dX18_nextOne_1 (by decide) ?_
  refine zw_iconst (v := (0 : Int32)) hX dX18_nextOne_2 (by decide) ?_
  refine zw_istore_n hX dX18_nextOne_3 (by decide) ?_
  obtain ⟨r, g, h⟩ := zb_some h
  refine zw_sub (lv' := [(0, .ref a0), (1, .int (-1 : Int32)), (2, .int (0 : Int32))]) (List.forall_mem_cons.mpr ⟨rfl, (List.forall_mem_cons.mpr ⟨rfl, (List.forall_mem_cons.mpr ⟨rfl, zs_nil⟩)⟩)⟩) ?_
  refine zt_X18_nextOne_L4 hX hr hR hd (res := r) (out := out) a0 ?_ ?_ N _ _ _ g
  · intro o ho
    subst ho
    exact Option.some.inj h
  · intro v27 S26 hx
    subst hx
    try dsimp only at h
    refine zw_iload_n hX dX18_nextOne_143 rfl ?_
    obtain rfl := Option.some.inj h
    exact zw_iret hX hr dX18_nextOne_144 rfl ⟨rfl, rfl⟩
set_option maxHeartbeats 4000000 in
set_option maxRecDepth 100000 in
theorem zt_X18_leave_L2 {p : Program} {l : Launch} {e : Env} {R : Room} {s : State} {m : MethodId} {args : Array Value} {below : List Frame} {meth : Method} {c : Code} {V : zm_V} {mc ms d rc rs : Nat} (hX : zm_X p R s m args meth c RX18 "leave" cX18_leave 2 zk_E V mc ms) (hr : meth.sig.returnType = none) (hR : R.frames = d ∧ R.locals = 64 * d) (hd : 5 ≤ d) {N : Nat} {res : (Unit × zm_S) ⊕ ((Unit) × zm_S)} {out : (Unit × zm_S)} (a0 : Nat) (hf : ∀ o, res = .inl o → o = out) (hk : ∀ (S' : zm_S), res = .inr ((), S') → zw p l e R s m args below meth c (vx_MQ below (zm_Qc zk_E V (zo_v out)) (zm_XC zk_E V zo_x) args s mc ms (fun q => V.2.2.2.1 ≤ q)) 2 zk_E V mc ms 21 [(0, .ref a0)] [] S' rc rs) : ∀ (n : Nat) (i1 : Int32) (S : zm_S), zf_X18_leave_L2 N n a0 i1 S = some res → zw p l e R s m args below meth c (vx_MQ below (zm_Qc zk_E V (zo_v out)) (zm_XC zk_E V zo_x) args s mc ms (fun q => V.2.2.2.1 ≤ q)) 2 zk_E V mc ms 2 [(0, .ref a0), (1, .int i1)] [] S rc rs := by
  intro n
  induction n with
  | zero => intro i1 S h; cases h
  | succ n ih =>
    intro i1 S h
    rw [zf_X18_leave_L2] at h
    refine zw_iload_n hX dX18_leave_2 rfl ?_
    refine zw_bipush (v := (120 : Int32)) hX dX18_leave_3 (by decide) ?_
    refine zw_icmp_ge (tgt := 21) hX dX18_leave_5 (by decide) (fun c5 => ?_) (fun c5 => ?_)
    · rw [if_pos c5] at h
      refine zw_sub (lv' := [(0, .ref a0)]) (List.forall_mem_cons.mpr ⟨rfl, zs_nil⟩) ?_
      exact hk  _ (Option.some.inj h).symm
    · rw [if_neg c5] at h
      refine zw_aload_n hX dX18_leave_8 rfl ?_
      obtain ⟨b1, g, h⟩ := zb_some h
      refine zw_getr hX zl_X18_178 dX18_leave_9 g ?_
      refine zw_iload_n hX dX18_leave_12 rfl ?_
      refine zw_iconst (v := (0 : Int32)) hX dX18_leave_13 (by decide) ?_
      obtain ⟨S2, g, h⟩ := zb_some h
      refine zw_si hX dX18_leave_14 g ?_
      refine zw_iinc (v := (i1 + (1 : Int32))) hX dX18_leave_15 rfl rfl (by decide) ?_
      refine zw_goto (tgt := 2) hX dX18_leave_18 (by decide) ?_
      refine zw_sub (lv' := [(0, .ref a0), (1, .int (i1 + (1 : Int32)))]) (List.forall_mem_cons.mpr ⟨rfl, (List.forall_mem_cons.mpr ⟨rfl, zs_nil⟩)⟩) ?_
      exact ih _ _ h
set_option maxHeartbeats 4000000 in
set_option maxRecDepth 100000 in
theorem zt_X18_leave_L23 {p : Program} {l : Launch} {e : Env} {R : Room} {s : State} {m : MethodId} {args : Array Value} {below : List Frame} {meth : Method} {c : Code} {V : zm_V} {mc ms d rc rs : Nat} (hX : zm_X p R s m args meth c RX18 "leave" cX18_leave 2 zk_E V mc ms) (hr : meth.sig.returnType = none) (hR : R.frames = d ∧ R.locals = 64 * d) (hd : 5 ≤ d) {N : Nat} {res : (Unit × zm_S) ⊕ ((Unit) × zm_S)} {out : (Unit × zm_S)} (a0 : Nat) (hf : ∀ o, res = .inl o → o = out) (hk : ∀ (S' : zm_S), res = .inr ((), S') → zw p l e R s m args below meth c (vx_MQ below (zm_Qc zk_E V (zo_v out)) (zm_XC zk_E V zo_x) args s mc ms (fun q => V.2.2.2.1 ≤ q)) 2 zk_E V mc ms 44 [(0, .ref a0)] [] S' rc rs) : ∀ (n : Nat) (i1 : Int32) (S : zm_S), zf_X18_leave_L23 N n a0 i1 S = some res → zw p l e R s m args below meth c (vx_MQ below (zm_Qc zk_E V (zo_v out)) (zm_XC zk_E V zo_x) args s mc ms (fun q => V.2.2.2.1 ≤ q)) 2 zk_E V mc ms 23 [(0, .ref a0), (1, .int i1)] [] S rc rs := by
  intro n
  induction n with
  | zero => intro i1 S h; cases h
  | succ n ih =>
    intro i1 S h
    rw [zf_X18_leave_L23] at h
    refine zw_iload_n hX dX18_leave_23 rfl ?_
    refine zw_aload_n hX dX18_leave_24 rfl ?_
    obtain ⟨v4, g, h⟩ := zb_some h
    refine zw_geti hX zl_X18_369 dX18_leave_25 g ?_
    refine zw_icmp_ge (tgt := 44) hX dX18_leave_28 (by decide) (fun c28 => ?_) (fun c28 => ?_)
    · rw [if_pos c28] at h
      refine zw_sub (lv' := [(0, .ref a0)]) (List.forall_mem_cons.mpr ⟨rfl, zs_nil⟩) ?_
      exact hk  _ (Option.some.inj h).symm
    · rw [if_neg c28] at h
      refine zw_aload_n hX dX18_leave_31 rfl ?_
      obtain ⟨b5, g, h⟩ := zb_some h
      refine zw_getr hX zl_X18_181 dX18_leave_32 g ?_
      refine zw_iload_n hX dX18_leave_35 rfl ?_
      refine zw_iconst (v := (0 : Int32)) hX dX18_leave_36 (by decide) ?_
      obtain ⟨S6, g, h⟩ := zb_some h
      refine zw_sz hX dX18_leave_37 g ?_
      refine zw_iinc (v := (i1 + (1 : Int32))) hX dX18_leave_38 rfl rfl (by decide) ?_
      refine zw_goto (tgt := 23) hX dX18_leave_41 (by decide) ?_
      refine zw_sub (lv' := [(0, .ref a0), (1, .int (i1 + (1 : Int32)))]) (List.forall_mem_cons.mpr ⟨rfl, (List.forall_mem_cons.mpr ⟨rfl, zs_nil⟩)⟩) ?_
      exact ih _ _ h
set_option maxHeartbeats 4000000 in
set_option maxRecDepth 100000 in
theorem zt_X18_leave_L49 {p : Program} {l : Launch} {e : Env} {R : Room} {s : State} {m : MethodId} {args : Array Value} {below : List Frame} {meth : Method} {c : Code} {V : zm_V} {mc ms d rc rs : Nat} (hX : zm_X p R s m args meth c RX18 "leave" cX18_leave 2 zk_E V mc ms) (hr : meth.sig.returnType = none) (hR : R.frames = d ∧ R.locals = 64 * d) (hd : 5 ≤ d) {N : Nat} {res : (Unit × zm_S) ⊕ ((Unit) × zm_S)} {out : (Unit × zm_S)} (a0 : Nat) (hf : ∀ o, res = .inl o → o = out) (hk : ∀ (S' : zm_S), res = .inr ((), S') → zw p l e R s m args below meth c (vx_MQ below (zm_Qc zk_E V (zo_v out)) (zm_XC zk_E V zo_x) args s mc ms (fun q => V.2.2.2.1 ≤ q)) 2 zk_E V mc ms 73 [] [] S' rc rs) : ∀ (n : Nat) (i1 : Int32) (S : zm_S), zf_X18_leave_L49 N n a0 i1 S = some res → zw p l e R s m args below meth c (vx_MQ below (zm_Qc zk_E V (zo_v out)) (zm_XC zk_E V zo_x) args s mc ms (fun q => V.2.2.2.1 ≤ q)) 2 zk_E V mc ms 49 [(0, .ref a0), (1, .int i1)] [] S rc rs := by
  intro n
  induction n with
  | zero => intro i1 S h; cases h
  | succ n ih =>
    intro i1 S h
    rw [zf_X18_leave_L49] at h
    refine zw_iload_n hX dX18_leave_49 rfl ?_
    refine zw_if_lt (tgt := 73) hX dX18_leave_50 (by decide) (fun c50 => ?_) (fun c50 => ?_)
    · rw [if_pos c50] at h
      refine zw_sub (lv' := []) zs_nil ?_
      exact hk  _ (Option.some.inj h).symm
    · rw [if_neg c50] at h
      refine zw_aload_n hX dX18_leave_53 rfl ?_
      obtain ⟨b10, g, h⟩ := zb_some h
      refine zw_getr hX zl_X18_181 dX18_leave_54 g ?_
      refine zw_iload_n hX dX18_leave_57 rfl ?_
      refine zw_iconst (v := (1 : Int32)) hX dX18_leave_58 (by decide) ?_
      obtain ⟨S11, g, h⟩ := zb_some h
      refine zw_sz hX dX18_leave_59 g ?_
      refine zw_aload_n hX dX18_leave_60 rfl ?_
      refine zw_iload_n hX dX18_leave_61 rfl ?_
      obtain ⟨_, gi, h⟩ := zb_some h
      obtain ⟨r13, g, h⟩ := zb_some h
      refine zc_Vv (as := [.int i1]) hX gi (zt_X18_step (d := d - 1) (by omega) g) zl_X18_669 rfl dX18_leave_62 ⟨rfl, rfl, Nat.le_of_ble_eq_true rfl⟩ ⟨by omega, by omega⟩ ?_
      refine zw_aload_n hX dX18_leave_65 rfl ?_
      obtain ⟨_, gi, h⟩ := zb_some h
      obtain ⟨r15, g, h⟩ := zb_some h
      refine zc_Vi (as := []) hX gi (zt_X18_nextOne (d := d - 1) (by omega) g) zl_X18_666 rfl dX18_leave_66 ⟨rfl, rfl, Nat.le_of_ble_eq_true rfl⟩ ⟨by omega, by omega⟩ ?_
      refine zw_istore_n hX dX18_leave_69 (by decide) ?_
      refine zw_goto (tgt := 49) hX dX18_leave_70 (by decide) ?_
      refine zw_sub (lv' := [(0, .ref a0), (1, .int r15.1)]) (List.forall_mem_cons.mpr ⟨rfl, (List.forall_mem_cons.mpr ⟨rfl, zs_nil⟩)⟩) ?_
      exact ih _ _ h
set_option maxHeartbeats 4000000 in
set_option maxRecDepth 100000 in
theorem zt_X18_leave {l : Launch} {V : zm_V} {N : Nat} {S : zm_S} {out : (Unit × zm_S)} {d : Nat} {a0 : Nat} (hd : 5 ≤ d) (h : zf_X18_leave N a0 S = some out) : zm_Met l zk_E V yX18_leave (.code yX18_leave cX18_leave 2 none) d [.ref a0] S 0 0 (zo_v out) zo_x := by
  refine zm_of (by decide +kernel) (Nat.le_of_ble_eq_true rfl) ?_
  intro p e R s m args below meth c hRR hX hr hxt
  have hR : R.frames = d ∧ R.locals = 64 * d := by rw [hRR]; exact ⟨rfl, rfl⟩
  have hX : zm_X p R s m args meth c RX18 "leave" cX18_leave 2 zk_E V 0 0 := hX
  unfold zf_X18_leave at h
  refine zw_sub (lv' := [(0, .ref a0)]) (List.forall_mem_cons.mpr ⟨rfl, zs_nil⟩) ?_
  refine zw_iconst (v := (0 : Int32)) hX dX18_leave_0 (by decide) ?_
  refine zw_istore_n hX dX18_leave_1 (by decide) ?_
  obtain ⟨r, g, h⟩ := zb_some h
  refine zw_sub (lv' := [(0, .ref a0), (1, .int (0 : Int32))]) (List.forall_mem_cons.mpr ⟨rfl, (List.forall_mem_cons.mpr ⟨rfl, zs_nil⟩)⟩) ?_
  refine zt_X18_leave_L2 hX hr hR hd (res := r) (out := out) a0 ?_ ?_ N _ _ g
  · intro o ho
    subst ho
    exact Option.some.inj h
  · intro  S3 hx
    subst hx
    try dsimp only at h
    refine zw_iconst (v := (0 : Int32)) hX dX18_leave_21 (by decide) ?_
    refine zw_istore_n hX dX18_leave_22 (by decide) ?_
    obtain ⟨r, g, h⟩ := zb_some h
    refine zw_sub (lv' := [(0, .ref a0), (1, .int (0 : Int32))]) (List.forall_mem_cons.mpr ⟨rfl, (List.forall_mem_cons.mpr ⟨rfl, zs_nil⟩)⟩) ?_
    refine zt_X18_leave_L23 hX hr hR hd (res := r) (out := out) a0 ?_ ?_ N _ _ g
    · intro o ho
      subst ho
      exact Option.some.inj h
    · intro  S7 hx
      subst hx
      try dsimp only at h
      refine zw_aload_n hX dX18_leave_44 rfl ?_
      obtain ⟨_, gi, h⟩ := zb_some h
      obtain ⟨r9, g, h⟩ := zb_some h
      refine zc_Vi (as := []) hX gi (zt_X18_nextOne (d := d - 1) (by omega) g) zl_X18_666 rfl dX18_leave_45 ⟨rfl, rfl, Nat.le_of_ble_eq_true rfl⟩ ⟨by omega, by omega⟩ ?_
      refine zw_istore_n hX dX18_leave_48 (by decide) ?_
      obtain ⟨r, g, h⟩ := zb_some h
      refine zw_sub (lv' := [(0, .ref a0), (1, .int r9.1)]) (List.forall_mem_cons.mpr ⟨rfl, (List.forall_mem_cons.mpr ⟨rfl, zs_nil⟩)⟩) ?_
      refine zt_X18_leave_L49 hX hr hR hd (res := r) (out := out) a0 ?_ ?_ N _ _ g
      · intro o ho
        subst ho
        exact Option.some.inj h
      · intro  S16 hx
        subst hx
        try dsimp only at h
        obtain rfl := Option.some.inj h
        exact zw_vret hX hr dX18_leave_73 ⟨rfl, rfl⟩
set_option maxHeartbeats 4000000 in
set_option maxRecDepth 100000 in
theorem zt_X18_line__L2 {p : Program} {l : Launch} {e : Env} {R : Room} {s : State} {m : MethodId} {args : Array Value} {below : List Frame} {meth : Method} {c : Code} {V : zm_V} {mc ms d rc rs : Nat} (hX : zm_X p R s m args meth c RX18 "line" cX18_line_ 4 zk_E V mc ms) (hr : meth.sig.returnType = none) (hR : R.frames = d ∧ R.locals = 64 * d) (hd : 6 ≤ d) {N : Nat} {res : (Unit × zm_S) ⊕ ((Unit) × zm_S)} {out : (Unit × zm_S)} (a0 : Nat) (hf : ∀ o, res = .inl o → o = out) (hk : ∀ (S' : zm_S), res = .inr ((), S') → zw p l e R s m args below meth c (vx_MQ below (zm_Qc zk_E V (zo_v out)) (zm_XC zk_E V zo_x) args s mc ms (fun q => V.2.2.2.1 ≤ q)) 4 zk_E V mc ms 112 [] [] S' rc rs) : ∀ (n : Nat) (i1 : Int32) (S : zm_S), zf_X18_line__L2 N n a0 i1 S = some res → zw p l e R s m args below meth c (vx_MQ below (zm_Qc zk_E V (zo_v out)) (zm_XC zk_E V zo_x) args s mc ms (fun q => V.2.2.2.1 ≤ q)) 4 zk_E V mc ms 2 [(0, .ref a0), (1, .int i1)] [] S rc rs := by
  intro n
  induction n with
  | zero => intro i1 S h; cases h
  | succ n ih =>
    intro i1 S h
    rw [zf_X18_line__L2] at h
    refine zw_iload_n hX dX18_line__2 rfl ?_
    refine zw_bipush (v := (30 : Int32)) hX dX18_line__3 (by decide) ?_
    refine zw_icmp_ge (tgt := 112) hX dX18_line__5 (by decide) (fun c5 => ?_) (fun c5 => ?_)
    · rw [if_pos c5] at h
      refine zw_sub (lv' := []) zs_nil ?_
      exact hk  _ (Option.some.inj h).symm
    · rw [if_neg c5] at h
      refine zw_aload_n hX dX18_line__8 rfl ?_
      obtain ⟨b1, g, h⟩ := zb_some h
      refine zw_getr hX zl_X18_42 dX18_line__9 g ?_
      obtain ⟨b2, g, h⟩ := zb_some h
      refine zw_getr hX zl_X18_581 dX18_line__12 g ?_
      refine zw_iconst (v := (1 : Int32)) hX dX18_line__15 (by decide) ?_
      obtain ⟨v3, g, h⟩ := zb_some h
      refine zw_xi hX dX18_line__16 g ?_
      refine zw_istore_n hX dX18_line__17 (by decide) ?_
      refine zw_aload_n hX dX18_line__18 rfl ?_
      obtain ⟨b4, g, h⟩ := zb_some h
      refine zw_getr hX zl_X18_42 dX18_line__19 g ?_
      obtain ⟨_, gi, h⟩ := zb_some h
      obtain ⟨r6, g, h⟩ := zb_some h
      refine zc_Vv (as := []) hX gi (zt_X12_bitTime (d := d - 1) (by omega) g) zl_X18_673 rfl dX18_line__22 ⟨rfl, rfl, Nat.le_of_ble_eq_true rfl⟩ ⟨by omega, by omega⟩ ?_
      refine zw_sipush (v := (256 : Int32)) hX dX18_line__25 (by decide) ?_
      refine zw_aload_n hX dX18_line__28 rfl ?_
      obtain ⟨b7, g, h⟩ := zb_some h
      refine zw_getr hX zl_X18_42 dX18_line__29 g ?_
      obtain ⟨b8, g, h⟩ := zb_some h
      refine zw_getr hX zl_X18_588 dX18_line__32 g ?_
      refine zw_iconst (v := (3 : Int32)) hX dX18_line__35 (by decide) ?_
      obtain ⟨v9, g, h⟩ := zb_some h
      refine zw_xi hX dX18_line__36 g ?_
      refine zw_imul hX dX18_line__37 ?_
      refine zw_aload_n hX dX18_line__38 rfl ?_
      obtain ⟨b10, g, h⟩ := zb_some h
      refine zw_getr hX zl_X18_42 dX18_line__39 g ?_
      obtain ⟨b11, g, h⟩ := zb_some h
      refine zw_getr hX zl_X18_588 dX18_line__42 g ?_
      refine zw_iconst (v := (4 : Int32)) hX dX18_line__45 (by decide) ?_
      obtain ⟨v12, g, h⟩ := zb_some h
      refine zw_xi hX dX18_line__46 g ?_
      refine zw_iadd hX dX18_line__47 ?_
      refine zw_istore_n hX dX18_line__48 (by decide) ?_
      refine zw_aload_n hX dX18_line__49 rfl ?_
      obtain ⟨b13, g, h⟩ := zb_some h
      refine zw_getr hX zl_X18_42 dX18_line__50 g ?_
      obtain ⟨b14, g, h⟩ := zb_some h
      refine zw_getr hX zl_X18_581 dX18_line__53 g ?_
      refine zw_iconst (v := (1 : Int32)) hX dX18_line__56 (by decide) ?_
      obtain ⟨v15, g, h⟩ := zb_some h
      refine zw_xi hX dX18_line__57 g ?_
      refine zw_iload_n hX dX18_line__58 rfl ?_
      refine zw_icmp_le (tgt := 106) hX dX18_line__59 (by decide) (fun c59 => ?_) (fun c59 => ?_)
      · rw [if_pos c59] at h
        refine zw_iinc (v := (i1 + (1 : Int32))) hX dX18_line__106 rfl rfl (by decide) ?_
        refine zw_goto (tgt := 2) hX dX18_line__109 (by decide) ?_
        refine zw_sub (lv' := [(0, .ref a0), (1, .int (i1 + (1 : Int32)))]) (List.forall_mem_cons.mpr ⟨rfl, (List.forall_mem_cons.mpr ⟨rfl, zs_nil⟩)⟩) ?_
        exact ih _ _ h
      · rw [if_neg c59] at h
        refine zw_aload_n hX dX18_line__62 rfl ?_
        obtain ⟨b16, g, h⟩ := zb_some h
        refine zw_getr hX zl_X18_42 dX18_line__63 g ?_
        obtain ⟨b17, g, h⟩ := zb_some h
        refine zw_getr hX zl_X18_588 dX18_line__66 g ?_
        refine zw_iconst (v := (5 : Int32)) hX dX18_line__69 (by decide) ?_
        obtain ⟨v18, g, h⟩ := zb_some h
        refine zw_xi hX dX18_line__70 g ?_
        refine zw_bipush (v := (127 : Int32)) hX dX18_line__71 (by decide) ?_
        refine zw_icmp_le (tgt := 106) hX dX18_line__73 (by decide) (fun c73 => ?_) (fun c73 => ?_)
        · rw [if_pos c73] at h
          refine zw_iinc (v := (i1 + (1 : Int32))) hX dX18_line__106 rfl rfl (by decide) ?_
          refine zw_goto (tgt := 2) hX dX18_line__109 (by decide) ?_
          refine zw_sub (lv' := [(0, .ref a0), (1, .int (i1 + (1 : Int32)))]) (List.forall_mem_cons.mpr ⟨rfl, (List.forall_mem_cons.mpr ⟨rfl, zs_nil⟩)⟩) ?_
          exact ih _ _ h
        · rw [if_neg c73] at h
          refine zw_iload_n hX dX18_line__76 rfl ?_
          refine zw_iconst (v := (3 : Int32)) hX dX18_line__77 (by decide) ?_
          refine zw_icmp_le (tgt := 106) hX dX18_line__78 (by decide) (fun c78 => ?_) (fun c78 => ?_)
          · rw [if_pos c78] at h
            refine zw_iinc (v := (i1 + (1 : Int32))) hX dX18_line__106 rfl rfl (by decide) ?_
            refine zw_goto (tgt := 2) hX dX18_line__109 (by decide) ?_
            refine zw_sub (lv' := [(0, .ref a0), (1, .int (i1 + (1 : Int32)))]) (List.forall_mem_cons.mpr ⟨rfl, (List.forall_mem_cons.mpr ⟨rfl, zs_nil⟩)⟩) ?_
            exact ih _ _ h
          · rw [if_neg c78] at h
            refine zw_iload_n hX dX18_line__81 rfl ?_
            refine zw_bipush (v := (10 : Int32)) hX dX18_line__82 (by decide) ?_
            refine zw_icmp_ge (tgt := 106) hX dX18_line__84 (by decide) (fun c84 => ?_) (fun c84 => ?_)
            · rw [if_pos c84] at h
              refine zw_iinc (v := (i1 + (1 : Int32))) hX dX18_line__106 rfl rfl (by decide) ?_
              refine zw_goto (tgt := 2) hX dX18_line__109 (by decide) ?_
              refine zw_sub (lv' := [(0, .ref a0), (1, .int (i1 + (1 : Int32)))]) (List.forall_mem_cons.mpr ⟨rfl, (List.forall_mem_cons.mpr ⟨rfl, zs_nil⟩)⟩) ?_
              exact ih _ _ h
            · rw [if_neg c84] at h
              refine zw_aload_n hX dX18_line__87 rfl ?_
              obtain ⟨b19, g, h⟩ := zb_some h
              refine zw_getr hX zl_X18_35 dX18_line__88 g ?_
              obtain ⟨b20, g, h⟩ := zb_some h
              refine zw_getr hX zl_X18_474 dX18_line__91 g ?_
              refine zw_iload_n hX dX18_line__94 rfl ?_
              refine zw_aload_n hX dX18_line__95 rfl ?_
              obtain ⟨b21, g, h⟩ := zb_some h
              refine zw_getr hX zl_X18_42 dX18_line__96 g ?_
              obtain ⟨b22, g, h⟩ := zb_some h
              refine zw_getr hX zl_X18_588 dX18_line__99 g ?_
              refine zw_bipush (v := (6 : Int32)) hX dX18_line__102 (by decide) ?_
              obtain ⟨v23, g, h⟩ := zb_some h
              refine zw_xi hX dX18_line__104 g ?_
              obtain ⟨S24, g, h⟩ := zb_some h
              refine zw_si hX dX18_line__105 g ?_
              refine zw_iinc (v := (i1 + (1 : Int32))) hX dX18_line__106 rfl rfl (by decide) ?_
              refine zw_goto (tgt := 2) hX dX18_line__109 (by decide) ?_
              refine zw_sub (lv' := [(0, .ref a0), (1, .int (i1 + (1 : Int32)))]) (List.forall_mem_cons.mpr ⟨rfl, (List.forall_mem_cons.mpr ⟨rfl, zs_nil⟩)⟩) ?_
              exact ih _ _ h
set_option maxHeartbeats 4000000 in
set_option maxRecDepth 100000 in
theorem zt_X18_line_ {l : Launch} {V : zm_V} {N : Nat} {S : zm_S} {out : (Unit × zm_S)} {d : Nat} {a0 : Nat} (hd : 6 ≤ d) (h : zf_X18_line_ N a0 S = some out) : zm_Met l zk_E V yX18_line_ (.code yX18_line_ cX18_line_ 4 none) d [.ref a0] S 0 0 (zo_v out) zo_x := by
  refine zm_of (by decide +kernel) (Nat.le_of_ble_eq_true rfl) ?_
  intro p e R s m args below meth c hRR hX hr hxt
  have hR : R.frames = d ∧ R.locals = 64 * d := by rw [hRR]; exact ⟨rfl, rfl⟩
  have hX : zm_X p R s m args meth c RX18 "line" cX18_line_ 4 zk_E V 0 0 := hX
  unfold zf_X18_line_ at h
  refine zw_sub (lv' := [(0, .ref a0)]) (List.forall_mem_cons.mpr ⟨rfl, zs_nil⟩) ?_
  refine zw_iconst (v := (0 : Int32)) hX dX18_line__0 (by decide) ?_
  refine zw_istore_n hX dX18_line__1 (by decide) ?_
  obtain ⟨r, g, h⟩ := zb_some h
  refine zw_sub (lv' := [(0, .ref a0), (1, .int (0 : Int32))]) (List.forall_mem_cons.mpr ⟨rfl, (List.forall_mem_cons.mpr ⟨rfl, zs_nil⟩)⟩) ?_
  refine zt_X18_line__L2 hX hr hR hd (res := r) (out := out) a0 ?_ ?_ N _ _ g
  · intro o ho
    subst ho
    exact Option.some.inj h
  · intro  S25 hx
    subst hx
    try dsimp only at h
    obtain rfl := Option.some.inj h
    exact zw_vret hX hr dX18_line__112 ⟨rfl, rfl⟩
set_option maxHeartbeats 4000000 in
set_option maxRecDepth 100000 in
theorem zt_X18_second_J84 {p : Program} {l : Launch} {e : Env} {R : Room} {s : State} {m : MethodId} {args : Array Value} {below : List Frame} {meth : Method} {c : Code} {V : zm_V} {mc ms d rc rs : Nat} (hX : zm_X p R s m args meth c RX18 "second" cX18_second 4 zk_E V mc ms) (hr : meth.sig.returnType = none) (hR : R.frames = d ∧ R.locals = 64 * d) (hd : 7 ≤ d) {N : Nat} {k : Nat → Int32 → Int32 → zm_S → Option ((Unit × zm_S) ⊕ ((Unit) × zm_S))} {a0 : Nat} {i2 : Int32} {res : (Unit × zm_S) ⊕ ((Unit) × zm_S)} {out : (Unit × zm_S)}   (hf : ∀ o, res = .inl o → o = out) (hk : ∀ (S' : zm_S), res = .inr ((), S') → zw p l e R s m args below meth c (vx_MQ below (zm_Qc zk_E V (zo_v out)) (zm_XC zk_E V zo_x) args s mc ms (fun q => V.2.2.2.1 ≤ q)) 4 zk_E V mc ms 99 [(0, .ref a0)] [] S' rc rs) (hrec : ∀ (i1' : Int32) (i2' : Int32) (S : zm_S), k a0 i1' i2' S = some res → zw p l e R s m args below meth c (vx_MQ below (zm_Qc zk_E V (zo_v out)) (zm_XC zk_E V zo_x) args s mc ms (fun q => V.2.2.2.1 ≤ q)) 4 zk_E V mc ms 61 [(0, .ref a0), (1, .int i1'), (2, .int i2')] [] S rc rs) {S : zm_S} (h : zf_X18_second_J84 N k a0 i2 S = some res) : zw p l e R s m args below meth c (vx_MQ below (zm_Qc zk_E V (zo_v out)) (zm_XC zk_E V zo_x) args s mc ms (fun q => V.2.2.2.1 ≤ q)) 4 zk_E V mc ms 84 [(0, .ref a0), (2, .int i2)] [] S rc rs := by
  unfold zf_X18_second_J84 at h
  refine zw_aload_n hX dX18_second_84 rfl ?_
  obtain ⟨b18, g, h⟩ := zb_some h
  refine zw_getr hX zl_X18_28 dX18_second_85 g ?_
  refine zw_iload_n hX dX18_second_88 rfl ?_
  obtain ⟨_, gi, h⟩ := zb_some h
  obtain ⟨r20, g, h⟩ := zb_some h
  refine zc_Vi (as := [.int i2]) hX gi (zt_X14_rankedOne (d := d - 1) (by omega) g) zl_X18_476 rfl dX18_second_89 ⟨rfl, rfl, Nat.le_of_ble_eq_true rfl⟩ ⟨by omega, by omega⟩ ?_
  refine zw_istore_n hX dX18_second_92 (by decide) ?_
  refine zw_iinc (v := (i2 + (1 : Int32))) hX dX18_second_93 rfl rfl (by decide) ?_
  refine zw_goto (tgt := 61) hX dX18_second_96 (by decide) ?_
  refine zw_sub (lv' := [(0, .ref a0), (1, .int r20.1), (2, .int (i2 + (1 : Int32)))]) (List.forall_mem_cons.mpr ⟨rfl, (List.forall_mem_cons.mpr ⟨rfl, (List.forall_mem_cons.mpr ⟨rfl, zs_nil⟩)⟩)⟩) ?_
  exact hrec _ _ _ h
set_option maxHeartbeats 4000000 in
set_option maxRecDepth 100000 in
theorem zt_X18_second_L61 {p : Program} {l : Launch} {e : Env} {R : Room} {s : State} {m : MethodId} {args : Array Value} {below : List Frame} {meth : Method} {c : Code} {V : zm_V} {mc ms d rc rs : Nat} (hX : zm_X p R s m args meth c RX18 "second" cX18_second 4 zk_E V mc ms) (hr : meth.sig.returnType = none) (hR : R.frames = d ∧ R.locals = 64 * d) (hd : 7 ≤ d) {N : Nat} {res : (Unit × zm_S) ⊕ ((Unit) × zm_S)} {out : (Unit × zm_S)} (a0 : Nat) (hf : ∀ o, res = .inl o → o = out) (hk : ∀ (S' : zm_S), res = .inr ((), S') → zw p l e R s m args below meth c (vx_MQ below (zm_Qc zk_E V (zo_v out)) (zm_XC zk_E V zo_x) args s mc ms (fun q => V.2.2.2.1 ≤ q)) 4 zk_E V mc ms 99 [(0, .ref a0)] [] S' rc rs) : ∀ (n : Nat) (i1 : Int32) (i2 : Int32) (S : zm_S), zf_X18_second_L61 N n a0 i1 i2 S = some res → zw p l e R s m args below meth c (vx_MQ below (zm_Qc zk_E V (zo_v out)) (zm_XC zk_E V zo_x) args s mc ms (fun q => V.2.2.2.1 ≤ q)) 4 zk_E V mc ms 61 [(0, .ref a0), (1, .int i1), (2, .int i2)] [] S rc rs := by
  intro n
  induction n with
  | zero => intro i1 i2 S h; cases h
  | succ n ih =>
    intro i1 i2 S h
    rw [zf_X18_second_L61] at h
    refine zw_iload_n hX dX18_second_61 rfl ?_
    refine zw_if_lt (tgt := 99) hX dX18_second_62 (by decide) (fun c62 => ?_) (fun c62 => ?_)
    · rw [if_pos c62] at h
      refine zw_sub (lv' := [(0, .ref a0)]) (List.forall_mem_cons.mpr ⟨rfl, zs_nil⟩) ?_
      exact hk  _ (Option.some.inj h).symm
    · rw [if_neg c62] at h
      refine zw_aload_n hX dX18_second_65 rfl ?_
      obtain ⟨b15, g, h⟩ := zb_some h
      refine zw_getr hX zl_X18_28 dX18_second_66 g ?_
      refine zw_iload_n hX dX18_second_69 rfl ?_
      obtain ⟨_, gi, h⟩ := zb_some h
      obtain ⟨r17, g, h⟩ := zb_some h
      refine zc_Vi (as := [.int i1]) hX gi (zt_X14_go (d := d - 1) (by omega) g) zl_X18_686 rfl dX18_second_70 ⟨rfl, rfl, Nat.le_of_ble_eq_true rfl⟩ ⟨by omega, by omega⟩ ?_
      refine zw_istore_n hX dX18_second_73 (by decide) ?_
      refine zw_iload_n hX dX18_second_74 rfl ?_
      refine zw_if_lt (tgt := 84) hX dX18_second_75 (by decide) (fun c75 => ?_) (fun c75 => ?_)
      · rw [if_pos c75] at h
        refine zw_sub (lv' := [(0, .ref a0), (2, .int i2)]) (List.forall_mem_cons.mpr ⟨rfl, (List.forall_mem_cons.mpr ⟨rfl, zs_nil⟩)⟩) ?_
        exact zt_X18_second_J84 hX hr hR hd hf hk ih h
      · rw [if_neg c75] at h
        refine zw_aload_n hX dX18_second_78 rfl ?_
        refine zw_iload_n hX dX18_second_79 rfl ?_
        refine zw_iload_n hX dX18_second_80 rfl ?_
        obtain ⟨_, gi, h⟩ := zb_some h
        obtain ⟨r22, g, h⟩ := zb_some h
        refine zc_Vv (as := [.int i1, .int r17.1]) hX gi (zt_X18_does (d := d - 1) (by omega) g) zl_X18_482 rfl dX18_second_81 ⟨rfl, rfl, Nat.le_of_ble_eq_true rfl⟩ ⟨by omega, by omega⟩ ?_
        refine zw_sub (lv' := [(0, .ref a0), (2, .int i2)]) (List.forall_mem_cons.mpr ⟨rfl, (List.forall_mem_cons.mpr ⟨rfl, zs_nil⟩)⟩) ?_
        exact zt_X18_second_J84 hX hr hR hd hf hk ih h
set_option maxHeartbeats 4000000 in
set_option maxRecDepth 100000 in
theorem zt_X18_second_L186 {p : Program} {l : Launch} {e : Env} {R : Room} {s : State} {m : MethodId} {args : Array Value} {below : List Frame} {meth : Method} {c : Code} {V : zm_V} {mc ms d rc rs : Nat} (hX : zm_X p R s m args meth c RX18 "second" cX18_second 4 zk_E V mc ms) (hr : meth.sig.returnType = none) (hR : R.frames = d ∧ R.locals = 64 * d) (hd : 7 ≤ d) {N : Nat} {res : (Unit × zm_S) ⊕ ((Unit) × zm_S)} {out : (Unit × zm_S)} (a0 : Nat) (hf : ∀ o, res = .inl o → o = out) (hk : ∀ (S' : zm_S), res = .inr ((), S') → zw p l e R s m args below meth c (vx_MQ below (zm_Qc zk_E V (zo_v out)) (zm_XC zk_E V zo_x) args s mc ms (fun q => V.2.2.2.1 ≤ q)) 4 zk_E V mc ms 256 [(0, .ref a0)] [] S' rc rs) : ∀ (n : Nat) (i2 : Int32) (S : zm_S), zf_X18_second_L186 N n a0 i2 S = some res → zw p l e R s m args below meth c (vx_MQ below (zm_Qc zk_E V (zo_v out)) (zm_XC zk_E V zo_x) args s mc ms (fun q => V.2.2.2.1 ≤ q)) 4 zk_E V mc ms 186 [(0, .ref a0), (2, .int i2)] [] S rc rs := by
  intro n
  induction n with
  | zero => intro i2 S h; cases h
  | succ n ih =>
    intro i2 S h
    rw [zf_X18_second_L186] at h
    refine zw_iload_n hX dX18_second_186 rfl ?_
    refine zw_aload_n hX dX18_second_187 rfl ?_
    obtain ⟨v54, g, h⟩ := zb_some h
    refine zw_geti hX zl_X18_369 dX18_second_188 g ?_
    refine zw_icmp_ge (tgt := 256) hX dX18_second_191 (by decide) (fun c191 => ?_) (fun c191 => ?_)
    · rw [if_pos c191] at h
      refine zw_sub (lv' := [(0, .ref a0)]) (List.forall_mem_cons.mpr ⟨rfl, zs_nil⟩) ?_
      exact hk  _ (Option.some.inj h).symm
    · rw [if_neg c191] at h
      refine zw_aload_n hX dX18_second_194 rfl ?_
      obtain ⟨b55, g, h⟩ := zb_some h
      refine zw_getr hX zl_X18_106 dX18_second_195 g ?_
      refine zw_iload_n hX dX18_second_198 rfl ?_
      obtain ⟨v56, g, h⟩ := zb_some h
      refine zw_xi hX dX18_second_199 g ?_
      refine zw_aload_n hX dX18_second_200 rfl ?_
      obtain ⟨v57, g, h⟩ := zb_some h
      refine zw_geti hX zl_X18_338 dX18_second_201 g ?_
      refine zw_icmp_ge (tgt := 250) hX dX18_second_204 (by decide) (fun c204 => ?_) (fun c204 => ?_)
      · rw [if_pos c204] at h
        refine zw_iinc (v := (i2 + (1 : Int32))) hX dX18_second_250 rfl rfl (by decide) ?_
        refine zw_goto (tgt := 186) hX dX18_second_253 (by decide) ?_
        refine zw_sub (lv' := [(0, .ref a0), (2, .int (i2 + (1 : Int32)))]) (List.forall_mem_cons.mpr ⟨rfl, (List.forall_mem_cons.mpr ⟨rfl, zs_nil⟩)⟩) ?_
        exact ih _ _ h
      · rw [if_neg c204] at h
        refine zw_aload_n hX dX18_second_207 rfl ?_
        obtain ⟨b58, g, h⟩ := zb_some h
        refine zw_getr hX zl_X18_115 dX18_second_208 g ?_
        refine zw_iload_n hX dX18_second_211 rfl ?_
        obtain ⟨v59, g, h⟩ := zb_some h
        refine zw_xi hX dX18_second_212 g ?_
        refine zw_if_ge (tgt := 250) hX dX18_second_213 (by decide) (fun c213 => ?_) (fun c213 => ?_)
        · rw [if_pos c213] at h
          refine zw_iinc (v := (i2 + (1 : Int32))) hX dX18_second_250 rfl rfl (by decide) ?_
          refine zw_goto (tgt := 186) hX dX18_second_253 (by decide) ?_
          refine zw_sub (lv' := [(0, .ref a0), (2, .int (i2 + (1 : Int32)))]) (List.forall_mem_cons.mpr ⟨rfl, (List.forall_mem_cons.mpr ⟨rfl, zs_nil⟩)⟩) ?_
          exact ih _ _ h
        · rw [if_neg c213] at h
          refine zw_aload_n hX dX18_second_216 rfl ?_
          obtain ⟨b60, g, h⟩ := zb_some h
          refine zw_getr hX zl_X18_166 dX18_second_217 g ?_
          refine zw_bipush (v := (24 : Int32)) hX dX18_second_220 (by decide) ?_
          refine zw_aload_n hX dX18_second_222 rfl ?_
          obtain ⟨b61, g, h⟩ := zb_some h
          refine zw_getr hX zl_X18_112 dX18_second_223 g ?_
          refine zw_iload_n hX dX18_second_226 rfl ?_
          obtain ⟨v62, g, h⟩ := zb_some h
          refine zw_xi hX dX18_second_227 g ?_
          refine zw_imul hX dX18_second_228 ?_
          refine zw_aload_n hX dX18_second_229 rfl ?_
          obtain ⟨b63, g, h⟩ := zb_some h
          refine zw_getr hX zl_X18_109 dX18_second_230 g ?_
          refine zw_iload_n hX dX18_second_233 rfl ?_
          obtain ⟨v64, g, h⟩ := zb_some h
          refine zw_xi hX dX18_second_234 g ?_
          refine zw_iadd hX dX18_second_235 ?_
          obtain ⟨v65, g, h⟩ := zb_some h
          refine zw_xz hX dX18_second_236 g ?_
          refine zw_if_eq (tgt := 250) hX dX18_second_237 (by decide) (fun c237 => ?_) (fun c237 => ?_)
          · rw [if_pos c237] at h
            refine zw_iinc (v := (i2 + (1 : Int32))) hX dX18_second_250 rfl rfl (by decide) ?_
            refine zw_goto (tgt := 186) hX dX18_second_253 (by decide) ?_
            refine zw_sub (lv' := [(0, .ref a0), (2, .int (i2 + (1 : Int32)))]) (List.forall_mem_cons.mpr ⟨rfl, (List.forall_mem_cons.mpr ⟨rfl, zs_nil⟩)⟩) ?_
            exact ih _ _ h
          · rw [if_neg c237] at h
            refine zw_aload_n hX dX18_second_240 rfl ?_
            obtain ⟨b66, g, h⟩ := zb_some h
            refine zw_getr hX zl_X18_115 dX18_second_241 g ?_
            refine zw_iload_n hX dX18_second_244 rfl ?_
            refine zw_aload_n hX dX18_second_245 rfl ?_
            obtain ⟨v67, g, h⟩ := zb_some h
            refine zw_geti hX zl_X18_401 dX18_second_246 g ?_
            obtain ⟨S68, g, h⟩ := zb_some h
            refine zw_si hX dX18_second_249 g ?_
            refine zw_iinc (v := (i2 + (1 : Int32))) hX dX18_second_250 rfl rfl (by decide) ?_
            refine zw_goto (tgt := 186) hX dX18_second_253 (by decide) ?_
            refine zw_sub (lv' := [(0, .ref a0), (2, .int (i2 + (1 : Int32)))]) (List.forall_mem_cons.mpr ⟨rfl, (List.forall_mem_cons.mpr ⟨rfl, zs_nil⟩)⟩) ?_
            exact ih _ _ h
set_option maxHeartbeats 4000000 in
set_option maxRecDepth 100000 in
theorem zt_X18_second_J46 {p : Program} {l : Launch} {e : Env} {R : Room} {s : State} {m : MethodId} {args : Array Value} {below : List Frame} {meth : Method} {c : Code} {V : zm_V} {mc ms d rc rs : Nat} (hX : zm_X p R s m args meth c RX18 "second" cX18_second 4 zk_E V mc ms) (hr : meth.sig.returnType = none) (hR : R.frames = d ∧ R.locals = 64 * d) (hd : 7 ≤ d) {N : Nat} {a0 : Nat} {out : (Unit × zm_S)} {S : zm_S} (h : zf_X18_second_J46 N a0 S = some out) : zw p l e R s m args below meth c (vx_MQ below (zm_Qc zk_E V (zo_v out)) (zm_XC zk_E V zo_x) args s mc ms (fun q => V.2.2.2.1 ≤ q)) 4 zk_E V mc ms 46 [(0, .ref a0)] [] S rc rs := by
  unfold zf_X18_second_J46 at h
  refine zw_aload_n hX dX18_second_46 rfl ?_
  obtain ⟨_, gi, h⟩ := zb_some h
  obtain ⟨r11, g, h⟩ := zb_some h
  refine zc_Vv (as := []) hX gi (zt_X18_detect (d := d - 1) (by omega) g) zl_X18_683 rfl dX18_second_47 ⟨rfl, rfl, Nat.le_of_ble_eq_true rfl⟩ ⟨by omega, by omega⟩ ?_
  refine zw_aload_n hX dX18_second_50 rfl ?_
  obtain ⟨b12, g, h⟩ := zb_some h
  refine zw_getr hX zl_X18_28 dX18_second_51 g ?_
  refine zw_iconst (v := (0 : Int32)) hX dX18_second_54 (by decide) ?_
  obtain ⟨_, gi, h⟩ := zb_some h
  obtain ⟨r14, g, h⟩ := zb_some h
  refine zc_Vi (as := [.int (0 : Int32)]) hX gi (zt_X14_rankedOne (d := d - 1) (by omega) g) zl_X18_476 rfl dX18_second_55 ⟨rfl, rfl, Nat.le_of_ble_eq_true rfl⟩ ⟨by omega, by omega⟩ ?_
  refine zw_istore_n hX dX18_second_58 (by decide) ?_
  refine zw_iconst (v := (1 : Int32)) hX dX18_second_59 (by decide) ?_
  refine zw_istore_n hX dX18_second_60 (by decide) ?_
  obtain ⟨r, g, h⟩ := zb_some h
  refine zw_sub (lv' := [(0, .ref a0), (1, .int r14.1), (2, .int (1 : Int32))]) (List.forall_mem_cons.mpr ⟨rfl, (List.forall_mem_cons.mpr ⟨rfl, (List.forall_mem_cons.mpr ⟨rfl, zs_nil⟩)⟩)⟩) ?_
  refine zt_X18_second_L61 hX hr hR hd (res := r) (out := out) a0 ?_ ?_ N _ _ _ g
  · intro o ho
    subst ho
    exact Option.some.inj h
  · intro  S23 hx
    subst hx
    try dsimp only at h
    refine zw_aload_n hX dX18_second_99 rfl ?_
    obtain ⟨b24, g, h⟩ := zb_some h
    refine zw_getr hX zl_X18_35 dX18_second_100 g ?_
    obtain ⟨b25, g, h⟩ := zb_some h
    refine zw_getr hX zl_X18_474 dX18_second_103 g ?_
    refine zw_iconst (v := (0 : Int32)) hX dX18_second_106 (by decide) ?_
    refine zw_aload_n hX dX18_second_107 rfl ?_
    obtain ⟨_, gi, h⟩ := zb_some h
    obtain ⟨r27, g, h⟩ := zb_some h
    refine zc_Vi (as := []) hX gi (zt_X18_inSpaces (d := d - 1) (by omega) g) zl_X18_689 rfl dX18_second_108 ⟨rfl, rfl, Nat.le_of_ble_eq_true rfl⟩ ⟨by omega, by omega⟩ ?_
    obtain ⟨S28, g, h⟩ := zb_some h
    refine zw_si hX dX18_second_111 g ?_
    refine zw_aload_n hX dX18_second_112 rfl ?_
    obtain ⟨b29, g, h⟩ := zb_some h
    refine zw_getr hX zl_X18_35 dX18_second_113 g ?_
    obtain ⟨b30, g, h⟩ := zb_some h
    refine zw_getr hX zl_X18_474 dX18_second_116 g ?_
    refine zw_iconst (v := (1 : Int32)) hX dX18_second_119 (by decide) ?_
    refine zw_aload_n hX dX18_second_120 rfl ?_
    obtain ⟨b31, g, h⟩ := zb_some h
    refine zw_getr hX zl_X18_28 dX18_second_121 g ?_
    refine zw_iconst (v := (-1 : Int32)) hX dX18_second_124 (by decide) ?_
    obtain ⟨_, gi, h⟩ := zb_some h
    obtain ⟨r33, g, h⟩ := zb_some h
    refine zc_Vi (as := [.int (-1 : Int32)]) hX gi (zt_X14_done (d := d - 1) (by omega) g) zl_X18_404 rfl dX18_second_125 ⟨rfl, rfl, Nat.le_of_ble_eq_true rfl⟩ ⟨by omega, by omega⟩ ?_
    obtain ⟨S34, g, h⟩ := zb_some h
    refine zw_si hX dX18_second_128 g ?_
    refine zw_aload_n hX dX18_second_129 rfl ?_
    obtain ⟨b35, g, h⟩ := zb_some h
    refine zw_getr hX zl_X18_35 dX18_second_130 g ?_
    obtain ⟨b36, g, h⟩ := zb_some h
    refine zw_getr hX zl_X18_474 dX18_second_133 g ?_
    refine zw_iconst (v := (2 : Int32)) hX dX18_second_136 (by decide) ?_
    refine zw_aload_n hX dX18_second_137 rfl ?_
    refine zw_iconst (v := (-1 : Int32)) hX dX18_second_138 (by decide) ?_
    obtain ⟨_, gi, h⟩ := zb_some h
    obtain ⟨r38, g, h⟩ := zb_some h
    refine zc_Vi (as := [.int (-1 : Int32)]) hX gi (zt_X18_smokes (d := d - 1) (by omega) g) zl_X18_657 rfl dX18_second_139 ⟨rfl, rfl, Nat.le_of_ble_eq_true rfl⟩ ⟨by omega, by omega⟩ ?_
    obtain ⟨S39, g, h⟩ := zb_some h
    refine zw_si hX dX18_second_142 g ?_
    refine zw_aload_n hX dX18_second_143 rfl ?_
    obtain ⟨b40, g, h⟩ := zb_some h
    refine zw_getr hX zl_X18_35 dX18_second_144 g ?_
    obtain ⟨b41, g, h⟩ := zb_some h
    refine zw_getr hX zl_X18_474 dX18_second_147 g ?_
    refine zw_iconst (v := (3 : Int32)) hX dX18_second_150 (by decide) ?_
    refine zw_aload_n hX dX18_second_151 rfl ?_
    obtain ⟨b42, g, h⟩ := zb_some h
    refine zw_getr hX zl_X18_49 dX18_second_152 g ?_
    obtain ⟨_, gi, h⟩ := zb_some h
    obtain ⟨r44, g, h⟩ := zb_some h
    refine zc_Vi (as := []) hX gi (zt_X13_many (d := d - 1) (by omega) g) zl_X18_611 rfl dX18_second_155 ⟨rfl, rfl, Nat.le_of_ble_eq_true rfl⟩ ⟨by omega, by omega⟩ ?_
    obtain ⟨S45, g, h⟩ := zb_some h
    refine zw_si hX dX18_second_158 g ?_
    refine zw_aload_n hX dX18_second_159 rfl ?_
    obtain ⟨b46, g, h⟩ := zb_some h
    refine zw_getr hX zl_X18_35 dX18_second_160 g ?_
    refine zw_aload_n hX dX18_second_163 rfl ?_
    obtain ⟨v47, g, h⟩ := zb_some h
    refine zw_geti hX zl_X18_401 dX18_second_164 g ?_
    refine zw_bipush (v := (60 : Int32)) hX dX18_second_167 (by decide) ?_
    refine zw_idiv hX dX18_second_169 (by decide) ?_
    obtain ⟨S48, g, h⟩ := zb_some h
    refine zw_putv hX zl_X18_692 zt_17_14 dX18_second_170 rfl rfl g ?_
    refine zw_aload_n hX dX18_second_173 rfl ?_
    obtain ⟨b49, g, h⟩ := zb_some h
    refine zw_getr hX zl_X18_35 dX18_second_174 g ?_
    obtain ⟨_, gi, h⟩ := zb_some h
    obtain ⟨r51, g, h⟩ := zb_some h
    refine zc_Vv (as := []) hX gi (zt_X17_tick (d := d - 1) (by omega) g) zl_X18_695 rfl dX18_second_177 ⟨rfl, rfl, Nat.le_of_ble_eq_true rfl⟩ ⟨by omega, by omega⟩ ?_
    refine zw_aload_n hX dX18_second_180 rfl ?_
    obtain ⟨_, gi, h⟩ := zb_some h
    obtain ⟨r53, g, h⟩ := zb_some h
    refine zc_Vv (as := []) hX gi (zt_X18_line_ (d := d - 1) (by omega) g) zl_X18_698 rfl dX18_second_181 ⟨rfl, rfl, Nat.le_of_ble_eq_true rfl⟩ ⟨by omega, by omega⟩ ?_
    refine zw_iconst (v := (0 : Int32)) hX dX18_second_184 (by decide) ?_
    refine zw_istore_n hX dX18_second_185 (by decide) ?_
    obtain ⟨r, g, h⟩ := zb_some h
    refine zw_sub (lv' := [(0, .ref a0), (2, .int (0 : Int32))]) (List.forall_mem_cons.mpr ⟨rfl, (List.forall_mem_cons.mpr ⟨rfl, zs_nil⟩)⟩) ?_
    refine zt_X18_second_L186 hX hr hR hd (res := r) (out := out) a0 ?_ ?_ N _ _ g
    · intro o ho
      subst ho
      exact Option.some.inj h
    · intro  S69 hx
      subst hx
      try dsimp only at h
      refine zw_aload_n hX dX18_second_256 rfl ?_
      obtain ⟨b70, g, h⟩ := zb_some h
      refine zw_getr hX zl_X18_28 dX18_second_257 g ?_
      refine zw_iconst (v := (4 : Int32)) hX dX18_second_260 (by decide) ?_
      obtain ⟨_, gi, h⟩ := zb_some h
      obtain ⟨r72, g, h⟩ := zb_some h
      refine zc_Vi (as := [.int (4 : Int32)]) hX gi (zt_X14_done (d := d - 1) (by omega) g) zl_X18_404 rfl dX18_second_261 ⟨rfl, rfl, Nat.le_of_ble_eq_true rfl⟩ ⟨by omega, by omega⟩ ?_
      refine zw_if_le (tgt := 271) hX dX18_second_264 (by decide) (fun c264 => ?_) (fun c264 => ?_)
      · rw [if_pos c264] at h
        obtain rfl := Option.some.inj h
        exact zw_vret hX hr dX18_second_271 ⟨rfl, rfl⟩
      · rw [if_neg c264] at h
        refine zw_aload_n hX dX18_second_267 rfl ?_
        obtain ⟨_, gi, h⟩ := zb_some h
        obtain ⟨r74, g, h⟩ := zb_some h
        refine zc_Vv (as := []) hX gi (zt_X18_leave (d := d - 1) (by omega) g) zl_X18_700 rfl dX18_second_268 ⟨rfl, rfl, Nat.le_of_ble_eq_true rfl⟩ ⟨by omega, by omega⟩ ?_
        obtain rfl := Option.some.inj h
        exact zw_vret hX hr dX18_second_271 ⟨rfl, rfl⟩
set_option maxHeartbeats 4000000 in
set_option maxRecDepth 100000 in
theorem zt_X18_second {l : Launch} {V : zm_V} {N : Nat} {S : zm_S} {out : (Unit × zm_S)} {d : Nat} {a0 : Nat} (hd : 7 ≤ d) (h : zf_X18_second N a0 S = some out) : zm_Met l zk_E V yX18_second (.code yX18_second cX18_second 4 none) d [.ref a0] S 0 0 (zo_v out) zo_x := by
  refine zm_of (by decide +kernel) (Nat.le_of_ble_eq_true rfl) ?_
  intro p e R s m args below meth c hRR hX hr hxt
  have hR : R.frames = d ∧ R.locals = 64 * d := by rw [hRR]; exact ⟨rfl, rfl⟩
  have hX : zm_X p R s m args meth c RX18 "second" cX18_second 4 zk_E V 0 0 := hX
  unfold zf_X18_second at h
  refine zw_sub (lv' := [(0, .ref a0)]) (List.forall_mem_cons.mpr ⟨rfl, zs_nil⟩) ?_
  refine zw_aload_n hX dX18_second_0 rfl ?_
  refine zw_dup hX dX18_second_1 rfl ?_
  obtain ⟨v1, g, h⟩ := zb_some h
  refine zw_geti hX zl_X18_401 dX18_second_2 g ?_
  refine zw_iconst (v := (1 : Int32)) hX dX18_second_5 (by decide) ?_
  refine zw_iadd hX dX18_second_6 ?_
  obtain ⟨S2, g, h⟩ := zb_some h
  refine zw_putv hX zl_X18_401 zt_18_2 dX18_second_7 rfl rfl g ?_
  refine zw_aload_n hX dX18_second_10 rfl ?_
  obtain ⟨b3, g, h⟩ := zb_some h
  refine zw_getr hX zl_X18_28 dX18_second_11 g ?_
  refine zw_aload_n hX dX18_second_14 rfl ?_
  obtain ⟨v4, g, h⟩ := zb_some h
  refine zw_geti hX zl_X18_401 dX18_second_15 g ?_
  obtain ⟨S5, g, h⟩ := zb_some h
  refine zw_putv hX zl_X18_676 zt_14_1 dX18_second_18 rfl rfl g ?_
  refine zw_aload_n hX dX18_second_21 rfl ?_
  obtain ⟨b6, g, h⟩ := zb_some h
  refine zw_getr hX zl_X18_49 dX18_second_22 g ?_
  refine zw_aload_n hX dX18_second_25 rfl ?_
  obtain ⟨v7, g, h⟩ := zb_some h
  refine zw_geti hX zl_X18_401 dX18_second_26 g ?_
  obtain ⟨S8, g, h⟩ := zb_some h
  refine zw_putv hX zl_X18_679 zt_13_12 dX18_second_29 rfl rfl g ?_
  refine zw_aload_n hX dX18_second_32 rfl ?_
  obtain ⟨v9, g, h⟩ := zb_some h
  refine zw_geti hX zl_X18_401 dX18_second_33 g ?_
  refine zw_bipush (v := (10 : Int32)) hX dX18_second_36 (by decide) ?_
  refine zw_irem hX dX18_second_38 (by decide) ?_
  refine zw_if_ne (tgt := 46) hX dX18_second_39 (by decide) (fun c39 => ?_) (fun c39 => ?_)
  · rw [if_neg c39] at h
    refine zw_sub (lv' := [(0, .ref a0)]) (List.forall_mem_cons.mpr ⟨rfl, zs_nil⟩) ?_
    exact zt_X18_second_J46 hX hr hR hd h
  · rw [if_pos c39] at h
    refine zw_aload_n hX dX18_second_42 rfl ?_
    obtain ⟨_, gi, h⟩ := zb_some h
    obtain ⟨r76, g, h⟩ := zb_some h
    refine zc_Vv (as := []) hX gi (zt_X18_spread (d := d - 1) (by omega) g) zl_X18_680 rfl dX18_second_43 ⟨rfl, rfl, Nat.le_of_ble_eq_true rfl⟩ ⟨by omega, by omega⟩ ?_
    refine zw_sub (lv' := [(0, .ref a0)]) (List.forall_mem_cons.mpr ⟨rfl, zs_nil⟩) ?_
    exact zt_X18_second_J46 hX hr hR hd h
set_option maxHeartbeats 4000000 in
set_option maxRecDepth 100000 in
theorem zt_X18_pass_L51 {p : Program} {l : Launch} {e : Env} {R : Room} {s : State} {m : MethodId} {args : Array Value} {below : List Frame} {meth : Method} {c : Code} {V : zm_V} {mc ms d rc rs : Nat} (hX : zm_X p R s m args meth c RX18 "pass" cX18_pass 3 zk_E V mc ms) (hr : meth.sig.returnType = (some .int)) (hR : R.frames = d ∧ R.locals = 64 * d) (hd : 8 ≤ d) {N : Nat} {res : (Int32 × zm_S) ⊕ ((Unit) × zm_S)} {out : (Int32 × zm_S)} (a0 : Nat) (i1 : Int32) (hf : ∀ o, res = .inl o → o = out) (hk : ∀ (S' : zm_S), res = .inr ((), S') → zw p l e R s m args below meth c (vx_MQ below (zm_Qc zk_E V (zo_i out)) (zm_XC zk_E V zo_x) args s mc ms (fun q => V.2.2.2.1 ≤ q)) 3 zk_E V mc ms 66 [(0, .ref a0)] [] S' rc rs) : ∀ (n : Nat) (i2 : Int32) (S : zm_S), zf_X18_pass_L51 N n a0 i1 i2 S = some res → zw p l e R s m args below meth c (vx_MQ below (zm_Qc zk_E V (zo_i out)) (zm_XC zk_E V zo_x) args s mc ms (fun q => V.2.2.2.1 ≤ q)) 3 zk_E V mc ms 51 [(0, .ref a0), (1, .int i1), (2, .int i2)] [] S rc rs := by
  intro n
  induction n with
  | zero => intro i2 S h; cases h
  | succ n ih =>
    intro i2 S h
    rw [zf_X18_pass_L51] at h
    refine zw_iload_n hX dX18_pass_51 rfl ?_
    refine zw_iload_n hX dX18_pass_52 rfl ?_
    refine zw_icmp_ge (tgt := 66) hX dX18_pass_53 (by decide) (fun c53 => ?_) (fun c53 => ?_)
    · rw [if_pos c53] at h
      refine zw_sub (lv' := [(0, .ref a0)]) (List.forall_mem_cons.mpr ⟨rfl, zs_nil⟩) ?_
      exact hk  _ (Option.some.inj h).symm
    · rw [if_neg c53] at h
      refine zw_aload_n hX dX18_pass_56 rfl ?_
      obtain ⟨_, gi, h⟩ := zb_some h
      obtain ⟨r5, g, h⟩ := zb_some h
      refine zc_Vv (as := []) hX gi (zt_X18_second (d := d - 1) (by omega) g) zl_X18_703 rfl dX18_pass_57 ⟨rfl, rfl, Nat.le_of_ble_eq_true rfl⟩ ⟨by omega, by omega⟩ ?_
      refine zw_iinc (v := (i2 + (1 : Int32))) hX dX18_pass_60 rfl rfl (by decide) ?_
      refine zw_goto (tgt := 51) hX dX18_pass_63 (by decide) ?_
      refine zw_sub (lv' := [(0, .ref a0), (1, .int i1), (2, .int (i2 + (1 : Int32)))]) (List.forall_mem_cons.mpr ⟨rfl, (List.forall_mem_cons.mpr ⟨rfl, (List.forall_mem_cons.mpr ⟨rfl, zs_nil⟩)⟩)⟩) ?_
      exact ih _ _ h
set_option maxHeartbeats 4000000 in
set_option maxRecDepth 100000 in
theorem zt_X18_pass_J41 {p : Program} {l : Launch} {e : Env} {R : Room} {s : State} {m : MethodId} {args : Array Value} {below : List Frame} {meth : Method} {c : Code} {V : zm_V} {mc ms d rc rs : Nat} (hX : zm_X p R s m args meth c RX18 "pass" cX18_pass 3 zk_E V mc ms) (hr : meth.sig.returnType = (some .int)) (hR : R.frames = d ∧ R.locals = 64 * d) (hd : 8 ≤ d) {N : Nat} {a0 : Nat} {i1 : Int32} {t0 : Nat} {t1 : Int32} {t2 : Int32} {out : (Int32 × zm_S)} {S : zm_S} (h : zf_X18_pass_J41 N a0 i1 t0 t1 t2 S = some out) : zw p l e R s m args below meth c (vx_MQ below (zm_Qc zk_E V (zo_i out)) (zm_XC zk_E V zo_x) args s mc ms (fun q => V.2.2.2.1 ≤ q)) 3 zk_E V mc ms 41 [(0, .ref a0), (1, .int i1)] [.int t2, .int t1, .ref t0] S rc rs := by
  unfold zf_X18_pass_J41 at h
  obtain ⟨_, gi, h⟩ := zb_some h
  obtain ⟨r3, g, h⟩ := zb_some h
  refine zc_Vi (as := [.int t1, .int t2]) hX gi (zt_X18_goes (d := d - 1) (by omega) g) zl_X18_199 rfl dX18_pass_41 ⟨rfl, rfl, Nat.le_of_ble_eq_true rfl⟩ ⟨by omega, by omega⟩ ?_
  refine zw_if_ne (tgt := 49) hX dX18_pass_44 (by decide) (fun c44 => ?_) (fun c44 => ?_)
  · rw [if_neg c44] at h
    refine zw_iconst (v := (0 : Int32)) hX dX18_pass_49 (by decide) ?_
    refine zw_istore_n hX dX18_pass_50 (by decide) ?_
    obtain ⟨r, g, h⟩ := zb_some h
    refine zw_sub (lv' := [(0, .ref a0), (1, .int i1), (2, .int (0 : Int32))]) (List.forall_mem_cons.mpr ⟨rfl, (List.forall_mem_cons.mpr ⟨rfl, (List.forall_mem_cons.mpr ⟨rfl, zs_nil⟩)⟩)⟩) ?_
    refine zt_X18_pass_L51 hX hr hR hd (res := r) (out := out) a0 i1 ?_ ?_ N _ _ g
    · intro o ho
      subst ho
      exact Option.some.inj h
    · intro  S6 hx
      subst hx
      try dsimp only at h
      refine zw_aload_n hX dX18_pass_66 rfl ?_
      obtain ⟨v7, g, h⟩ := zb_some h
      refine zw_geti hX zl_X18_401 dX18_pass_67 g ?_
      obtain rfl := Option.some.inj h
      exact zw_iret hX hr dX18_pass_70 rfl ⟨rfl, rfl⟩
  · rw [if_pos c44] at h
    refine zw_iconst (v := (0 : Int32)) hX dX18_pass_47 (by decide) ?_
    obtain rfl := Option.some.inj h
    exact zw_iret hX hr dX18_pass_48 rfl ⟨rfl, rfl⟩
set_option maxHeartbeats 4000000 in
set_option maxRecDepth 100000 in
theorem zt_X18_pass_J40 {p : Program} {l : Launch} {e : Env} {R : Room} {s : State} {m : MethodId} {args : Array Value} {below : List Frame} {meth : Method} {c : Code} {V : zm_V} {mc ms d rc rs : Nat} (hX : zm_X p R s m args meth c RX18 "pass" cX18_pass 3 zk_E V mc ms) (hr : meth.sig.returnType = (some .int)) (hR : R.frames = d ∧ R.locals = 64 * d) (hd : 8 ≤ d) {N : Nat} {a0 : Nat} {i1 : Int32} {t0 : Nat} {t1 : Int32} {out : (Int32 × zm_S)} {S : zm_S} (h : zf_X18_pass_J40 N a0 i1 t0 t1 S = some out) : zw p l e R s m args below meth c (vx_MQ below (zm_Qc zk_E V (zo_i out)) (zm_XC zk_E V zo_x) args s mc ms (fun q => V.2.2.2.1 ≤ q)) 3 zk_E V mc ms 40 [(0, .ref a0), (1, .int i1)] [.int t1, .ref t0] S rc rs := by
  unfold zf_X18_pass_J40 at h
  refine zw_iconst (v := (0 : Int32)) hX dX18_pass_40 (by decide) ?_
  refine zw_sub (lv' := [(0, .ref a0), (1, .int i1)]) (List.forall_mem_cons.mpr ⟨rfl, (List.forall_mem_cons.mpr ⟨rfl, zs_nil⟩)⟩) ?_
  exact zt_X18_pass_J41 hX hr hR hd h
set_option maxHeartbeats 4000000 in
set_option maxRecDepth 100000 in
theorem zt_X18_pass_J17 {p : Program} {l : Launch} {e : Env} {R : Room} {s : State} {m : MethodId} {args : Array Value} {below : List Frame} {meth : Method} {c : Code} {V : zm_V} {mc ms d rc rs : Nat} (hX : zm_X p R s m args meth c RX18 "pass" cX18_pass 3 zk_E V mc ms) (hr : meth.sig.returnType = (some .int)) (hR : R.frames = d ∧ R.locals = 64 * d) (hd : 8 ≤ d) {N : Nat} {a0 : Nat} {i1 : Int32} {t0 : Nat} {t1 : Int32} {out : (Int32 × zm_S)} {S : zm_S} (h : zf_X18_pass_J17 N a0 i1 t0 t1 S = some out) : zw p l e R s m args below meth c (vx_MQ below (zm_Qc zk_E V (zo_i out)) (zm_XC zk_E V zo_x) args s mc ms (fun q => V.2.2.2.1 ≤ q)) 3 zk_E V mc ms 17 [(0, .ref a0), (1, .int i1)] [.int t1, .ref t0] S rc rs := by
  unfold zf_X18_pass_J17 at h
  refine zw_aload_n hX dX18_pass_17 rfl ?_
  obtain ⟨v1, g, h⟩ := zb_some h
  refine zw_geti hX zl_X18_192 dX18_pass_18 g ?_
  refine zw_if_eq (tgt := 40) hX dX18_pass_21 (by decide) (fun c21 => ?_) (fun c21 => ?_)
  · rw [if_pos c21] at h
    refine zw_sub (lv' := [(0, .ref a0), (1, .int i1)]) (List.forall_mem_cons.mpr ⟨rfl, (List.forall_mem_cons.mpr ⟨rfl, zs_nil⟩)⟩) ?_
    exact zt_X18_pass_J40 hX hr hR hd h
  · rw [if_neg c21] at h
    refine zw_aload_n hX dX18_pass_24 rfl ?_
    obtain ⟨v8, g, h⟩ := zb_some h
    refine zw_geti hX zl_X18_401 dX18_pass_25 g ?_
    refine zw_iload_n hX dX18_pass_28 rfl ?_
    refine zw_iadd hX dX18_pass_29 ?_
    refine zw_sipush (v := (6000 : Int32)) hX dX18_pass_30 (by decide) ?_
    refine zw_icmp_gt (tgt := 40) hX dX18_pass_33 (by decide) (fun c33 => ?_) (fun c33 => ?_)
    · rw [if_pos c33] at h
      refine zw_sub (lv' := [(0, .ref a0), (1, .int i1)]) (List.forall_mem_cons.mpr ⟨rfl, (List.forall_mem_cons.mpr ⟨rfl, zs_nil⟩)⟩) ?_
      exact zt_X18_pass_J40 hX hr hR hd h
    · rw [if_neg c33] at h
      refine zw_iconst (v := (1 : Int32)) hX dX18_pass_36 (by decide) ?_
      refine zw_goto (tgt := 41) hX dX18_pass_37 (by decide) ?_
      refine zw_sub (lv' := [(0, .ref a0), (1, .int i1)]) (List.forall_mem_cons.mpr ⟨rfl, (List.forall_mem_cons.mpr ⟨rfl, zs_nil⟩)⟩) ?_
      exact zt_X18_pass_J41 hX hr hR hd h
set_option maxHeartbeats 4000000 in
set_option maxRecDepth 100000 in
theorem zt_X18_pass_J16 {p : Program} {l : Launch} {e : Env} {R : Room} {s : State} {m : MethodId} {args : Array Value} {below : List Frame} {meth : Method} {c : Code} {V : zm_V} {mc ms d rc rs : Nat} (hX : zm_X p R s m args meth c RX18 "pass" cX18_pass 3 zk_E V mc ms) (hr : meth.sig.returnType = (some .int)) (hR : R.frames = d ∧ R.locals = 64 * d) (hd : 8 ≤ d) {N : Nat} {a0 : Nat} {i1 : Int32} {t0 : Nat} {out : (Int32 × zm_S)} {S : zm_S} (h : zf_X18_pass_J16 N a0 i1 t0 S = some out) : zw p l e R s m args below meth c (vx_MQ below (zm_Qc zk_E V (zo_i out)) (zm_XC zk_E V zo_x) args s mc ms (fun q => V.2.2.2.1 ≤ q)) 3 zk_E V mc ms 16 [(0, .ref a0), (1, .int i1)] [.ref t0] S rc rs := by
  unfold zf_X18_pass_J16 at h
  refine zw_iconst (v := (0 : Int32)) hX dX18_pass_16 (by decide) ?_
  refine zw_sub (lv' := [(0, .ref a0), (1, .int i1)]) (List.forall_mem_cons.mpr ⟨rfl, (List.forall_mem_cons.mpr ⟨rfl, zs_nil⟩)⟩) ?_
  exact zt_X18_pass_J17 hX hr hR hd h
set_option maxHeartbeats 4000000 in
set_option maxRecDepth 100000 in
theorem zt_X18_pass {l : Launch} {V : zm_V} {N : Nat} {S : zm_S} {out : (Int32 × zm_S)} {d : Nat} {a0 : Nat} {i1 : Int32} (hd : 8 ≤ d) (h : zf_X18_pass N a0 i1 S = some out) : zm_Met l zk_E V yX18_pass (.code yX18_pass cX18_pass 3 (some .int)) d [.ref a0, .int i1] S 0 0 (zo_i out) zo_x := by
  refine zm_of (by decide +kernel) (Nat.le_of_ble_eq_true rfl) ?_
  intro p e R s m args below meth c hRR hX hr hxt
  have hR : R.frames = d ∧ R.locals = 64 * d := by rw [hRR]; exact ⟨rfl, rfl⟩
  have hX : zm_X p R s m args meth c RX18 "pass" cX18_pass 3 zk_E V 0 0 := hX
  unfold zf_X18_pass at h
  refine zw_sub (lv' := [(0, .ref a0), (1, .int i1)]) (List.forall_mem_cons.mpr ⟨rfl, (List.forall_mem_cons.mpr ⟨rfl, zs_nil⟩)⟩) ?_
  refine zw_aload_n hX dX18_pass_0 rfl ?_
  refine zw_iload_n hX dX18_pass_1 rfl ?_
  refine zw_iconst (v := (1 : Int32)) hX dX18_pass_2 (by decide) ?_
  refine zw_icmp_lt (tgt := 16) hX dX18_pass_3 (by decide) (fun c3 => ?_) (fun c3 => ?_)
  · rw [if_pos c3] at h
    refine zw_sub (lv' := [(0, .ref a0), (1, .int i1)]) (List.forall_mem_cons.mpr ⟨rfl, (List.forall_mem_cons.mpr ⟨rfl, zs_nil⟩)⟩) ?_
    exact zt_X18_pass_J16 hX hr hR hd h
  · rw [if_neg c3] at h
    refine zw_iload_n hX dX18_pass_6 rfl ?_
    refine zw_bipush (v := (60 : Int32)) hX dX18_pass_7 (by decide) ?_
    refine zw_icmp_gt (tgt := 16) hX dX18_pass_9 (by decide) (fun c9 => ?_) (fun c9 => ?_)
    · rw [if_pos c9] at h
      refine zw_sub (lv' := [(0, .ref a0), (1, .int i1)]) (List.forall_mem_cons.mpr ⟨rfl, (List.forall_mem_cons.mpr ⟨rfl, zs_nil⟩)⟩) ?_
      exact zt_X18_pass_J16 hX hr hR hd h
    · rw [if_neg c9] at h
      refine zw_iconst (v := (1 : Int32)) hX dX18_pass_12 (by decide) ?_
      refine zw_goto (tgt := 17) hX dX18_pass_13 (by decide) ?_
      refine zw_sub (lv' := [(0, .ref a0), (1, .int i1)]) (List.forall_mem_cons.mpr ⟨rfl, (List.forall_mem_cons.mpr ⟨rfl, zs_nil⟩)⟩) ?_
      exact zt_X18_pass_J17 hX hr hR hd h
set_option maxHeartbeats 4000000 in
set_option maxRecDepth 100000 in
theorem zt_X18_told_J78 {p : Program} {l : Launch} {e : Env} {R : Room} {s : State} {m : MethodId} {args : Array Value} {below : List Frame} {meth : Method} {c : Code} {V : zm_V} {mc ms d rc rs : Nat} (hX : zm_X p R s m args meth c RX18 "told" cX18_told 2 zk_E V mc ms) (hr : meth.sig.returnType = (some .int)) (hR : R.frames = d ∧ R.locals = 64 * d) (hd : 3 ≤ d) {N : Nat} {a0 : Nat} {out : (Int32 × zm_S)} {S : zm_S} (h : zf_X18_told_J78 N a0 S = some out) : zw p l e R s m args below meth c (vx_MQ below (zm_Qc zk_E V (zo_i out)) (zm_XC zk_E V zo_x) args s mc ms (fun q => V.2.2.2.1 ≤ q)) 2 zk_E V mc ms 78 [(0, .ref a0)] [] S rc rs := by
  unfold zf_X18_told_J78 at h
  refine zw_aload_n hX dX18_told_78 rfl ?_
  obtain ⟨b10, g, h⟩ := zb_some h
  refine zw_getr hX zl_X18_28 dX18_told_79 g ?_
  refine zw_iconst (v := (-1 : Int32)) hX dX18_told_82 (by decide) ?_
  obtain ⟨_, gi, h⟩ := zb_some h
  obtain ⟨r12, g, h⟩ := zb_some h
  refine zc_Vi (as := [.int (-1 : Int32)]) hX gi (zt_X14_done (d := d - 1) (by omega) g) zl_X18_404 rfl dX18_told_83 ⟨rfl, rfl, Nat.le_of_ble_eq_true rfl⟩ ⟨by omega, by omega⟩ ?_
  obtain rfl := Option.some.inj h
  exact zw_iret hX hr dX18_told_86 rfl ⟨rfl, rfl⟩
set_option maxHeartbeats 4000000 in
set_option maxRecDepth 100000 in
theorem zt_X18_told_J87 {p : Program} {l : Launch} {e : Env} {R : Room} {s : State} {m : MethodId} {args : Array Value} {below : List Frame} {meth : Method} {c : Code} {V : zm_V} {mc ms d rc rs : Nat} (hX : zm_X p R s m args meth c RX18 "told" cX18_told 2 zk_E V mc ms) (hr : meth.sig.returnType = (some .int)) (hR : R.frames = d ∧ R.locals = 64 * d) (hd : 3 ≤ d) {N : Nat} {a0 : Nat} {out : (Int32 × zm_S)} {S : zm_S} (h : zf_X18_told_J87 N a0 S = some out) : zw p l e R s m args below meth c (vx_MQ below (zm_Qc zk_E V (zo_i out)) (zm_XC zk_E V zo_x) args s mc ms (fun q => V.2.2.2.1 ≤ q)) 2 zk_E V mc ms 87 [(0, .ref a0)] [] S rc rs := by
  unfold zf_X18_told_J87 at h
  refine zw_aload_n hX dX18_told_87 rfl ?_
  refine zw_iconst (v := (-1 : Int32)) hX dX18_told_88 (by decide) ?_
  obtain ⟨_, gi, h⟩ := zb_some h
  obtain ⟨r14, g, h⟩ := zb_some h
  refine zc_Vi (as := [.int (-1 : Int32)]) hX gi (zt_X18_smokes (d := d - 1) (by omega) g) zl_X18_657 rfl dX18_told_89 ⟨rfl, rfl, Nat.le_of_ble_eq_true rfl⟩ ⟨by omega, by omega⟩ ?_
  obtain rfl := Option.some.inj h
  exact zw_iret hX hr dX18_told_92 rfl ⟨rfl, rfl⟩
set_option maxHeartbeats 4000000 in
set_option maxRecDepth 100000 in
theorem zt_X18_told_J93 {p : Program} {l : Launch} {e : Env} {R : Room} {s : State} {m : MethodId} {args : Array Value} {below : List Frame} {meth : Method} {c : Code} {V : zm_V} {mc ms d rc rs : Nat} (hX : zm_X p R s m args meth c RX18 "told" cX18_told 2 zk_E V mc ms) (hr : meth.sig.returnType = (some .int)) (hR : R.frames = d ∧ R.locals = 64 * d) (hd : 3 ≤ d) {N : Nat} {a0 : Nat} {out : (Int32 × zm_S)} {S : zm_S} (h : zf_X18_told_J93 N a0 S = some out) : zw p l e R s m args below meth c (vx_MQ below (zm_Qc zk_E V (zo_i out)) (zm_XC zk_E V zo_x) args s mc ms (fun q => V.2.2.2.1 ≤ q)) 2 zk_E V mc ms 93 [(0, .ref a0)] [] S rc rs := by
  unfold zf_X18_told_J93 at h
  refine zw_aload_n hX dX18_told_93 rfl ?_
  obtain ⟨b15, g, h⟩ := zb_some h
  refine zw_getr hX zl_X18_49 dX18_told_94 g ?_
  obtain ⟨_, gi, h⟩ := zb_some h
  obtain ⟨r17, g, h⟩ := zb_some h
  refine zc_Vi (as := []) hX gi (zt_X13_many (d := d - 1) (by omega) g) zl_X18_611 rfl dX18_told_97 ⟨rfl, rfl, Nat.le_of_ble_eq_true rfl⟩ ⟨by omega, by omega⟩ ?_
  obtain rfl := Option.some.inj h
  exact zw_iret hX hr dX18_told_100 rfl ⟨rfl, rfl⟩
set_option maxHeartbeats 4000000 in
set_option maxRecDepth 100000 in
theorem zt_X18_told_J101 {p : Program} {l : Launch} {e : Env} {R : Room} {s : State} {m : MethodId} {args : Array Value} {below : List Frame} {meth : Method} {c : Code} {V : zm_V} {mc ms d rc rs : Nat} (hX : zm_X p R s m args meth c RX18 "told" cX18_told 2 zk_E V mc ms) (hr : meth.sig.returnType = (some .int)) (hR : R.frames = d ∧ R.locals = 64 * d) (hd : 3 ≤ d) {N : Nat} {a0 : Nat} {out : (Int32 × zm_S)} {S : zm_S} (h : zf_X18_told_J101 N a0 S = some out) : zw p l e R s m args below meth c (vx_MQ below (zm_Qc zk_E V (zo_i out)) (zm_XC zk_E V zo_x) args s mc ms (fun q => V.2.2.2.1 ≤ q)) 2 zk_E V mc ms 101 [(0, .ref a0)] [] S rc rs := by
  unfold zf_X18_told_J101 at h
  refine zw_aload_n hX dX18_told_101 rfl ?_
  obtain ⟨_, gi, h⟩ := zb_some h
  obtain ⟨r19, g, h⟩ := zb_some h
  refine zc_Vi (as := []) hX gi (zt_X18_isReleased (d := d - 1) (by omega) g) zl_X18_414 rfl dX18_told_102 ⟨rfl, rfl, Nat.le_of_ble_eq_true rfl⟩ ⟨by omega, by omega⟩ ?_
  refine zw_if_eq (tgt := 112) hX dX18_told_105 (by decide) (fun c105 => ?_) (fun c105 => ?_)
  · rw [if_pos c105] at h
    refine zw_iconst (v := (0 : Int32)) hX dX18_told_112 (by decide) ?_
    obtain rfl := Option.some.inj h
    exact zw_iret hX hr dX18_told_113 rfl ⟨rfl, rfl⟩
  · rw [if_neg c105] at h
    refine zw_iconst (v := (1 : Int32)) hX dX18_told_108 (by decide) ?_
    refine zw_goto (tgt := 113) hX dX18_told_109 (by decide) ?_
    obtain rfl := Option.some.inj h
    exact zw_iret hX hr dX18_told_113 rfl ⟨rfl, rfl⟩
set_option maxHeartbeats 4000000 in
set_option maxRecDepth 100000 in
theorem zt_X18_told_J114 {p : Program} {l : Launch} {e : Env} {R : Room} {s : State} {m : MethodId} {args : Array Value} {below : List Frame} {meth : Method} {c : Code} {V : zm_V} {mc ms d rc rs : Nat} (hX : zm_X p R s m args meth c RX18 "told" cX18_told 2 zk_E V mc ms) (hr : meth.sig.returnType = (some .int)) (hR : R.frames = d ∧ R.locals = 64 * d) (hd : 3 ≤ d) {N : Nat} {a0 : Nat} {out : (Int32 × zm_S)} {S : zm_S} (h : zf_X18_told_J114 N a0 S = some out) : zw p l e R s m args below meth c (vx_MQ below (zm_Qc zk_E V (zo_i out)) (zm_XC zk_E V zo_x) args s mc ms (fun q => V.2.2.2.1 ≤ q)) 2 zk_E V mc ms 114 [(0, .ref a0)] [] S rc rs := by
  unfold zf_X18_told_J114 at h
  refine zw_aload_n hX dX18_told_114 rfl ?_
  obtain ⟨b20, g, h⟩ := zb_some h
  refine zw_getr hX zl_X18_28 dX18_told_115 g ?_
  refine zw_iconst (v := (1 : Int32)) hX dX18_told_118 (by decide) ?_
  obtain ⟨_, gi, h⟩ := zb_some h
  obtain ⟨r22, g, h⟩ := zb_some h
  refine zc_Vi (as := [.int (1 : Int32)]) hX gi (zt_X14_done (d := d - 1) (by omega) g) zl_X18_404 rfl dX18_told_119 ⟨rfl, rfl, Nat.le_of_ble_eq_true rfl⟩ ⟨by omega, by omega⟩ ?_
  refine zw_if_le (tgt := 129) hX dX18_told_122 (by decide) (fun c122 => ?_) (fun c122 => ?_)
  · rw [if_pos c122] at h
    refine zw_iconst (v := (0 : Int32)) hX dX18_told_129 (by decide) ?_
    obtain rfl := Option.some.inj h
    exact zw_iret hX hr dX18_told_130 rfl ⟨rfl, rfl⟩
  · rw [if_neg c122] at h
    refine zw_iconst (v := (1 : Int32)) hX dX18_told_125 (by decide) ?_
    refine zw_goto (tgt := 130) hX dX18_told_126 (by decide) ?_
    obtain rfl := Option.some.inj h
    exact zw_iret hX hr dX18_told_130 rfl ⟨rfl, rfl⟩
set_option maxHeartbeats 4000000 in
set_option maxRecDepth 100000 in
theorem zt_X18_told_J131 {p : Program} {l : Launch} {e : Env} {R : Room} {s : State} {m : MethodId} {args : Array Value} {below : List Frame} {meth : Method} {c : Code} {V : zm_V} {mc ms d rc rs : Nat} (hX : zm_X p R s m args meth c RX18 "told" cX18_told 2 zk_E V mc ms) (hr : meth.sig.returnType = (some .int)) (hR : R.frames = d ∧ R.locals = 64 * d) (hd : 3 ≤ d) {N : Nat} {a0 : Nat} {out : (Int32 × zm_S)} {S : zm_S} (h : zf_X18_told_J131 N a0 S = some out) : zw p l e R s m args below meth c (vx_MQ below (zm_Qc zk_E V (zo_i out)) (zm_XC zk_E V zo_x) args s mc ms (fun q => V.2.2.2.1 ≤ q)) 2 zk_E V mc ms 131 [(0, .ref a0)] [] S rc rs := by
  unfold zf_X18_told_J131 at h
  refine zw_aload_n hX dX18_told_131 rfl ?_
  obtain ⟨b23, g, h⟩ := zb_some h
  refine zw_getr hX zl_X18_28 dX18_told_132 g ?_
  refine zw_iconst (v := (4 : Int32)) hX dX18_told_135 (by decide) ?_
  obtain ⟨_, gi, h⟩ := zb_some h
  obtain ⟨r25, g, h⟩ := zb_some h
  refine zc_Vi (as := [.int (4 : Int32)]) hX gi (zt_X14_done (d := d - 1) (by omega) g) zl_X18_404 rfl dX18_told_136 ⟨rfl, rfl, Nat.le_of_ble_eq_true rfl⟩ ⟨by omega, by omega⟩ ?_
  refine zw_if_le (tgt := 146) hX dX18_told_139 (by decide) (fun c139 => ?_) (fun c139 => ?_)
  · rw [if_pos c139] at h
    refine zw_iconst (v := (0 : Int32)) hX dX18_told_146 (by decide) ?_
    obtain rfl := Option.some.inj h
    exact zw_iret hX hr dX18_told_147 rfl ⟨rfl, rfl⟩
  · rw [if_neg c139] at h
    refine zw_iconst (v := (1 : Int32)) hX dX18_told_142 (by decide) ?_
    refine zw_goto (tgt := 147) hX dX18_told_143 (by decide) ?_
    obtain rfl := Option.some.inj h
    exact zw_iret hX hr dX18_told_147 rfl ⟨rfl, rfl⟩
set_option maxHeartbeats 4000000 in
set_option maxRecDepth 100000 in
theorem zt_X18_told {l : Launch} {V : zm_V} {N : Nat} {S : zm_S} {out : (Int32 × zm_S)} {d : Nat} {a0 : Nat} {i1 : Int32} (hd : 3 ≤ d) (h : zf_X18_told N a0 i1 S = some out) : zm_Met l zk_E V yX18_told (.code yX18_told cX18_told 2 (some .int)) d [.ref a0, .int i1] S 0 0 (zo_i out) zo_x := by
  refine zm_of (by decide +kernel) (Nat.le_of_ble_eq_true rfl) ?_
  intro p e R s m args below meth c hRR hX hr hxt
  have hR : R.frames = d ∧ R.locals = 64 * d := by rw [hRR]; exact ⟨rfl, rfl⟩
  have hX : zm_X p R s m args meth c RX18 "told" cX18_told 2 zk_E V 0 0 := hX
  unfold zf_X18_told at h
  refine zw_sub (lv' := [(0, .ref a0), (1, .int i1)]) (List.forall_mem_cons.mpr ⟨rfl, (List.forall_mem_cons.mpr ⟨rfl, zs_nil⟩)⟩) ?_
  refine zw_aload_n hX dX18_told_0 rfl ?_
  refine zw_iload_n hX dX18_told_1 rfl ?_
  refine zw_bipush (v := (9 : Int32)) hX dX18_told_2 (by decide) ?_
  obtain ⟨r2, g, h⟩ := zb_some h
  refine zc_Si (as := [.int i1, .int (9 : Int32)]) hX (zt_X18_isIn (d := d - 1) (by omega) g) zl_X18_207 dX18_told_4 ⟨rfl, rfl, Nat.le_of_ble_eq_true rfl⟩ ⟨by omega, by omega⟩ ?_
  refine zw_aload_n hX dX18_told_7 rfl ?_
  obtain ⟨v3, g, h⟩ := zb_some h
  refine zw_geti hX zl_X18_192 dX18_told_8 g ?_
  obtain ⟨_, gi, h⟩ := zb_some h
  obtain ⟨r5, g, h⟩ := zb_some h
  refine zc_Vi (as := [.int r2.1, .int v3]) hX gi (zt_X18_goes (d := d - 1) (by omega) g) zl_X18_199 rfl dX18_told_11 ⟨rfl, rfl, Nat.le_of_ble_eq_true rfl⟩ ⟨by omega, by omega⟩ ?_
  refine zw_if_ne (tgt := 19) hX dX18_told_14 (by decide) (fun c14 => ?_) (fun c14 => ?_)
  · rw [if_neg c14] at h
    refine zw_iload_n hX dX18_told_19 rfl ?_
    by_cases c20_0 : (i1).toInt = 0
    · rw [if_pos c20_0] at h
      refine zw_tableIn (off := 48) (tgt := 68) hX dX18_told_20 (by rw [c20_0]; decide) (by rw [c20_0]; decide) (by rw [c20_0]; decide) (by decide) ?_
      refine zw_aload_n hX dX18_told_68 rfl ?_
      obtain ⟨v7, g, h⟩ := zb_some h
      refine zw_geti hX zl_X18_351 dX18_told_69 g ?_
      obtain rfl := Option.some.inj h
      exact zw_iret hX hr dX18_told_72 rfl ⟨rfl, rfl⟩
    rw [if_neg c20_0] at h
    by_cases c20_1 : (i1).toInt = 1
    · rw [if_pos c20_1] at h
      refine zw_tableIn (off := 53) (tgt := 73) hX dX18_told_20 (by rw [c20_1]; decide) (by rw [c20_1]; decide) (by rw [c20_1]; decide) (by decide) ?_
      refine zw_aload_n hX dX18_told_73 rfl ?_
      obtain ⟨_, gi, h⟩ := zb_some h
      obtain ⟨r9, g, h⟩ := zb_some h
      refine zc_Vi (as := []) hX gi (zt_X18_inSpaces (d := d - 1) (by omega) g) zl_X18_689 rfl dX18_told_74 ⟨rfl, rfl, Nat.le_of_ble_eq_true rfl⟩ ⟨by omega, by omega⟩ ?_
      obtain rfl := Option.some.inj h
      exact zw_iret hX hr dX18_told_77 rfl ⟨rfl, rfl⟩
    rw [if_neg c20_1] at h
    by_cases c20_2 : (i1).toInt = 2
    · rw [if_pos c20_2] at h
      refine zw_tableIn (off := 58) (tgt := 78) hX dX18_told_20 (by rw [c20_2]; decide) (by rw [c20_2]; decide) (by rw [c20_2]; decide) (by decide) ?_
      refine zw_sub (lv' := [(0, .ref a0)]) (List.forall_mem_cons.mpr ⟨rfl, zs_nil⟩) ?_
      exact zt_X18_told_J78 hX hr hR hd h
    rw [if_neg c20_2] at h
    by_cases c20_3 : (i1).toInt = 3
    · rw [if_pos c20_3] at h
      refine zw_tableIn (off := 67) (tgt := 87) hX dX18_told_20 (by rw [c20_3]; decide) (by rw [c20_3]; decide) (by rw [c20_3]; decide) (by decide) ?_
      refine zw_sub (lv' := [(0, .ref a0)]) (List.forall_mem_cons.mpr ⟨rfl, zs_nil⟩) ?_
      exact zt_X18_told_J87 hX hr hR hd h
    rw [if_neg c20_3] at h
    by_cases c20_4 : (i1).toInt = 4
    · rw [if_pos c20_4] at h
      refine zw_tableIn (off := 73) (tgt := 93) hX dX18_told_20 (by rw [c20_4]; decide) (by rw [c20_4]; decide) (by rw [c20_4]; decide) (by decide) ?_
      refine zw_sub (lv' := [(0, .ref a0)]) (List.forall_mem_cons.mpr ⟨rfl, zs_nil⟩) ?_
      exact zt_X18_told_J93 hX hr hR hd h
    rw [if_neg c20_4] at h
    by_cases c20_5 : (i1).toInt = 5
    · rw [if_pos c20_5] at h
      refine zw_tableIn (off := 81) (tgt := 101) hX dX18_told_20 (by rw [c20_5]; decide) (by rw [c20_5]; decide) (by rw [c20_5]; decide) (by decide) ?_
      refine zw_sub (lv' := [(0, .ref a0)]) (List.forall_mem_cons.mpr ⟨rfl, zs_nil⟩) ?_
      exact zt_X18_told_J101 hX hr hR hd h
    rw [if_neg c20_5] at h
    by_cases c20_6 : (i1).toInt = 6
    · rw [if_pos c20_6] at h
      refine zw_tableIn (off := 94) (tgt := 114) hX dX18_told_20 (by rw [c20_6]; decide) (by rw [c20_6]; decide) (by rw [c20_6]; decide) (by decide) ?_
      refine zw_sub (lv' := [(0, .ref a0)]) (List.forall_mem_cons.mpr ⟨rfl, zs_nil⟩) ?_
      exact zt_X18_told_J114 hX hr hR hd h
    rw [if_neg c20_6] at h
    by_cases c20_7 : (i1).toInt = 7
    · rw [if_pos c20_7] at h
      refine zw_tableIn (off := 111) (tgt := 131) hX dX18_told_20 (by rw [c20_7]; decide) (by rw [c20_7]; decide) (by rw [c20_7]; decide) (by decide) ?_
      refine zw_sub (lv' := [(0, .ref a0)]) (List.forall_mem_cons.mpr ⟨rfl, zs_nil⟩) ?_
      exact zt_X18_told_J131 hX hr hR hd h
    rw [if_neg c20_7] at h
    refine zw_tableOut (tgt := 148) hX dX18_told_20 (by omega) (by decide) ?_
    refine zw_aload_n hX dX18_told_148 rfl ?_
    obtain ⟨v6, g, h⟩ := zb_some h
    refine zw_geti hX zl_X18_401 dX18_told_149 g ?_
    obtain rfl := Option.some.inj h
    exact zw_iret hX hr dX18_told_152 rfl ⟨rfl, rfl⟩
  · rw [if_pos c14] at h
    refine zw_iconst (v := (0 : Int32)) hX dX18_told_17 (by decide) ?_
    obtain rfl := Option.some.inj h
    exact zw_iret hX hr dX18_told_18 rfl ⟨rfl, rfl⟩
set_option maxHeartbeats 4000000 in
set_option maxRecDepth 100000 in
theorem zt_X11_init {l : Launch} {V : zm_V} {N : Nat} {S : zm_S} {out : (Unit × zm_S)} {d : Nat} {a0 : Nat} (hd : 3 ≤ d) (h : zf_X11_init N a0 S = some out) : zm_Met l zk_E V yX11_init (.code yX11_init cX11_init 1 none) d [.ref a0] S 2149 32290 (zo_v out) zo_x := by
  refine zm_of (by decide +kernel) (Nat.le_of_ble_eq_true rfl) ?_
  intro p e R s m args below meth c hRR hX hr hxt
  have hR : R.frames = d ∧ R.locals = 64 * d := by rw [hRR]; exact ⟨rfl, rfl⟩
  have hX : zm_X p R s m args meth c RX11 "<init>" cX11_init 1 zk_E V 2149 32290 := hX
  unfold zf_X11_init at h
  refine zw_sub (lv' := [(0, .ref a0)]) (List.forall_mem_cons.mpr ⟨rfl, zs_nil⟩) ?_
  refine zw_aload_n hX dX11_init_0 rfl ?_
  refine zw_objInit hX zl_X11_1.1 zl_X11_1.2.1 zl_X11_1.2.2 dX11_init_1 (by omega) (by show 0 + 12 ≤ R.locals; omega) ?_
  refine zw_aload_n hX dX11_init_4 rfl ?_
  obtain ⟨S1, g, h⟩ := zb_some h
  refine zw_newo (n := 4) hX zl_X11_7 rfl dX11_init_5 (by omega) (by omega) g ?_
  refine zw_dup hX dX11_init_8 rfl ?_
  obtain ⟨r4, g, h⟩ := zb_some h
  refine zw_callIN (as := []) hX zk_ok (zt_X8_init (d := d - 1) (by omega) g) zl_X11_9.1 zl_X11_9.2 rfl dX11_init_9 rfl rfl (Nat.le_of_ble_eq_true rfl) (by omega) (by omega) (by omega) (by omega) ?_ ?_
  · rintro _ _ ⟨rfl, rfl⟩
    obtain ⟨S5, g, h⟩ := zb_some h
    refine zw_putvF hX zl_X11_10 zt_11_0 dX11_init_12 rfl rfl g ?_
    refine zw_aload_n hX dX11_init_15 rfl ?_
    obtain ⟨S6, g, h⟩ := zb_some h
    refine zw_newo (n := 19) hX zl_X11_16 rfl dX11_init_16 (by omega) (by omega) g ?_
    refine zw_dup hX dX11_init_19 rfl ?_
    refine zw_aload_n hX dX11_init_20 rfl ?_
    obtain ⟨b7, g, h⟩ := zb_some h
    refine zw_getr hX zl_X11_10 dX11_init_21 g ?_
    obtain ⟨r10, g, h⟩ := zb_some h
    refine zw_callI (as := [.ref b7]) hX zk_ok (zt_X2_init (d := d - 1) (by omega) g) zl_X11_18.1 zl_X11_18.2 rfl dX11_init_24 rfl rfl (Nat.le_of_ble_eq_true rfl) (by omega) (by omega) (by omega) (by omega) ?_ ?_
    · rintro _ _ ⟨rfl, rfl⟩
      obtain ⟨S11, g, h⟩ := zb_some h
      refine zw_putvF hX zl_X11_21 zt_11_1 dX11_init_27 rfl rfl g ?_
      refine zw_aload_n hX dX11_init_30 rfl ?_
      obtain ⟨S12, g, h⟩ := zb_some h
      refine zw_newo (n := 10) hX zl_X11_25 rfl dX11_init_31 (by omega) (by omega) g ?_
      refine zw_dup hX dX11_init_34 rfl ?_
      obtain ⟨r15, g, h⟩ := zb_some h
      refine zw_callIN (as := []) hX zk_ok (zt_X6_init (d := d - 1) (by omega) g) zl_X11_27.1 zl_X11_27.2 rfl dX11_init_35 rfl rfl (Nat.le_of_ble_eq_true rfl) (by omega) (by omega) (by omega) (by omega) ?_ ?_
      · rintro _ _ ⟨rfl, rfl⟩
        obtain ⟨S16, g, h⟩ := zb_some h
        refine zw_putvF hX zl_X11_28 zt_11_2 dX11_init_38 rfl rfl g ?_
        refine zw_aload_n hX dX11_init_41 rfl ?_
        obtain ⟨S17, g, h⟩ := zb_some h
        refine zw_newo (n := 16) hX zl_X11_32 rfl dX11_init_42 (by omega) (by omega) g ?_
        refine zw_dup hX dX11_init_45 rfl ?_
        obtain ⟨r20, g, h⟩ := zb_some h
        refine zw_callIN (as := []) hX zk_ok (zt_X7_init (d := d - 1) (by omega) g) zl_X11_34.1 zl_X11_34.2 rfl dX11_init_46 rfl rfl (Nat.le_of_ble_eq_true rfl) (by omega) (by omega) (by omega) (by omega) ?_ ?_
        · rintro _ _ ⟨rfl, rfl⟩
          obtain ⟨S21, g, h⟩ := zb_some h
          refine zw_putvF hX zl_X11_35 zt_11_3 dX11_init_49 rfl rfl g ?_
          refine zw_aload_n hX dX11_init_52 rfl ?_
          obtain ⟨S22, g, h⟩ := zb_some h
          refine zw_newo (n := 11) hX zl_X11_39 rfl dX11_init_53 (by omega) (by omega) g ?_
          refine zw_dup hX dX11_init_56 rfl ?_
          refine zw_aload_n hX dX11_init_57 rfl ?_
          obtain ⟨b23, g, h⟩ := zb_some h
          refine zw_getr hX zl_X11_10 dX11_init_58 g ?_
          refine zw_aload_n hX dX11_init_61 rfl ?_
          obtain ⟨b24, g, h⟩ := zb_some h
          refine zw_getr hX zl_X11_21 dX11_init_62 g ?_
          obtain ⟨r27, g, h⟩ := zb_some h
          refine zw_callI (as := [.ref b23, .ref b24]) hX zk_ok (zt_X10_init (d := d - 1) (by omega) g) zl_X11_41.1 zl_X11_41.2 rfl dX11_init_65 rfl rfl (Nat.le_of_ble_eq_true rfl) (by omega) (by omega) (by omega) (by omega) ?_ ?_
          · rintro _ _ ⟨rfl, rfl⟩
            obtain ⟨S28, g, h⟩ := zb_some h
            refine zw_putvF hX zl_X11_44 zt_11_4 dX11_init_68 rfl rfl g ?_
            refine zw_aload_n hX dX11_init_71 rfl ?_
            obtain ⟨S29, g, h⟩ := zb_some h
            refine zw_newo (n := 19) hX zl_X11_48 rfl dX11_init_72 (by omega) (by omega) g ?_
            refine zw_dup hX dX11_init_75 rfl ?_
            refine zw_aload_n hX dX11_init_76 rfl ?_
            obtain ⟨b30, g, h⟩ := zb_some h
            refine zw_getr hX zl_X11_10 dX11_init_77 g ?_
            refine zw_aload_n hX dX11_init_80 rfl ?_
            obtain ⟨b31, g, h⟩ := zb_some h
            refine zw_getr hX zl_X11_21 dX11_init_81 g ?_
            refine zw_aload_n hX dX11_init_84 rfl ?_
            obtain ⟨b32, g, h⟩ := zb_some h
            refine zw_getr hX zl_X11_44 dX11_init_85 g ?_
            obtain ⟨r35, g, h⟩ := zb_some h
            refine zw_callI (as := [.ref b30, .ref b31, .ref b32]) hX zk_ok (zt_X0_init (d := d - 1) (by omega) g) zl_X11_50.1 zl_X11_50.2 rfl dX11_init_88 rfl rfl (Nat.le_of_ble_eq_true rfl) (by omega) (by omega) (by omega) (by omega) ?_ ?_
            · rintro _ _ ⟨rfl, rfl⟩
              obtain ⟨S36, g, h⟩ := zb_some h
              refine zw_putvF hX zl_X11_53 zt_11_5 dX11_init_91 rfl rfl g ?_
              refine zw_aload_n hX dX11_init_94 rfl ?_
              obtain ⟨S37, g, h⟩ := zb_some h
              refine zw_newo (n := 13) hX zl_X11_57 rfl dX11_init_95 (by omega) (by omega) g ?_
              refine zw_dup hX dX11_init_98 rfl ?_
              obtain ⟨r40, g, h⟩ := zb_some h
              refine zw_callIN (as := []) hX zk_ok (zt_X5_init (d := d - 1) (by omega) g) zl_X11_59.1 zl_X11_59.2 rfl dX11_init_99 rfl rfl (Nat.le_of_ble_eq_true rfl) (by omega) (by omega) (by omega) (by omega) ?_ ?_
              · rintro _ _ ⟨rfl, rfl⟩
                obtain ⟨S41, g, h⟩ := zb_some h
                refine zw_putvF hX zl_X11_60 zt_11_6 dX11_init_102 rfl rfl g ?_
                refine zw_aload_n hX dX11_init_105 rfl ?_
                obtain ⟨S42, g, h⟩ := zb_some h
                refine zw_newo (n := 20) hX zl_X11_64 rfl dX11_init_106 (by omega) (by omega) g ?_
                refine zw_dup hX dX11_init_109 rfl ?_
                obtain ⟨r45, g, h⟩ := zb_some h
                refine zw_callIN (as := []) hX zk_ok (zt_X9_init (d := d - 1) (by omega) g) zl_X11_66.1 zl_X11_66.2 rfl dX11_init_110 rfl rfl (Nat.le_of_ble_eq_true rfl) (by omega) (by omega) (by omega) (by omega) ?_ ?_
                · rintro _ _ ⟨rfl, rfl⟩
                  obtain ⟨S46, g, h⟩ := zb_some h
                  refine zw_putvF hX zl_X11_67 zt_11_8 dX11_init_113 rfl rfl g ?_
                  refine zw_aload_n hX dX11_init_116 rfl ?_
                  obtain ⟨S47, g, h⟩ := zb_some h
                  refine zw_newo (n := 20) hX zl_X11_71 rfl dX11_init_117 (by omega) (by omega) g ?_
                  refine zw_dup hX dX11_init_120 rfl ?_
                  refine zw_aload_n hX dX11_init_121 rfl ?_
                  obtain ⟨b48, g, h⟩ := zb_some h
                  refine zw_getr hX zl_X11_67 dX11_init_122 g ?_
                  obtain ⟨r51, g, h⟩ := zb_some h
                  refine zw_callI (as := [.ref b48]) hX zk_ok (zt_X1_init (d := d - 1) (by omega) g) zl_X11_73.1 zl_X11_73.2 rfl dX11_init_125 rfl rfl (Nat.le_of_ble_eq_true rfl) (by omega) (by omega) (by omega) (by omega) ?_ ?_
                  · rintro _ _ ⟨rfl, rfl⟩
                    obtain ⟨S52, g, h⟩ := zb_some h
                    refine zw_putvF hX zl_X11_76 zt_11_9 dX11_init_128 rfl rfl g ?_
                    refine zw_aload_n hX dX11_init_131 rfl ?_
                    obtain ⟨S53, g, h⟩ := zb_some h
                    refine zw_newo (n := 19) hX zl_X11_80 rfl dX11_init_132 (by omega) (by omega) g ?_
                    refine zw_dup hX dX11_init_135 rfl ?_
                    refine zw_aload_n hX dX11_init_136 rfl ?_
                    obtain ⟨b54, g, h⟩ := zb_some h
                    refine zw_getr hX zl_X11_67 dX11_init_137 g ?_
                    refine zw_aload_n hX dX11_init_140 rfl ?_
                    obtain ⟨b55, g, h⟩ := zb_some h
                    refine zw_getr hX zl_X11_76 dX11_init_141 g ?_
                    obtain ⟨r58, g, h⟩ := zb_some h
                    refine zw_callI (as := [.ref b54, .ref b55]) hX zk_ok (zt_X4_init (d := d - 1) (by omega) g) zl_X11_82.1 zl_X11_82.2 rfl dX11_init_144 rfl rfl (Nat.le_of_ble_eq_true rfl) (by omega) (by omega) (by omega) (by omega) ?_ ?_
                    · rintro _ _ ⟨rfl, rfl⟩
                      obtain ⟨S59, g, h⟩ := zb_some h
                      refine zw_putvF hX zl_X11_85 zt_11_7 dX11_init_147 rfl rfl g ?_
                      refine zw_aload_n hX dX11_init_150 rfl ?_
                      obtain ⟨S60, g, h⟩ := zb_some h
                      refine zw_newo (n := 16) hX zl_X11_89 rfl dX11_init_151 (by omega) (by omega) g ?_
                      refine zw_dup hX dX11_init_154 rfl ?_
                      obtain ⟨r63, g, h⟩ := zb_some h
                      refine zw_callIN (as := []) hX zk_ok (zt_X3_init (d := d - 1) (by omega) g) zl_X11_91.1 zl_X11_91.2 rfl dX11_init_155 rfl rfl (Nat.le_of_ble_eq_true rfl) (by omega) (by omega) (by omega) (by omega) ?_ ?_
                      · rintro _ _ ⟨rfl, rfl⟩
                        obtain ⟨S64, g, h⟩ := zb_some h
                        refine zw_putvF hX zl_X11_92 zt_11_10 dX11_init_158 rfl rfl g ?_
                        obtain rfl := Option.some.inj h
                        exact zw_vret hX hr dX11_init_161 ⟨rfl, rfl⟩
                      · intro _ _ hx
                        exact hx.elim
                    · intro _ _ hx
                      exact hx.elim
                  · intro _ _ hx
                    exact hx.elim
                · intro _ _ hx
                  exact hx.elim
              · intro _ _ hx
                exact hx.elim
            · intro _ _ hx
              exact hx.elim
          · intro _ _ hx
            exact hx.elim
        · intro _ _ hx
          exact hx.elim
      · intro _ _ hx
        exact hx.elim
    · intro _ _ hx
      exact hx.elim
  · intro _ _ hx
    exact hx.elim
set_option maxHeartbeats 4000000 in
set_option maxRecDepth 100000 in
theorem zt_X11_isWithin {l : Launch} {V : zm_V} {N : Nat} {S : zm_S} {out : (Int32 × zm_S)} {d : Nat} {i0 : Int32} {i1 : Int32} {i2 : Int32} (hd : 1 ≤ d) (h : zf_X11_isWithin N i0 i1 i2 S = some out) : zm_Met l zk_E V yX11_isWithin (.code yX11_isWithin cX11_isWithin 3 (some .boolean)) d [.int i0, .int i1, .int i2] S 0 0 (zo_i out) zo_x := by
  refine zm_of (by decide +kernel) (Nat.le_of_ble_eq_true rfl) ?_
  intro p e R s m args below meth c hRR hX hr hxt
  have hR : R.frames = d ∧ R.locals = 64 * d := by rw [hRR]; exact ⟨rfl, rfl⟩
  have hX : zm_X p R s m args meth c RX11 "isWithin" cX11_isWithin 3 zk_E V 0 0 := hX
  unfold zf_X11_isWithin at h
  refine zw_sub (lv' := [(0, .int i0), (1, .int i1), (2, .int i2)]) (List.forall_mem_cons.mpr ⟨rfl, (List.forall_mem_cons.mpr ⟨rfl, (List.forall_mem_cons.mpr ⟨rfl, zs_nil⟩)⟩)⟩) ?_
  refine zw_iload_n hX dX11_isWithin_0 rfl ?_
  refine zw_iload_n hX dX11_isWithin_1 rfl ?_
  refine zw_icmp_lt (tgt := 14) hX dX11_isWithin_2 (by decide) (fun c2 => ?_) (fun c2 => ?_)
  · rw [if_pos c2] at h
    refine zw_iconst (v := (0 : Int32)) hX dX11_isWithin_14 (by decide) ?_
    obtain rfl := Option.some.inj h
    exact zw_iret hX hr dX11_isWithin_15 rfl ⟨rfl, rfl⟩
  · rw [if_neg c2] at h
    refine zw_iload_n hX dX11_isWithin_5 rfl ?_
    refine zw_iload_n hX dX11_isWithin_6 rfl ?_
    refine zw_icmp_gt (tgt := 14) hX dX11_isWithin_7 (by decide) (fun c7 => ?_) (fun c7 => ?_)
    · rw [if_pos c7] at h
      refine zw_iconst (v := (0 : Int32)) hX dX11_isWithin_14 (by decide) ?_
      obtain rfl := Option.some.inj h
      exact zw_iret hX hr dX11_isWithin_15 rfl ⟨rfl, rfl⟩
    · rw [if_neg c7] at h
      refine zw_iconst (v := (1 : Int32)) hX dX11_isWithin_10 (by decide) ?_
      refine zw_goto (tgt := 15) hX dX11_isWithin_11 (by decide) ?_
      obtain rfl := Option.some.inj h
      exact zw_iret hX hr dX11_isWithin_15 rfl ⟨rfl, rfl⟩
set_option maxHeartbeats 4000000 in
set_option maxRecDepth 100000 in
theorem zt_X11_isOnPlan {l : Launch} {V : zm_V} {N : Nat} {S : zm_S} {out : (Int32 × zm_S)} {d : Nat} {i0 : Int32} {i1 : Int32} (hd : 2 ≤ d) (h : zf_X11_isOnPlan N i0 i1 S = some out) : zm_Met l zk_E V yX11_isOnPlan (.code yX11_isOnPlan cX11_isOnPlan 2 (some .boolean)) d [.int i0, .int i1] S 0 0 (zo_i out) zo_x := by
  refine zm_of (by decide +kernel) (Nat.le_of_ble_eq_true rfl) ?_
  intro p e R s m args below meth c hRR hX hr hxt
  have hR : R.frames = d ∧ R.locals = 64 * d := by rw [hRR]; exact ⟨rfl, rfl⟩
  have hX : zm_X p R s m args meth c RX11 "isOnPlan" cX11_isOnPlan 2 zk_E V 0 0 := hX
  unfold zf_X11_isOnPlan at h
  refine zw_sub (lv' := [(0, .int i0), (1, .int i1)]) (List.forall_mem_cons.mpr ⟨rfl, (List.forall_mem_cons.mpr ⟨rfl, zs_nil⟩)⟩) ?_
  refine zw_iload_n hX dX11_isOnPlan_0 rfl ?_
  refine zw_iconst (v := (0 : Int32)) hX dX11_isOnPlan_1 (by decide) ?_
  refine zw_bipush (v := (24 : Int32)) hX dX11_isOnPlan_2 (by decide) ?_
  obtain ⟨r2, g, h⟩ := zb_some h
  refine zc_Si (as := [.int i0, .int (0 : Int32), .int (24 : Int32)]) hX (zt_X11_isWithin (d := d - 1) (by omega) g) zl_X11_133 dX11_isOnPlan_4 ⟨rfl, rfl, Nat.le_of_ble_eq_true rfl⟩ ⟨by omega, by omega⟩ ?_
  refine zw_if_eq (tgt := 24) hX dX11_isOnPlan_7 (by decide) (fun c7 => ?_) (fun c7 => ?_)
  · rw [if_pos c7] at h
    refine zw_iconst (v := (0 : Int32)) hX dX11_isOnPlan_24 (by decide) ?_
    obtain rfl := Option.some.inj h
    exact zw_iret hX hr dX11_isOnPlan_25 rfl ⟨rfl, rfl⟩
  · rw [if_neg c7] at h
    refine zw_iload_n hX dX11_isOnPlan_10 rfl ?_
    refine zw_iconst (v := (0 : Int32)) hX dX11_isOnPlan_11 (by decide) ?_
    refine zw_bipush (v := (24 : Int32)) hX dX11_isOnPlan_12 (by decide) ?_
    obtain ⟨r4, g, h⟩ := zb_some h
    refine zc_Si (as := [.int i1, .int (0 : Int32), .int (24 : Int32)]) hX (zt_X11_isWithin (d := d - 1) (by omega) g) zl_X11_133 dX11_isOnPlan_14 ⟨rfl, rfl, Nat.le_of_ble_eq_true rfl⟩ ⟨by omega, by omega⟩ ?_
    refine zw_if_eq (tgt := 24) hX dX11_isOnPlan_17 (by decide) (fun c17 => ?_) (fun c17 => ?_)
    · rw [if_pos c17] at h
      refine zw_iconst (v := (0 : Int32)) hX dX11_isOnPlan_24 (by decide) ?_
      obtain rfl := Option.some.inj h
      exact zw_iret hX hr dX11_isOnPlan_25 rfl ⟨rfl, rfl⟩
    · rw [if_neg c17] at h
      refine zw_iconst (v := (1 : Int32)) hX dX11_isOnPlan_20 (by decide) ?_
      refine zw_goto (tgt := 25) hX dX11_isOnPlan_21 (by decide) ?_
      obtain rfl := Option.some.inj h
      exact zw_iret hX hr dX11_isOnPlan_25 rfl ⟨rfl, rfl⟩
set_option maxHeartbeats 4000000 in
set_option maxRecDepth 100000 in
theorem zt_X11_line_J81 {p : Program} {l : Launch} {e : Env} {R : Room} {s : State} {m : MethodId} {args : Array Value} {below : List Frame} {meth : Method} {c : Code} {V : zm_V} {mc ms d rc rs : Nat} (hlt : l.stackTraces = false) (hxt : ∀ x ∈ c.exceptionTable.toList, False) (hX : zm_X p R s m args meth c RX11 "line" cX11_line 6 zk_E V mc ms) (hr : meth.sig.returnType = (some .int)) (hR : R.frames = d ∧ R.locals = 64 * d) (hd : 7 ≤ d) {N : Nat} {a0 : Nat} {i1 : Int32} {i2 : Int32} {i3 : Int32} {i4 : Int32} {t0 : Int32} {out : ((Int32 ⊕ String) × zm_S)} (hc : 1 ≤ rc ∧ 6 ≤ rs) {S : zm_S} (h : zf_X11_line_J81 N a0 i1 i2 i3 i4 t0 S = some out) : zw p l e R s m args below meth c (vx_MQ below (zm_Qc zk_E V (zq_i out)) (zm_XC zk_E V (zq_x out)) args s mc ms (fun q => V.2.2.2.1 ≤ q)) 6 zk_E V mc ms 81 [(0, .ref a0), (1, .int i1), (2, .int i2), (3, .int i3), (4, .int i4)] [.int t0] S rc rs := by
  unfold zf_X11_line_J81 at h
  obtain ⟨r, g, h⟩ := zb_some h
  refine zc_S (as := [.int t0]) hX (zt_X11_needState hlt (d := d - 1) (by omega) g) zl_X11_112 dX11_line_81 ⟨rfl, rfl, Nat.le_of_ble_eq_true rfl⟩ ⟨by omega, by omega⟩ ⟨by omega, by omega⟩ ?_ ?_
  · rintro _ S9 ⟨⟨u8, rfl⟩, rfl⟩
    try dsimp only at h
    refine zw_aload_n hX dX11_line_84 rfl ?_
    obtain ⟨b10, g, h⟩ := zb_some h
    refine zw_getr hX zl_X11_10 dX11_line_85 g ?_
    refine zw_iload_n hX dX11_line_88 rfl ?_
    refine zw_iload_n hX dX11_line_89 rfl ?_
    refine zw_iload_n hX dX11_line_90 rfl ?_
    refine zw_iload hX dX11_line_91 rfl ?_
    obtain ⟨_, gi, h⟩ := zb_some h
    obtain ⟨r12, g, h⟩ := zb_some h
    refine zc_Vi (as := [.int i1, .int i2, .int i3, .int i4]) hX gi (zt_X8_addLine (d := d - 1) (by omega) g) zl_X11_115 rfl dX11_line_93 ⟨rfl, rfl, Nat.le_of_ble_eq_true rfl⟩ ⟨by omega, by omega⟩ ?_
    refine zw_istore hX dX11_line_96 (by decide) ?_
    refine zw_iload hX dX11_line_98 rfl ?_
    refine zw_iconst (v := (-1 : Int32)) hX dX11_line_100 (by decide) ?_
    refine zw_icmp_eq (tgt := 112) hX dX11_line_101 (by decide) (fun c101 => ?_) (fun c101 => ?_)
    · rw [if_pos c101] at h
      refine zw_iload hX dX11_line_112 rfl ?_
      obtain rfl := Option.some.inj h
      exact zw_iret hX hr dX11_line_114 rfl ⟨_, rfl, rfl⟩
    · rw [if_neg c101] at h
      refine zw_aload_n hX dX11_line_104 rfl ?_
      obtain ⟨b13, g, h⟩ := zb_some h
      refine zw_getr hX zl_X11_21 dX11_line_105 g ?_
      refine zw_iconst (v := (0 : Int32)) hX dX11_line_108 (by decide) ?_
      obtain ⟨S14, g, h⟩ := zb_some h
      refine zw_putvN hX zl_X11_119 zt_2_2 dX11_line_109 rfl (by decide) g ?_
      refine zw_iload hX dX11_line_112 rfl ?_
      obtain rfl := Option.some.inj h
      exact zw_iret hX hr dX11_line_114 rfl ⟨_, rfl, rfl⟩
  · rintro X S9 rfl
    obtain rfl := Option.some.inj h
    exact zx_out hX hxt rfl
set_option maxHeartbeats 4000000 in
set_option maxRecDepth 100000 in
theorem zt_X11_line_J80 {p : Program} {l : Launch} {e : Env} {R : Room} {s : State} {m : MethodId} {args : Array Value} {below : List Frame} {meth : Method} {c : Code} {V : zm_V} {mc ms d rc rs : Nat} (hlt : l.stackTraces = false) (hxt : ∀ x ∈ c.exceptionTable.toList, False) (hX : zm_X p R s m args meth c RX11 "line" cX11_line 6 zk_E V mc ms) (hr : meth.sig.returnType = (some .int)) (hR : R.frames = d ∧ R.locals = 64 * d) (hd : 7 ≤ d) {N : Nat} {a0 : Nat} {i1 : Int32} {i2 : Int32} {i3 : Int32} {i4 : Int32} {out : ((Int32 ⊕ String) × zm_S)} (hc : 1 ≤ rc ∧ 6 ≤ rs) {S : zm_S} (h : zf_X11_line_J80 N a0 i1 i2 i3 i4 S = some out) : zw p l e R s m args below meth c (vx_MQ below (zm_Qc zk_E V (zq_i out)) (zm_XC zk_E V (zq_x out)) args s mc ms (fun q => V.2.2.2.1 ≤ q)) 6 zk_E V mc ms 80 [(0, .ref a0), (1, .int i1), (2, .int i2), (3, .int i3), (4, .int i4)] [] S rc rs := by
  unfold zf_X11_line_J80 at h
  refine zw_iconst (v := (0 : Int32)) hX dX11_line_80 (by decide) ?_
  refine zw_sub (lv' := [(0, .ref a0), (1, .int i1), (2, .int i2), (3, .int i3), (4, .int i4)]) (List.forall_mem_cons.mpr ⟨rfl, (List.forall_mem_cons.mpr ⟨rfl, (List.forall_mem_cons.mpr ⟨rfl, (List.forall_mem_cons.mpr ⟨rfl, (List.forall_mem_cons.mpr ⟨rfl, zs_nil⟩)⟩)⟩)⟩)⟩) ?_
  exact zt_X11_line_J81 hlt hxt hX hr hR hd ⟨by omega, by omega⟩ h
set_option maxHeartbeats 4000000 in
set_option maxRecDepth 100000 in
theorem zt_X11_line_J54 {p : Program} {l : Launch} {e : Env} {R : Room} {s : State} {m : MethodId} {args : Array Value} {below : List Frame} {meth : Method} {c : Code} {V : zm_V} {mc ms d rc rs : Nat} (hlt : l.stackTraces = false) (hxt : ∀ x ∈ c.exceptionTable.toList, False) (hX : zm_X p R s m args meth c RX11 "line" cX11_line 6 zk_E V mc ms) (hr : meth.sig.returnType = (some .int)) (hR : R.frames = d ∧ R.locals = 64 * d) (hd : 7 ≤ d) {N : Nat} {a0 : Nat} {i1 : Int32} {i2 : Int32} {i3 : Int32} {i4 : Int32} {t0 : Int32} {out : ((Int32 ⊕ String) × zm_S)} (hc : 2 ≤ rc ∧ 12 ≤ rs) {S : zm_S} (h : zf_X11_line_J54 N a0 i1 i2 i3 i4 t0 S = some out) : zw p l e R s m args below meth c (vx_MQ below (zm_Qc zk_E V (zq_i out)) (zm_XC zk_E V (zq_x out)) args s mc ms (fun q => V.2.2.2.1 ≤ q)) 6 zk_E V mc ms 54 [(0, .ref a0), (1, .int i1), (2, .int i2), (3, .int i3), (4, .int i4)] [.int t0] S rc rs := by
  unfold zf_X11_line_J54 at h
  obtain ⟨r, g, h⟩ := zb_some h
  refine zc_S (as := [.int t0]) hX (zt_X11_needArgument hlt (d := d - 1) (by omega) g) zl_X11_100 dX11_line_54 ⟨rfl, rfl, Nat.le_of_ble_eq_true rfl⟩ ⟨by omega, by omega⟩ ⟨by omega, by omega⟩ ?_ ?_
  · rintro _ S6 ⟨⟨u5, rfl⟩, rfl⟩
    try dsimp only at h
    refine zw_aload_n hX dX11_line_57 rfl ?_
    obtain ⟨v7, g, h⟩ := zb_some h
    refine zw_geti hX zl_X11_104 dX11_line_58 g ?_
    refine zw_if_ne (tgt := 80) hX dX11_line_61 (by decide) (fun c61 => ?_) (fun c61 => ?_)
    · rw [if_neg c61] at h
      refine zw_sub (lv' := [(0, .ref a0), (1, .int i1), (2, .int i2), (3, .int i3), (4, .int i4)]) (List.forall_mem_cons.mpr ⟨rfl, (List.forall_mem_cons.mpr ⟨rfl, (List.forall_mem_cons.mpr ⟨rfl, (List.forall_mem_cons.mpr ⟨rfl, (List.forall_mem_cons.mpr ⟨rfl, zs_nil⟩)⟩)⟩)⟩)⟩) ?_
      exact zt_X11_line_J80 hlt hxt hX hr hR hd ⟨by omega, by omega⟩ h
    · rw [if_pos c61] at h
      refine zw_aload_n hX dX11_line_64 rfl ?_
      obtain ⟨b15, g, h⟩ := zb_some h
      refine zw_getr hX zl_X11_10 dX11_line_65 g ?_
      obtain ⟨v16, g, h⟩ := zb_some h
      refine zw_getNi hX zl_X11_108 dX11_line_68 g ?_
      refine zw_bipush (v := (20 : Int32)) hX dX11_line_71 (by decide) ?_
      refine zw_icmp_ge (tgt := 80) hX dX11_line_73 (by decide) (fun c73 => ?_) (fun c73 => ?_)
      · rw [if_pos c73] at h
        refine zw_sub (lv' := [(0, .ref a0), (1, .int i1), (2, .int i2), (3, .int i3), (4, .int i4)]) (List.forall_mem_cons.mpr ⟨rfl, (List.forall_mem_cons.mpr ⟨rfl, (List.forall_mem_cons.mpr ⟨rfl, (List.forall_mem_cons.mpr ⟨rfl, (List.forall_mem_cons.mpr ⟨rfl, zs_nil⟩)⟩)⟩)⟩)⟩) ?_
        exact zt_X11_line_J80 hlt hxt hX hr hR hd ⟨by omega, by omega⟩ h
      · rw [if_neg c73] at h
        refine zw_iconst (v := (1 : Int32)) hX dX11_line_76 (by decide) ?_
        refine zw_goto (tgt := 81) hX dX11_line_77 (by decide) ?_
        refine zw_sub (lv' := [(0, .ref a0), (1, .int i1), (2, .int i2), (3, .int i3), (4, .int i4)]) (List.forall_mem_cons.mpr ⟨rfl, (List.forall_mem_cons.mpr ⟨rfl, (List.forall_mem_cons.mpr ⟨rfl, (List.forall_mem_cons.mpr ⟨rfl, (List.forall_mem_cons.mpr ⟨rfl, zs_nil⟩)⟩)⟩)⟩)⟩) ?_
        exact zt_X11_line_J81 hlt hxt hX hr hR hd ⟨by omega, by omega⟩ h
  · rintro X S9 rfl
    obtain rfl := Option.some.inj h
    exact zx_out hX hxt rfl
set_option maxHeartbeats 4000000 in
set_option maxRecDepth 100000 in
theorem zt_X11_line_J46 {p : Program} {l : Launch} {e : Env} {R : Room} {s : State} {m : MethodId} {args : Array Value} {below : List Frame} {meth : Method} {c : Code} {V : zm_V} {mc ms d rc rs : Nat} (hlt : l.stackTraces = false) (hxt : ∀ x ∈ c.exceptionTable.toList, False) (hX : zm_X p R s m args meth c RX11 "line" cX11_line 6 zk_E V mc ms) (hr : meth.sig.returnType = (some .int)) (hR : R.frames = d ∧ R.locals = 64 * d) (hd : 7 ≤ d) {N : Nat} {a0 : Nat} {i1 : Int32} {i2 : Int32} {i3 : Int32} {i4 : Int32} {t0 : Int32} {t1 : Int32} {out : ((Int32 ⊕ String) × zm_S)} (hc : 2 ≤ rc ∧ 12 ≤ rs) {S : zm_S} (h : zf_X11_line_J46 N a0 i1 i2 i3 i4 t0 t1 S = some out) : zw p l e R s m args below meth c (vx_MQ below (zm_Qc zk_E V (zq_i out)) (zm_XC zk_E V (zq_x out)) args s mc ms (fun q => V.2.2.2.1 ≤ q)) 6 zk_E V mc ms 46 [(0, .ref a0), (1, .int i1), (2, .int i2), (3, .int i3), (4, .int i4)] [.int t1, .int t0] S rc rs := by
  unfold zf_X11_line_J46 at h
  refine zw_icmp_eq (tgt := 53) hX dX11_line_46 (by decide) (fun c46 => ?_) (fun c46 => ?_)
  · rw [if_pos c46] at h
    refine zw_iconst (v := (0 : Int32)) hX dX11_line_53 (by decide) ?_
    refine zw_sub (lv' := [(0, .ref a0), (1, .int i1), (2, .int i2), (3, .int i3), (4, .int i4)]) (List.forall_mem_cons.mpr ⟨rfl, (List.forall_mem_cons.mpr ⟨rfl, (List.forall_mem_cons.mpr ⟨rfl, (List.forall_mem_cons.mpr ⟨rfl, (List.forall_mem_cons.mpr ⟨rfl, zs_nil⟩)⟩)⟩)⟩)⟩) ?_
    exact zt_X11_line_J54 hlt hxt hX hr hR hd ⟨by omega, by omega⟩ h
  · rw [if_neg c46] at h
    refine zw_iconst (v := (1 : Int32)) hX dX11_line_49 (by decide) ?_
    refine zw_goto (tgt := 54) hX dX11_line_50 (by decide) ?_
    refine zw_sub (lv' := [(0, .ref a0), (1, .int i1), (2, .int i2), (3, .int i3), (4, .int i4)]) (List.forall_mem_cons.mpr ⟨rfl, (List.forall_mem_cons.mpr ⟨rfl, (List.forall_mem_cons.mpr ⟨rfl, (List.forall_mem_cons.mpr ⟨rfl, (List.forall_mem_cons.mpr ⟨rfl, zs_nil⟩)⟩)⟩)⟩)⟩) ?_
    exact zt_X11_line_J54 hlt hxt hX hr hR hd ⟨by omega, by omega⟩ h
set_option maxHeartbeats 4000000 in
set_option maxRecDepth 100000 in
theorem zt_X11_line_J35 {p : Program} {l : Launch} {e : Env} {R : Room} {s : State} {m : MethodId} {args : Array Value} {below : List Frame} {meth : Method} {c : Code} {V : zm_V} {mc ms d rc rs : Nat} (hlt : l.stackTraces = false) (hxt : ∀ x ∈ c.exceptionTable.toList, False) (hX : zm_X p R s m args meth c RX11 "line" cX11_line 6 zk_E V mc ms) (hr : meth.sig.returnType = (some .int)) (hR : R.frames = d ∧ R.locals = 64 * d) (hd : 7 ≤ d) {N : Nat} {a0 : Nat} {i1 : Int32} {i2 : Int32} {i3 : Int32} {i4 : Int32} {t0 : Int32} {out : ((Int32 ⊕ String) × zm_S)} (hc : 2 ≤ rc ∧ 12 ≤ rs) {S : zm_S} (h : zf_X11_line_J35 N a0 i1 i2 i3 i4 t0 S = some out) : zw p l e R s m args below meth c (vx_MQ below (zm_Qc zk_E V (zq_i out)) (zm_XC zk_E V (zq_x out)) args s mc ms (fun q => V.2.2.2.1 ≤ q)) 6 zk_E V mc ms 35 [(0, .ref a0), (1, .int i1), (2, .int i2), (3, .int i3), (4, .int i4)] [.int t0] S rc rs := by
  unfold zf_X11_line_J35 at h
  refine zw_iload_n hX dX11_line_35 rfl ?_
  refine zw_iload hX dX11_line_36 rfl ?_
  refine zw_icmp_ne (tgt := 45) hX dX11_line_38 (by decide) (fun c38 => ?_) (fun c38 => ?_)
  · rw [if_neg c38] at h
    refine zw_iconst (v := (0 : Int32)) hX dX11_line_45 (by decide) ?_
    refine zw_sub (lv' := [(0, .ref a0), (1, .int i1), (2, .int i2), (3, .int i3), (4, .int i4)]) (List.forall_mem_cons.mpr ⟨rfl, (List.forall_mem_cons.mpr ⟨rfl, (List.forall_mem_cons.mpr ⟨rfl, (List.forall_mem_cons.mpr ⟨rfl, (List.forall_mem_cons.mpr ⟨rfl, zs_nil⟩)⟩)⟩)⟩)⟩) ?_
    exact zt_X11_line_J46 hlt hxt hX hr hR hd ⟨by omega, by omega⟩ h
  · rw [if_pos c38] at h
    refine zw_iconst (v := (1 : Int32)) hX dX11_line_41 (by decide) ?_
    refine zw_goto (tgt := 46) hX dX11_line_42 (by decide) ?_
    refine zw_sub (lv' := [(0, .ref a0), (1, .int i1), (2, .int i2), (3, .int i3), (4, .int i4)]) (List.forall_mem_cons.mpr ⟨rfl, (List.forall_mem_cons.mpr ⟨rfl, (List.forall_mem_cons.mpr ⟨rfl, (List.forall_mem_cons.mpr ⟨rfl, (List.forall_mem_cons.mpr ⟨rfl, zs_nil⟩)⟩)⟩)⟩)⟩) ?_
    exact zt_X11_line_J46 hlt hxt hX hr hR hd ⟨by omega, by omega⟩ h
set_option maxHeartbeats 4000000 in
set_option maxRecDepth 100000 in
theorem zt_X11_line_J22 {p : Program} {l : Launch} {e : Env} {R : Room} {s : State} {m : MethodId} {args : Array Value} {below : List Frame} {meth : Method} {c : Code} {V : zm_V} {mc ms d rc rs : Nat} (hlt : l.stackTraces = false) (hxt : ∀ x ∈ c.exceptionTable.toList, False) (hX : zm_X p R s m args meth c RX11 "line" cX11_line 6 zk_E V mc ms) (hr : meth.sig.returnType = (some .int)) (hR : R.frames = d ∧ R.locals = 64 * d) (hd : 7 ≤ d) {N : Nat} {a0 : Nat} {i1 : Int32} {i2 : Int32} {i3 : Int32} {i4 : Int32} {t0 : Int32} {out : ((Int32 ⊕ String) × zm_S)} (hc : 3 ≤ rc ∧ 18 ≤ rs) {S : zm_S} (h : zf_X11_line_J22 N a0 i1 i2 i3 i4 t0 S = some out) : zw p l e R s m args below meth c (vx_MQ below (zm_Qc zk_E V (zq_i out)) (zm_XC zk_E V (zq_x out)) args s mc ms (fun q => V.2.2.2.1 ≤ q)) 6 zk_E V mc ms 22 [(0, .ref a0), (1, .int i1), (2, .int i2), (3, .int i3), (4, .int i4)] [.int t0] S rc rs := by
  unfold zf_X11_line_J22 at h
  obtain ⟨r, g, h⟩ := zb_some h
  refine zc_S (as := [.int t0]) hX (zt_X11_needArgument hlt (d := d - 1) (by omega) g) zl_X11_100 dX11_line_22 ⟨rfl, rfl, Nat.le_of_ble_eq_true rfl⟩ ⟨by omega, by omega⟩ ⟨by omega, by omega⟩ ?_ ?_
  · rintro _ S4 ⟨⟨u3, rfl⟩, rfl⟩
    try dsimp only at h
    refine zw_iload_n hX dX11_line_25 rfl ?_
    refine zw_iload_n hX dX11_line_26 rfl ?_
    refine zw_icmp_ne (tgt := 34) hX dX11_line_27 (by decide) (fun c27 => ?_) (fun c27 => ?_)
    · rw [if_neg c27] at h
      refine zw_iconst (v := (0 : Int32)) hX dX11_line_34 (by decide) ?_
      refine zw_sub (lv' := [(0, .ref a0), (1, .int i1), (2, .int i2), (3, .int i3), (4, .int i4)]) (List.forall_mem_cons.mpr ⟨rfl, (List.forall_mem_cons.mpr ⟨rfl, (List.forall_mem_cons.mpr ⟨rfl, (List.forall_mem_cons.mpr ⟨rfl, (List.forall_mem_cons.mpr ⟨rfl, zs_nil⟩)⟩)⟩)⟩)⟩) ?_
      exact zt_X11_line_J35 hlt hxt hX hr hR hd ⟨by omega, by omega⟩ h
    · rw [if_pos c27] at h
      refine zw_iconst (v := (1 : Int32)) hX dX11_line_30 (by decide) ?_
      refine zw_goto (tgt := 35) hX dX11_line_31 (by decide) ?_
      refine zw_sub (lv' := [(0, .ref a0), (1, .int i1), (2, .int i2), (3, .int i3), (4, .int i4)]) (List.forall_mem_cons.mpr ⟨rfl, (List.forall_mem_cons.mpr ⟨rfl, (List.forall_mem_cons.mpr ⟨rfl, (List.forall_mem_cons.mpr ⟨rfl, (List.forall_mem_cons.mpr ⟨rfl, zs_nil⟩)⟩)⟩)⟩)⟩) ?_
      exact zt_X11_line_J35 hlt hxt hX hr hR hd ⟨by omega, by omega⟩ h
  · rintro X S9 rfl
    obtain rfl := Option.some.inj h
    exact zx_out hX hxt rfl
set_option maxHeartbeats 4000000 in
set_option maxRecDepth 100000 in
theorem zt_X11_line_J21 {p : Program} {l : Launch} {e : Env} {R : Room} {s : State} {m : MethodId} {args : Array Value} {below : List Frame} {meth : Method} {c : Code} {V : zm_V} {mc ms d rc rs : Nat} (hlt : l.stackTraces = false) (hxt : ∀ x ∈ c.exceptionTable.toList, False) (hX : zm_X p R s m args meth c RX11 "line" cX11_line 6 zk_E V mc ms) (hr : meth.sig.returnType = (some .int)) (hR : R.frames = d ∧ R.locals = 64 * d) (hd : 7 ≤ d) {N : Nat} {a0 : Nat} {i1 : Int32} {i2 : Int32} {i3 : Int32} {i4 : Int32} {out : ((Int32 ⊕ String) × zm_S)} (hc : 3 ≤ rc ∧ 18 ≤ rs) {S : zm_S} (h : zf_X11_line_J21 N a0 i1 i2 i3 i4 S = some out) : zw p l e R s m args below meth c (vx_MQ below (zm_Qc zk_E V (zq_i out)) (zm_XC zk_E V (zq_x out)) args s mc ms (fun q => V.2.2.2.1 ≤ q)) 6 zk_E V mc ms 21 [(0, .ref a0), (1, .int i1), (2, .int i2), (3, .int i3), (4, .int i4)] [] S rc rs := by
  unfold zf_X11_line_J21 at h
  refine zw_iconst (v := (0 : Int32)) hX dX11_line_21 (by decide) ?_
  refine zw_sub (lv' := [(0, .ref a0), (1, .int i1), (2, .int i2), (3, .int i3), (4, .int i4)]) (List.forall_mem_cons.mpr ⟨rfl, (List.forall_mem_cons.mpr ⟨rfl, (List.forall_mem_cons.mpr ⟨rfl, (List.forall_mem_cons.mpr ⟨rfl, (List.forall_mem_cons.mpr ⟨rfl, zs_nil⟩)⟩)⟩)⟩)⟩) ?_
  exact zt_X11_line_J22 hlt hxt hX hr hR hd ⟨by omega, by omega⟩ h
set_option maxHeartbeats 4000000 in
set_option maxRecDepth 100000 in
theorem zt_X11_line {l : Launch} {V : zm_V} (hlt : l.stackTraces = false) {N : Nat} {S : zm_S} {out : ((Int32 ⊕ String) × zm_S)} {d : Nat} {a0 : Nat} {i1 : Int32} {i2 : Int32} {i3 : Int32} {i4 : Int32} (hd : 7 ≤ d) (h : zf_X11_line N a0 i1 i2 i3 i4 S = some out) : zm_Met l zk_E V yX11_line (.code yX11_line cX11_line 6 (some .int)) d [.ref a0, .int i1, .int i2, .int i3, .int i4] S 3 18 (zq_i out) (zq_x out) := by
  refine zm_of (by decide +kernel) (Nat.le_of_ble_eq_true rfl) ?_
  intro p e R s m args below meth c hRR hX hr hxt
  have hR : R.frames = d ∧ R.locals = 64 * d := by rw [hRR]; exact ⟨rfl, rfl⟩
  have hX : zm_X p R s m args meth c RX11 "line" cX11_line 6 zk_E V 3 18 := hX
  unfold zf_X11_line at h
  refine zw_sub (lv' := [(0, .ref a0), (1, .int i1), (2, .int i2), (3, .int i3), (4, .int i4)]) (List.forall_mem_cons.mpr ⟨rfl, (List.forall_mem_cons.mpr ⟨rfl, (List.forall_mem_cons.mpr ⟨rfl, (List.forall_mem_cons.mpr ⟨rfl, (List.forall_mem_cons.mpr ⟨rfl, zs_nil⟩)⟩)⟩)⟩)⟩) ?_
  refine zw_iload_n hX dX11_line_0 rfl ?_
  refine zw_iload_n hX dX11_line_1 rfl ?_
  obtain ⟨r2, g, h⟩ := zb_some h
  refine zc_Si (as := [.int i1, .int i2]) hX (zt_X11_isOnPlan (d := d - 1) (by omega) g) zl_X11_96 dX11_line_2 ⟨rfl, rfl, Nat.le_of_ble_eq_true rfl⟩ ⟨by omega, by omega⟩ ?_
  refine zw_if_eq (tgt := 21) hX dX11_line_5 (by decide) (fun c5 => ?_) (fun c5 => ?_)
  · rw [if_pos c5] at h
    refine zw_sub (lv' := [(0, .ref a0), (1, .int i1), (2, .int i2), (3, .int i3), (4, .int i4)]) (List.forall_mem_cons.mpr ⟨rfl, (List.forall_mem_cons.mpr ⟨rfl, (List.forall_mem_cons.mpr ⟨rfl, (List.forall_mem_cons.mpr ⟨rfl, (List.forall_mem_cons.mpr ⟨rfl, zs_nil⟩)⟩)⟩)⟩)⟩) ?_
    exact zt_X11_line_J21 hlt hxt hX hr hR hd ⟨by omega, by omega⟩ h
  · rw [if_neg c5] at h
    refine zw_iload_n hX dX11_line_8 rfl ?_
    refine zw_iload hX dX11_line_9 rfl ?_
    obtain ⟨r18, g, h⟩ := zb_some h
    refine zc_Si (as := [.int i3, .int i4]) hX (zt_X11_isOnPlan (d := d - 1) (by omega) g) zl_X11_96 dX11_line_11 ⟨rfl, rfl, Nat.le_of_ble_eq_true rfl⟩ ⟨by omega, by omega⟩ ?_
    refine zw_if_eq (tgt := 21) hX dX11_line_14 (by decide) (fun c14 => ?_) (fun c14 => ?_)
    · rw [if_pos c14] at h
      refine zw_sub (lv' := [(0, .ref a0), (1, .int i1), (2, .int i2), (3, .int i3), (4, .int i4)]) (List.forall_mem_cons.mpr ⟨rfl, (List.forall_mem_cons.mpr ⟨rfl, (List.forall_mem_cons.mpr ⟨rfl, (List.forall_mem_cons.mpr ⟨rfl, (List.forall_mem_cons.mpr ⟨rfl, zs_nil⟩)⟩)⟩)⟩)⟩) ?_
      exact zt_X11_line_J21 hlt hxt hX hr hR hd ⟨by omega, by omega⟩ h
    · rw [if_neg c14] at h
      refine zw_iconst (v := (1 : Int32)) hX dX11_line_17 (by decide) ?_
      refine zw_goto (tgt := 22) hX dX11_line_18 (by decide) ?_
      refine zw_sub (lv' := [(0, .ref a0), (1, .int i1), (2, .int i2), (3, .int i3), (4, .int i4)]) (List.forall_mem_cons.mpr ⟨rfl, (List.forall_mem_cons.mpr ⟨rfl, (List.forall_mem_cons.mpr ⟨rfl, (List.forall_mem_cons.mpr ⟨rfl, (List.forall_mem_cons.mpr ⟨rfl, zs_nil⟩)⟩)⟩)⟩)⟩) ?_
      exact zt_X11_line_J22 hlt hxt hX hr hR hd ⟨by omega, by omega⟩ h
set_option maxHeartbeats 4000000 in
set_option maxRecDepth 100000 in
theorem zt_X11_isLine {l : Launch} {V : zm_V} {N : Nat} {S : zm_S} {out : (Int32 × zm_S)} {d : Nat} {a0 : Nat} {i1 : Int32} (hd : 2 ≤ d) (h : zf_X11_isLine N a0 i1 S = some out) : zm_Met l zk_E V yX11_isLine (.code yX11_isLine cX11_isLine 2 (some .boolean)) d [.ref a0, .int i1] S 0 0 (zo_i out) zo_x := by
  refine zm_of (by decide +kernel) (Nat.le_of_ble_eq_true rfl) ?_
  intro p e R s m args below meth c hRR hX hr hxt
  have hR : R.frames = d ∧ R.locals = 64 * d := by rw [hRR]; exact ⟨rfl, rfl⟩
  have hX : zm_X p R s m args meth c RX11 "isLine" cX11_isLine 2 zk_E V 0 0 := hX
  unfold zf_X11_isLine at h
  refine zw_sub (lv' := [(0, .ref a0), (1, .int i1)]) (List.forall_mem_cons.mpr ⟨rfl, (List.forall_mem_cons.mpr ⟨rfl, zs_nil⟩)⟩) ?_
  refine zw_iload_n hX dX11_isLine_0 rfl ?_
  refine zw_iconst (v := (0 : Int32)) hX dX11_isLine_1 (by decide) ?_
  refine zw_aload_n hX dX11_isLine_2 rfl ?_
  obtain ⟨b1, g, h⟩ := zb_some h
  refine zw_getr hX zl_X11_10 dX11_isLine_3 g ?_
  obtain ⟨v2, g, h⟩ := zb_some h
  refine zw_getNi hX zl_X11_108 dX11_isLine_6 g ?_
  refine zw_iconst (v := (1 : Int32)) hX dX11_isLine_9 (by decide) ?_
  refine zw_isub hX dX11_isLine_10 ?_
  obtain ⟨r4, g, h⟩ := zb_some h
  refine zc_Si (as := [.int i1, .int (0 : Int32), .int (v2 - (1 : Int32))]) hX (zt_X11_isWithin (d := d - 1) (by omega) g) zl_X11_133 dX11_isLine_11 ⟨rfl, rfl, Nat.le_of_ble_eq_true rfl⟩ ⟨by omega, by omega⟩ ?_
  by_cases cz : r4.1 = 0 ∨ r4.1 = 1
  · rw [if_pos cz] at h
    obtain rfl := Option.some.inj h
    exact zw_iret hX hr dX11_isLine_14 (zn_z cz) ⟨rfl, rfl⟩
  · rw [if_neg cz] at h
    cases h
set_option maxHeartbeats 4000000 in
set_option maxRecDepth 100000 in
theorem zt_X11_move_J41 {p : Program} {l : Launch} {e : Env} {R : Room} {s : State} {m : MethodId} {args : Array Value} {below : List Frame} {meth : Method} {c : Code} {V : zm_V} {mc ms d rc rs : Nat} (hlt : l.stackTraces = false) (hxt : ∀ x ∈ c.exceptionTable.toList, False) (hX : zm_X p R s m args meth c RX11 "move" cX11_move 5 zk_E V mc ms) (hr : meth.sig.returnType = (some .boolean)) (hR : R.frames = d ∧ R.locals = 64 * d) (hd : 7 ≤ d) {N : Nat} {a0 : Nat} {i1 : Int32} {i2 : Int32} {i3 : Int32} {t0 : Int32} {out : ((Int32 ⊕ String) × zm_S)} (hc : 1 ≤ rc ∧ 6 ≤ rs) {S : zm_S} (h : zf_X11_move_J41 N a0 i1 i2 i3 t0 S = some out) : zw p l e R s m args below meth c (vx_MQ below (zm_Qc zk_E V (zq_i out)) (zm_XC zk_E V (zq_x out)) args s mc ms (fun q => V.2.2.2.1 ≤ q)) 5 zk_E V mc ms 41 [(0, .ref a0), (1, .int i1), (2, .int i2), (3, .int i3)] [.int t0] S rc rs := by
  unfold zf_X11_move_J41 at h
  obtain ⟨r, g, h⟩ := zb_some h
  refine zc_S (as := [.int t0]) hX (zt_X11_needState hlt (d := d - 1) (by omega) g) zl_X11_112 dX11_move_41 ⟨rfl, rfl, Nat.le_of_ble_eq_true rfl⟩ ⟨by omega, by omega⟩ ⟨by omega, by omega⟩ ?_ ?_
  · rintro _ S7 ⟨⟨u6, rfl⟩, rfl⟩
    try dsimp only at h
    refine zw_aload_n hX dX11_move_44 rfl ?_
    obtain ⟨b8, g, h⟩ := zb_some h
    refine zw_getr hX zl_X11_10 dX11_move_45 g ?_
    refine zw_iload_n hX dX11_move_48 rfl ?_
    refine zw_iload_n hX dX11_move_49 rfl ?_
    refine zw_iload_n hX dX11_move_50 rfl ?_
    obtain ⟨_, gi, h⟩ := zb_some h
    obtain ⟨r10, g, h⟩ := zb_some h
    refine zc_Vi (as := [.int i1, .int i2, .int i3]) hX gi (zt_X8_moveLine (d := d - 1) (by omega) g) zl_X11_130 rfl dX11_move_51 ⟨rfl, rfl, Nat.le_of_ble_eq_true rfl⟩ ⟨by omega, by omega⟩ ?_
    refine zw_istore hX dX11_move_54 (by decide) ?_
    refine zw_iload hX dX11_move_56 rfl ?_
    refine zw_if_eq (tgt := 69) hX dX11_move_58 (by decide) (fun c58 => ?_) (fun c58 => ?_)
    · rw [if_pos c58] at h
      refine zw_iload hX dX11_move_69 rfl ?_
      by_cases cz : r10.1 = 0 ∨ r10.1 = 1
      · rw [if_pos cz] at h
        obtain rfl := Option.some.inj h
        exact zw_iret hX hr dX11_move_71 (zn_z cz) ⟨_, rfl, rfl⟩
      · rw [if_neg cz] at h
        cases h
    · rw [if_neg c58] at h
      refine zw_aload_n hX dX11_move_61 rfl ?_
      obtain ⟨b11, g, h⟩ := zb_some h
      refine zw_getr hX zl_X11_21 dX11_move_62 g ?_
      refine zw_iconst (v := (0 : Int32)) hX dX11_move_65 (by decide) ?_
      obtain ⟨S12, g, h⟩ := zb_some h
      refine zw_putvN hX zl_X11_119 zt_2_2 dX11_move_66 rfl (by decide) g ?_
      refine zw_iload hX dX11_move_69 rfl ?_
      by_cases cz : r10.1 = 0 ∨ r10.1 = 1
      · rw [if_pos cz] at h
        obtain rfl := Option.some.inj h
        exact zw_iret hX hr dX11_move_71 (zn_z cz) ⟨_, rfl, rfl⟩
      · rw [if_neg cz] at h
        cases h
  · rintro X S9 rfl
    obtain rfl := Option.some.inj h
    exact zx_out hX hxt rfl
set_option maxHeartbeats 4000000 in
set_option maxRecDepth 100000 in
theorem zt_X11_move_J26 {p : Program} {l : Launch} {e : Env} {R : Room} {s : State} {m : MethodId} {args : Array Value} {below : List Frame} {meth : Method} {c : Code} {V : zm_V} {mc ms d rc rs : Nat} (hlt : l.stackTraces = false) (hxt : ∀ x ∈ c.exceptionTable.toList, False) (hX : zm_X p R s m args meth c RX11 "move" cX11_move 5 zk_E V mc ms) (hr : meth.sig.returnType = (some .boolean)) (hR : R.frames = d ∧ R.locals = 64 * d) (hd : 7 ≤ d) {N : Nat} {a0 : Nat} {i1 : Int32} {i2 : Int32} {i3 : Int32} {t0 : Int32} {out : ((Int32 ⊕ String) × zm_S)} (hc : 2 ≤ rc ∧ 12 ≤ rs) {S : zm_S} (h : zf_X11_move_J26 N a0 i1 i2 i3 t0 S = some out) : zw p l e R s m args below meth c (vx_MQ below (zm_Qc zk_E V (zq_i out)) (zm_XC zk_E V (zq_x out)) args s mc ms (fun q => V.2.2.2.1 ≤ q)) 5 zk_E V mc ms 26 [(0, .ref a0), (1, .int i1), (2, .int i2), (3, .int i3)] [.int t0] S rc rs := by
  unfold zf_X11_move_J26 at h
  obtain ⟨r, g, h⟩ := zb_some h
  refine zc_S (as := [.int t0]) hX (zt_X11_needArgument hlt (d := d - 1) (by omega) g) zl_X11_100 dX11_move_26 ⟨rfl, rfl, Nat.le_of_ble_eq_true rfl⟩ ⟨by omega, by omega⟩ ⟨by omega, by omega⟩ ?_ ?_
  · rintro _ S4 ⟨⟨u3, rfl⟩, rfl⟩
    try dsimp only at h
    refine zw_aload_n hX dX11_move_29 rfl ?_
    obtain ⟨v5, g, h⟩ := zb_some h
    refine zw_geti hX zl_X11_104 dX11_move_30 g ?_
    refine zw_if_ne (tgt := 40) hX dX11_move_33 (by decide) (fun c33 => ?_) (fun c33 => ?_)
    · rw [if_neg c33] at h
      refine zw_iconst (v := (0 : Int32)) hX dX11_move_40 (by decide) ?_
      refine zw_sub (lv' := [(0, .ref a0), (1, .int i1), (2, .int i2), (3, .int i3)]) (List.forall_mem_cons.mpr ⟨rfl, (List.forall_mem_cons.mpr ⟨rfl, (List.forall_mem_cons.mpr ⟨rfl, (List.forall_mem_cons.mpr ⟨rfl, zs_nil⟩)⟩)⟩)⟩) ?_
      exact zt_X11_move_J41 hlt hxt hX hr hR hd ⟨by omega, by omega⟩ h
    · rw [if_pos c33] at h
      refine zw_iconst (v := (1 : Int32)) hX dX11_move_36 (by decide) ?_
      refine zw_goto (tgt := 41) hX dX11_move_37 (by decide) ?_
      refine zw_sub (lv' := [(0, .ref a0), (1, .int i1), (2, .int i2), (3, .int i3)]) (List.forall_mem_cons.mpr ⟨rfl, (List.forall_mem_cons.mpr ⟨rfl, (List.forall_mem_cons.mpr ⟨rfl, (List.forall_mem_cons.mpr ⟨rfl, zs_nil⟩)⟩)⟩)⟩) ?_
      exact zt_X11_move_J41 hlt hxt hX hr hR hd ⟨by omega, by omega⟩ h
  · rintro X S9 rfl
    obtain rfl := Option.some.inj h
    exact zx_out hX hxt rfl
set_option maxHeartbeats 4000000 in
set_option maxRecDepth 100000 in
theorem zt_X11_move_J25 {p : Program} {l : Launch} {e : Env} {R : Room} {s : State} {m : MethodId} {args : Array Value} {below : List Frame} {meth : Method} {c : Code} {V : zm_V} {mc ms d rc rs : Nat} (hlt : l.stackTraces = false) (hxt : ∀ x ∈ c.exceptionTable.toList, False) (hX : zm_X p R s m args meth c RX11 "move" cX11_move 5 zk_E V mc ms) (hr : meth.sig.returnType = (some .boolean)) (hR : R.frames = d ∧ R.locals = 64 * d) (hd : 7 ≤ d) {N : Nat} {a0 : Nat} {i1 : Int32} {i2 : Int32} {i3 : Int32} {out : ((Int32 ⊕ String) × zm_S)} (hc : 2 ≤ rc ∧ 12 ≤ rs) {S : zm_S} (h : zf_X11_move_J25 N a0 i1 i2 i3 S = some out) : zw p l e R s m args below meth c (vx_MQ below (zm_Qc zk_E V (zq_i out)) (zm_XC zk_E V (zq_x out)) args s mc ms (fun q => V.2.2.2.1 ≤ q)) 5 zk_E V mc ms 25 [(0, .ref a0), (1, .int i1), (2, .int i2), (3, .int i3)] [] S rc rs := by
  unfold zf_X11_move_J25 at h
  refine zw_iconst (v := (0 : Int32)) hX dX11_move_25 (by decide) ?_
  refine zw_sub (lv' := [(0, .ref a0), (1, .int i1), (2, .int i2), (3, .int i3)]) (List.forall_mem_cons.mpr ⟨rfl, (List.forall_mem_cons.mpr ⟨rfl, (List.forall_mem_cons.mpr ⟨rfl, (List.forall_mem_cons.mpr ⟨rfl, zs_nil⟩)⟩)⟩)⟩) ?_
  exact zt_X11_move_J26 hlt hxt hX hr hR hd ⟨by omega, by omega⟩ h
set_option maxHeartbeats 4000000 in
set_option maxRecDepth 100000 in
theorem zt_X11_move {l : Launch} {V : zm_V} (hlt : l.stackTraces = false) {N : Nat} {S : zm_S} {out : ((Int32 ⊕ String) × zm_S)} {d : Nat} {a0 : Nat} {i1 : Int32} {i2 : Int32} {i3 : Int32} (hd : 7 ≤ d) (h : zf_X11_move N a0 i1 i2 i3 S = some out) : zm_Met l zk_E V yX11_move (.code yX11_move cX11_move 5 (some .boolean)) d [.ref a0, .int i1, .int i2, .int i3] S 2 12 (zq_i out) (zq_x out) := by
  refine zm_of (by decide +kernel) (Nat.le_of_ble_eq_true rfl) ?_
  intro p e R s m args below meth c hRR hX hr hxt
  have hR : R.frames = d ∧ R.locals = 64 * d := by rw [hRR]; exact ⟨rfl, rfl⟩
  have hX : zm_X p R s m args meth c RX11 "move" cX11_move 5 zk_E V 2 12 := hX
  unfold zf_X11_move at h
  refine zw_sub (lv' := [(0, .ref a0), (1, .int i1), (2, .int i2), (3, .int i3)]) (List.forall_mem_cons.mpr ⟨rfl, (List.forall_mem_cons.mpr ⟨rfl, (List.forall_mem_cons.mpr ⟨rfl, (List.forall_mem_cons.mpr ⟨rfl, zs_nil⟩)⟩)⟩)⟩) ?_
  refine zw_aload_n hX dX11_move_0 rfl ?_
  refine zw_iload_n hX dX11_move_1 rfl ?_
  obtain ⟨_, gi, h⟩ := zb_some h
  obtain ⟨r2, g, h⟩ := zb_some h
  refine zc_Vi (as := [.int i1]) hX gi (zt_X11_isLine (d := d - 1) (by omega) g) zl_X11_122 rfl dX11_move_2 ⟨rfl, rfl, Nat.le_of_ble_eq_true rfl⟩ ⟨by omega, by omega⟩ ?_
  refine zw_if_eq (tgt := 25) hX dX11_move_5 (by decide) (fun c5 => ?_) (fun c5 => ?_)
  · rw [if_pos c5] at h
    refine zw_sub (lv' := [(0, .ref a0), (1, .int i1), (2, .int i2), (3, .int i3)]) (List.forall_mem_cons.mpr ⟨rfl, (List.forall_mem_cons.mpr ⟨rfl, (List.forall_mem_cons.mpr ⟨rfl, (List.forall_mem_cons.mpr ⟨rfl, zs_nil⟩)⟩)⟩)⟩) ?_
    exact zt_X11_move_J25 hlt hxt hX hr hR hd ⟨by omega, by omega⟩ h
  · rw [if_neg c5] at h
    refine zw_aload_n hX dX11_move_8 rfl ?_
    obtain ⟨b13, g, h⟩ := zb_some h
    refine zw_getr hX zl_X11_10 dX11_move_9 g ?_
    refine zw_iload_n hX dX11_move_12 rfl ?_
    refine zw_iload_n hX dX11_move_13 rfl ?_
    refine zw_iload_n hX dX11_move_14 rfl ?_
    obtain ⟨_, gi, h⟩ := zb_some h
    obtain ⟨r15, g, h⟩ := zb_some h
    refine zc_Vi (as := [.int i1, .int i2, .int i3]) hX gi (zt_X8_staysOnPlan (d := d - 1) (by omega) g) zl_X11_126 rfl dX11_move_15 ⟨rfl, rfl, Nat.le_of_ble_eq_true rfl⟩ ⟨by omega, by omega⟩ ?_
    refine zw_if_eq (tgt := 25) hX dX11_move_18 (by decide) (fun c18 => ?_) (fun c18 => ?_)
    · rw [if_pos c18] at h
      refine zw_sub (lv' := [(0, .ref a0), (1, .int i1), (2, .int i2), (3, .int i3)]) (List.forall_mem_cons.mpr ⟨rfl, (List.forall_mem_cons.mpr ⟨rfl, (List.forall_mem_cons.mpr ⟨rfl, (List.forall_mem_cons.mpr ⟨rfl, zs_nil⟩)⟩)⟩)⟩) ?_
      exact zt_X11_move_J25 hlt hxt hX hr hR hd ⟨by omega, by omega⟩ h
    · rw [if_neg c18] at h
      refine zw_iconst (v := (1 : Int32)) hX dX11_move_21 (by decide) ?_
      refine zw_goto (tgt := 26) hX dX11_move_22 (by decide) ?_
      refine zw_sub (lv' := [(0, .ref a0), (1, .int i1), (2, .int i2), (3, .int i3)]) (List.forall_mem_cons.mpr ⟨rfl, (List.forall_mem_cons.mpr ⟨rfl, (List.forall_mem_cons.mpr ⟨rfl, (List.forall_mem_cons.mpr ⟨rfl, zs_nil⟩)⟩)⟩)⟩) ?_
      exact zt_X11_move_J26 hlt hxt hX hr hR hd ⟨by omega, by omega⟩ h
set_option maxHeartbeats 4000000 in
set_option maxRecDepth 100000 in
theorem zt_X11_door_J81 {p : Program} {l : Launch} {e : Env} {R : Room} {s : State} {m : MethodId} {args : Array Value} {below : List Frame} {meth : Method} {c : Code} {V : zm_V} {mc ms d rc rs : Nat} (hlt : l.stackTraces = false) (hxt : ∀ x ∈ c.exceptionTable.toList, False) (hX : zm_X p R s m args meth c RX11 "door" cX11_door 5 zk_E V mc ms) (hr : meth.sig.returnType = (some .int)) (hR : R.frames = d ∧ R.locals = 64 * d) (hd : 7 ≤ d) {N : Nat} {a0 : Nat} {i1 : Int32} {i2 : Int32} {i3 : Int32} {i4 : Int32} {t0 : Int32} {out : ((Int32 ⊕ String) × zm_S)} (hc : 1 ≤ rc ∧ 6 ≤ rs) {S : zm_S} (h : zf_X11_door_J81 N a0 i1 i2 i3 i4 t0 S = some out) : zw p l e R s m args below meth c (vx_MQ below (zm_Qc zk_E V (zq_i out)) (zm_XC zk_E V (zq_x out)) args s mc ms (fun q => V.2.2.2.1 ≤ q)) 5 zk_E V mc ms 81 [(0, .ref a0), (1, .int i1), (2, .int i2), (3, .int i3), (4, .int i4)] [.int t0] S rc rs := by
  unfold zf_X11_door_J81 at h
  obtain ⟨r, g, h⟩ := zb_some h
  refine zc_S (as := [.int t0]) hX (zt_X11_needState hlt (d := d - 1) (by omega) g) zl_X11_112 dX11_door_81 ⟨rfl, rfl, Nat.le_of_ble_eq_true rfl⟩ ⟨by omega, by omega⟩ ⟨by omega, by omega⟩ ?_ ?_
  · rintro _ S9 ⟨⟨u8, rfl⟩, rfl⟩
    try dsimp only at h
    refine zw_aload_n hX dX11_door_84 rfl ?_
    obtain ⟨b10, g, h⟩ := zb_some h
    refine zw_getr hX zl_X11_10 dX11_door_85 g ?_
    refine zw_iload_n hX dX11_door_88 rfl ?_
    refine zw_iload_n hX dX11_door_89 rfl ?_
    refine zw_iload_n hX dX11_door_90 rfl ?_
    refine zw_iload hX dX11_door_91 rfl ?_
    obtain ⟨_, gi, h⟩ := zb_some h
    obtain ⟨r12, g, h⟩ := zb_some h
    refine zc_Vi (as := [.int i1, .int i2, .int i3, .int i4]) hX gi (zt_X8_addDoor (d := d - 1) (by omega) g) zl_X11_144 rfl dX11_door_93 ⟨rfl, rfl, Nat.le_of_ble_eq_true rfl⟩ ⟨by omega, by omega⟩ ?_
    obtain rfl := Option.some.inj h
    exact zw_iret hX hr dX11_door_96 rfl ⟨_, rfl, rfl⟩
  · rintro X S9 rfl
    obtain rfl := Option.some.inj h
    exact zx_out hX hxt rfl
set_option maxHeartbeats 4000000 in
set_option maxRecDepth 100000 in
theorem zt_X11_door_J80 {p : Program} {l : Launch} {e : Env} {R : Room} {s : State} {m : MethodId} {args : Array Value} {below : List Frame} {meth : Method} {c : Code} {V : zm_V} {mc ms d rc rs : Nat} (hlt : l.stackTraces = false) (hxt : ∀ x ∈ c.exceptionTable.toList, False) (hX : zm_X p R s m args meth c RX11 "door" cX11_door 5 zk_E V mc ms) (hr : meth.sig.returnType = (some .int)) (hR : R.frames = d ∧ R.locals = 64 * d) (hd : 7 ≤ d) {N : Nat} {a0 : Nat} {i1 : Int32} {i2 : Int32} {i3 : Int32} {i4 : Int32} {out : ((Int32 ⊕ String) × zm_S)} (hc : 1 ≤ rc ∧ 6 ≤ rs) {S : zm_S} (h : zf_X11_door_J80 N a0 i1 i2 i3 i4 S = some out) : zw p l e R s m args below meth c (vx_MQ below (zm_Qc zk_E V (zq_i out)) (zm_XC zk_E V (zq_x out)) args s mc ms (fun q => V.2.2.2.1 ≤ q)) 5 zk_E V mc ms 80 [(0, .ref a0), (1, .int i1), (2, .int i2), (3, .int i3), (4, .int i4)] [] S rc rs := by
  unfold zf_X11_door_J80 at h
  refine zw_iconst (v := (0 : Int32)) hX dX11_door_80 (by decide) ?_
  refine zw_sub (lv' := [(0, .ref a0), (1, .int i1), (2, .int i2), (3, .int i3), (4, .int i4)]) (List.forall_mem_cons.mpr ⟨rfl, (List.forall_mem_cons.mpr ⟨rfl, (List.forall_mem_cons.mpr ⟨rfl, (List.forall_mem_cons.mpr ⟨rfl, (List.forall_mem_cons.mpr ⟨rfl, zs_nil⟩)⟩)⟩)⟩)⟩) ?_
  exact zt_X11_door_J81 hlt hxt hX hr hR hd ⟨by omega, by omega⟩ h
set_option maxHeartbeats 4000000 in
set_option maxRecDepth 100000 in
theorem zt_X11_door_J52 {p : Program} {l : Launch} {e : Env} {R : Room} {s : State} {m : MethodId} {args : Array Value} {below : List Frame} {meth : Method} {c : Code} {V : zm_V} {mc ms d rc rs : Nat} (hlt : l.stackTraces = false) (hxt : ∀ x ∈ c.exceptionTable.toList, False) (hX : zm_X p R s m args meth c RX11 "door" cX11_door 5 zk_E V mc ms) (hr : meth.sig.returnType = (some .int)) (hR : R.frames = d ∧ R.locals = 64 * d) (hd : 7 ≤ d) {N : Nat} {a0 : Nat} {i1 : Int32} {i2 : Int32} {i3 : Int32} {i4 : Int32} {t0 : Int32} {out : ((Int32 ⊕ String) × zm_S)} (hc : 2 ≤ rc ∧ 12 ≤ rs) {S : zm_S} (h : zf_X11_door_J52 N a0 i1 i2 i3 i4 t0 S = some out) : zw p l e R s m args below meth c (vx_MQ below (zm_Qc zk_E V (zq_i out)) (zm_XC zk_E V (zq_x out)) args s mc ms (fun q => V.2.2.2.1 ≤ q)) 5 zk_E V mc ms 52 [(0, .ref a0), (1, .int i1), (2, .int i2), (3, .int i3), (4, .int i4)] [.int t0] S rc rs := by
  unfold zf_X11_door_J52 at h
  obtain ⟨r, g, h⟩ := zb_some h
  refine zc_S (as := [.int t0]) hX (zt_X11_needArgument hlt (d := d - 1) (by omega) g) zl_X11_100 dX11_door_52 ⟨rfl, rfl, Nat.le_of_ble_eq_true rfl⟩ ⟨by omega, by omega⟩ ⟨by omega, by omega⟩ ?_ ?_
  · rintro _ S6 ⟨⟨u5, rfl⟩, rfl⟩
    try dsimp only at h
    refine zw_aload_n hX dX11_door_55 rfl ?_
    obtain ⟨v7, g, h⟩ := zb_some h
    refine zw_geti hX zl_X11_104 dX11_door_56 g ?_
    refine zw_if_ne (tgt := 80) hX dX11_door_59 (by decide) (fun c59 => ?_) (fun c59 => ?_)
    · rw [if_neg c59] at h
      refine zw_sub (lv' := [(0, .ref a0), (1, .int i1), (2, .int i2), (3, .int i3), (4, .int i4)]) (List.forall_mem_cons.mpr ⟨rfl, (List.forall_mem_cons.mpr ⟨rfl, (List.forall_mem_cons.mpr ⟨rfl, (List.forall_mem_cons.mpr ⟨rfl, (List.forall_mem_cons.mpr ⟨rfl, zs_nil⟩)⟩)⟩)⟩)⟩) ?_
      exact zt_X11_door_J80 hlt hxt hX hr hR hd ⟨by omega, by omega⟩ h
    · rw [if_pos c59] at h
      refine zw_aload_n hX dX11_door_62 rfl ?_
      obtain ⟨b13, g, h⟩ := zb_some h
      refine zw_getr hX zl_X11_10 dX11_door_63 g ?_
      obtain ⟨b14, g, h⟩ := zb_some h
      refine zw_getNr hX zl_X11_140 dX11_door_66 g ?_
      refine zw_iload_n hX dX11_door_69 rfl ?_
      obtain ⟨v15, g, h⟩ := zb_some h
      refine zw_xi hX dX11_door_70 g ?_
      refine zw_bipush (v := (6 : Int32)) hX dX11_door_71 (by decide) ?_
      refine zw_icmp_ge (tgt := 80) hX dX11_door_73 (by decide) (fun c73 => ?_) (fun c73 => ?_)
      · rw [if_pos c73] at h
        refine zw_sub (lv' := [(0, .ref a0), (1, .int i1), (2, .int i2), (3, .int i3), (4, .int i4)]) (List.forall_mem_cons.mpr ⟨rfl, (List.forall_mem_cons.mpr ⟨rfl, (List.forall_mem_cons.mpr ⟨rfl, (List.forall_mem_cons.mpr ⟨rfl, (List.forall_mem_cons.mpr ⟨rfl, zs_nil⟩)⟩)⟩)⟩)⟩) ?_
        exact zt_X11_door_J80 hlt hxt hX hr hR hd ⟨by omega, by omega⟩ h
      · rw [if_neg c73] at h
        refine zw_iconst (v := (1 : Int32)) hX dX11_door_76 (by decide) ?_
        refine zw_goto (tgt := 81) hX dX11_door_77 (by decide) ?_
        refine zw_sub (lv' := [(0, .ref a0), (1, .int i1), (2, .int i2), (3, .int i3), (4, .int i4)]) (List.forall_mem_cons.mpr ⟨rfl, (List.forall_mem_cons.mpr ⟨rfl, (List.forall_mem_cons.mpr ⟨rfl, (List.forall_mem_cons.mpr ⟨rfl, (List.forall_mem_cons.mpr ⟨rfl, zs_nil⟩)⟩)⟩)⟩)⟩) ?_
        exact zt_X11_door_J81 hlt hxt hX hr hR hd ⟨by omega, by omega⟩ h
  · rintro X S9 rfl
    obtain rfl := Option.some.inj h
    exact zx_out hX hxt rfl
set_option maxHeartbeats 4000000 in
set_option maxRecDepth 100000 in
theorem zt_X11_door_J51 {p : Program} {l : Launch} {e : Env} {R : Room} {s : State} {m : MethodId} {args : Array Value} {below : List Frame} {meth : Method} {c : Code} {V : zm_V} {mc ms d rc rs : Nat} (hlt : l.stackTraces = false) (hxt : ∀ x ∈ c.exceptionTable.toList, False) (hX : zm_X p R s m args meth c RX11 "door" cX11_door 5 zk_E V mc ms) (hr : meth.sig.returnType = (some .int)) (hR : R.frames = d ∧ R.locals = 64 * d) (hd : 7 ≤ d) {N : Nat} {a0 : Nat} {i1 : Int32} {i2 : Int32} {i3 : Int32} {i4 : Int32} {out : ((Int32 ⊕ String) × zm_S)} (hc : 2 ≤ rc ∧ 12 ≤ rs) {S : zm_S} (h : zf_X11_door_J51 N a0 i1 i2 i3 i4 S = some out) : zw p l e R s m args below meth c (vx_MQ below (zm_Qc zk_E V (zq_i out)) (zm_XC zk_E V (zq_x out)) args s mc ms (fun q => V.2.2.2.1 ≤ q)) 5 zk_E V mc ms 51 [(0, .ref a0), (1, .int i1), (2, .int i2), (3, .int i3), (4, .int i4)] [] S rc rs := by
  unfold zf_X11_door_J51 at h
  refine zw_iconst (v := (0 : Int32)) hX dX11_door_51 (by decide) ?_
  refine zw_sub (lv' := [(0, .ref a0), (1, .int i1), (2, .int i2), (3, .int i3), (4, .int i4)]) (List.forall_mem_cons.mpr ⟨rfl, (List.forall_mem_cons.mpr ⟨rfl, (List.forall_mem_cons.mpr ⟨rfl, (List.forall_mem_cons.mpr ⟨rfl, (List.forall_mem_cons.mpr ⟨rfl, zs_nil⟩)⟩)⟩)⟩)⟩) ?_
  exact zt_X11_door_J52 hlt hxt hX hr hR hd ⟨by omega, by omega⟩ h
set_option maxHeartbeats 4000000 in
set_option maxRecDepth 100000 in
theorem zt_X11_door_J23 {p : Program} {l : Launch} {e : Env} {R : Room} {s : State} {m : MethodId} {args : Array Value} {below : List Frame} {meth : Method} {c : Code} {V : zm_V} {mc ms d rc rs : Nat} (hlt : l.stackTraces = false) (hxt : ∀ x ∈ c.exceptionTable.toList, False) (hX : zm_X p R s m args meth c RX11 "door" cX11_door 5 zk_E V mc ms) (hr : meth.sig.returnType = (some .int)) (hR : R.frames = d ∧ R.locals = 64 * d) (hd : 7 ≤ d) {N : Nat} {a0 : Nat} {i1 : Int32} {i2 : Int32} {i3 : Int32} {i4 : Int32} {t0 : Int32} {out : ((Int32 ⊕ String) × zm_S)} (hc : 3 ≤ rc ∧ 18 ≤ rs) {S : zm_S} (h : zf_X11_door_J23 N a0 i1 i2 i3 i4 t0 S = some out) : zw p l e R s m args below meth c (vx_MQ below (zm_Qc zk_E V (zq_i out)) (zm_XC zk_E V (zq_x out)) args s mc ms (fun q => V.2.2.2.1 ≤ q)) 5 zk_E V mc ms 23 [(0, .ref a0), (1, .int i1), (2, .int i2), (3, .int i3), (4, .int i4)] [.int t0] S rc rs := by
  unfold zf_X11_door_J23 at h
  obtain ⟨r, g, h⟩ := zb_some h
  refine zc_S (as := [.int t0]) hX (zt_X11_needArgument hlt (d := d - 1) (by omega) g) zl_X11_100 dX11_door_23 ⟨rfl, rfl, Nat.le_of_ble_eq_true rfl⟩ ⟨by omega, by omega⟩ ⟨by omega, by omega⟩ ?_ ?_
  · rintro _ S4 ⟨⟨u3, rfl⟩, rfl⟩
    try dsimp only at h
    refine zw_iload_n hX dX11_door_26 rfl ?_
    refine zw_if_lt (tgt := 51) hX dX11_door_27 (by decide) (fun c27 => ?_) (fun c27 => ?_)
    · rw [if_pos c27] at h
      refine zw_sub (lv' := [(0, .ref a0), (1, .int i1), (2, .int i2), (3, .int i3), (4, .int i4)]) (List.forall_mem_cons.mpr ⟨rfl, (List.forall_mem_cons.mpr ⟨rfl, (List.forall_mem_cons.mpr ⟨rfl, (List.forall_mem_cons.mpr ⟨rfl, (List.forall_mem_cons.mpr ⟨rfl, zs_nil⟩)⟩)⟩)⟩)⟩) ?_
      exact zt_X11_door_J51 hlt hxt hX hr hR hd ⟨by omega, by omega⟩ h
    · rw [if_neg c27] at h
      refine zw_iload_n hX dX11_door_30 rfl ?_
      refine zw_iload_n hX dX11_door_31 rfl ?_
      refine zw_icmp_ge (tgt := 51) hX dX11_door_32 (by decide) (fun c32 => ?_) (fun c32 => ?_)
      · rw [if_pos c32] at h
        refine zw_sub (lv' := [(0, .ref a0), (1, .int i1), (2, .int i2), (3, .int i3), (4, .int i4)]) (List.forall_mem_cons.mpr ⟨rfl, (List.forall_mem_cons.mpr ⟨rfl, (List.forall_mem_cons.mpr ⟨rfl, (List.forall_mem_cons.mpr ⟨rfl, (List.forall_mem_cons.mpr ⟨rfl, zs_nil⟩)⟩)⟩)⟩)⟩) ?_
        exact zt_X11_door_J51 hlt hxt hX hr hR hd ⟨by omega, by omega⟩ h
      · rw [if_neg c32] at h
        refine zw_iload_n hX dX11_door_35 rfl ?_
        refine zw_aload_n hX dX11_door_36 rfl ?_
        obtain ⟨b16, g, h⟩ := zb_some h
        refine zw_getr hX zl_X11_10 dX11_door_37 g ?_
        refine zw_iload_n hX dX11_door_40 rfl ?_
        obtain ⟨_, gi, h⟩ := zb_some h
        obtain ⟨r18, g, h⟩ := zb_some h
        refine zc_Vi (as := [.int i1]) hX gi (zt_X8_lengthOf (d := d - 1) (by omega) g) zl_X11_136 rfl dX11_door_41 ⟨rfl, rfl, Nat.le_of_ble_eq_true rfl⟩ ⟨by omega, by omega⟩ ?_
        refine zw_icmp_gt (tgt := 51) hX dX11_door_44 (by decide) (fun c44 => ?_) (fun c44 => ?_)
        · rw [if_pos c44] at h
          refine zw_sub (lv' := [(0, .ref a0), (1, .int i1), (2, .int i2), (3, .int i3), (4, .int i4)]) (List.forall_mem_cons.mpr ⟨rfl, (List.forall_mem_cons.mpr ⟨rfl, (List.forall_mem_cons.mpr ⟨rfl, (List.forall_mem_cons.mpr ⟨rfl, (List.forall_mem_cons.mpr ⟨rfl, zs_nil⟩)⟩)⟩)⟩)⟩) ?_
          exact zt_X11_door_J51 hlt hxt hX hr hR hd ⟨by omega, by omega⟩ h
        · rw [if_neg c44] at h
          refine zw_iconst (v := (1 : Int32)) hX dX11_door_47 (by decide) ?_
          refine zw_goto (tgt := 52) hX dX11_door_48 (by decide) ?_
          refine zw_sub (lv' := [(0, .ref a0), (1, .int i1), (2, .int i2), (3, .int i3), (4, .int i4)]) (List.forall_mem_cons.mpr ⟨rfl, (List.forall_mem_cons.mpr ⟨rfl, (List.forall_mem_cons.mpr ⟨rfl, (List.forall_mem_cons.mpr ⟨rfl, (List.forall_mem_cons.mpr ⟨rfl, zs_nil⟩)⟩)⟩)⟩)⟩) ?_
          exact zt_X11_door_J52 hlt hxt hX hr hR hd ⟨by omega, by omega⟩ h
  · rintro X S9 rfl
    obtain rfl := Option.some.inj h
    exact zx_out hX hxt rfl
set_option maxHeartbeats 4000000 in
set_option maxRecDepth 100000 in
theorem zt_X11_door_J22 {p : Program} {l : Launch} {e : Env} {R : Room} {s : State} {m : MethodId} {args : Array Value} {below : List Frame} {meth : Method} {c : Code} {V : zm_V} {mc ms d rc rs : Nat} (hlt : l.stackTraces = false) (hxt : ∀ x ∈ c.exceptionTable.toList, False) (hX : zm_X p R s m args meth c RX11 "door" cX11_door 5 zk_E V mc ms) (hr : meth.sig.returnType = (some .int)) (hR : R.frames = d ∧ R.locals = 64 * d) (hd : 7 ≤ d) {N : Nat} {a0 : Nat} {i1 : Int32} {i2 : Int32} {i3 : Int32} {i4 : Int32} {out : ((Int32 ⊕ String) × zm_S)} (hc : 3 ≤ rc ∧ 18 ≤ rs) {S : zm_S} (h : zf_X11_door_J22 N a0 i1 i2 i3 i4 S = some out) : zw p l e R s m args below meth c (vx_MQ below (zm_Qc zk_E V (zq_i out)) (zm_XC zk_E V (zq_x out)) args s mc ms (fun q => V.2.2.2.1 ≤ q)) 5 zk_E V mc ms 22 [(0, .ref a0), (1, .int i1), (2, .int i2), (3, .int i3), (4, .int i4)] [] S rc rs := by
  unfold zf_X11_door_J22 at h
  refine zw_iconst (v := (0 : Int32)) hX dX11_door_22 (by decide) ?_
  refine zw_sub (lv' := [(0, .ref a0), (1, .int i1), (2, .int i2), (3, .int i3), (4, .int i4)]) (List.forall_mem_cons.mpr ⟨rfl, (List.forall_mem_cons.mpr ⟨rfl, (List.forall_mem_cons.mpr ⟨rfl, (List.forall_mem_cons.mpr ⟨rfl, (List.forall_mem_cons.mpr ⟨rfl, zs_nil⟩)⟩)⟩)⟩)⟩) ?_
  exact zt_X11_door_J23 hlt hxt hX hr hR hd ⟨by omega, by omega⟩ h
set_option maxHeartbeats 4000000 in
set_option maxRecDepth 100000 in
theorem zt_X11_door {l : Launch} {V : zm_V} (hlt : l.stackTraces = false) {N : Nat} {S : zm_S} {out : ((Int32 ⊕ String) × zm_S)} {d : Nat} {a0 : Nat} {i1 : Int32} {i2 : Int32} {i3 : Int32} {i4 : Int32} (hd : 7 ≤ d) (h : zf_X11_door N a0 i1 i2 i3 i4 S = some out) : zm_Met l zk_E V yX11_door (.code yX11_door cX11_door 5 (some .int)) d [.ref a0, .int i1, .int i2, .int i3, .int i4] S 3 18 (zq_i out) (zq_x out) := by
  refine zm_of (by decide +kernel) (Nat.le_of_ble_eq_true rfl) ?_
  intro p e R s m args below meth c hRR hX hr hxt
  have hR : R.frames = d ∧ R.locals = 64 * d := by rw [hRR]; exact ⟨rfl, rfl⟩
  have hX : zm_X p R s m args meth c RX11 "door" cX11_door 5 zk_E V 3 18 := hX
  unfold zf_X11_door at h
  refine zw_sub (lv' := [(0, .ref a0), (1, .int i1), (2, .int i2), (3, .int i3), (4, .int i4)]) (List.forall_mem_cons.mpr ⟨rfl, (List.forall_mem_cons.mpr ⟨rfl, (List.forall_mem_cons.mpr ⟨rfl, (List.forall_mem_cons.mpr ⟨rfl, (List.forall_mem_cons.mpr ⟨rfl, zs_nil⟩)⟩)⟩)⟩)⟩) ?_
  refine zw_aload_n hX dX11_door_0 rfl ?_
  refine zw_iload_n hX dX11_door_1 rfl ?_
  obtain ⟨_, gi, h⟩ := zb_some h
  obtain ⟨r2, g, h⟩ := zb_some h
  refine zc_Vi (as := [.int i1]) hX gi (zt_X11_isLine (d := d - 1) (by omega) g) zl_X11_122 rfl dX11_door_2 ⟨rfl, rfl, Nat.le_of_ble_eq_true rfl⟩ ⟨by omega, by omega⟩ ?_
  refine zw_if_eq (tgt := 22) hX dX11_door_5 (by decide) (fun c5 => ?_) (fun c5 => ?_)
  · rw [if_pos c5] at h
    refine zw_sub (lv' := [(0, .ref a0), (1, .int i1), (2, .int i2), (3, .int i3), (4, .int i4)]) (List.forall_mem_cons.mpr ⟨rfl, (List.forall_mem_cons.mpr ⟨rfl, (List.forall_mem_cons.mpr ⟨rfl, (List.forall_mem_cons.mpr ⟨rfl, (List.forall_mem_cons.mpr ⟨rfl, zs_nil⟩)⟩)⟩)⟩)⟩) ?_
    exact zt_X11_door_J22 hlt hxt hX hr hR hd ⟨by omega, by omega⟩ h
  · rw [if_neg c5] at h
    refine zw_iload hX dX11_door_8 rfl ?_
    refine zw_iconst (v := (1 : Int32)) hX dX11_door_10 (by decide) ?_
    refine zw_iconst (v := (5 : Int32)) hX dX11_door_11 (by decide) ?_
    obtain ⟨r20, g, h⟩ := zb_some h
    refine zc_Si (as := [.int i4, .int (1 : Int32), .int (5 : Int32)]) hX (zt_X11_isWithin (d := d - 1) (by omega) g) zl_X11_133 dX11_door_12 ⟨rfl, rfl, Nat.le_of_ble_eq_true rfl⟩ ⟨by omega, by omega⟩ ?_
    refine zw_if_eq (tgt := 22) hX dX11_door_15 (by decide) (fun c15 => ?_) (fun c15 => ?_)
    · rw [if_pos c15] at h
      refine zw_sub (lv' := [(0, .ref a0), (1, .int i1), (2, .int i2), (3, .int i3), (4, .int i4)]) (List.forall_mem_cons.mpr ⟨rfl, (List.forall_mem_cons.mpr ⟨rfl, (List.forall_mem_cons.mpr ⟨rfl, (List.forall_mem_cons.mpr ⟨rfl, (List.forall_mem_cons.mpr ⟨rfl, zs_nil⟩)⟩)⟩)⟩)⟩) ?_
      exact zt_X11_door_J22 hlt hxt hX hr hR hd ⟨by omega, by omega⟩ h
    · rw [if_neg c15] at h
      refine zw_iconst (v := (1 : Int32)) hX dX11_door_18 (by decide) ?_
      refine zw_goto (tgt := 23) hX dX11_door_19 (by decide) ?_
      refine zw_sub (lv' := [(0, .ref a0), (1, .int i1), (2, .int i2), (3, .int i3), (4, .int i4)]) (List.forall_mem_cons.mpr ⟨rfl, (List.forall_mem_cons.mpr ⟨rfl, (List.forall_mem_cons.mpr ⟨rfl, (List.forall_mem_cons.mpr ⟨rfl, (List.forall_mem_cons.mpr ⟨rfl, zs_nil⟩)⟩)⟩)⟩)⟩) ?_
      exact zt_X11_door_J23 hlt hxt hX hr hR hd ⟨by omega, by omega⟩ h
set_option maxHeartbeats 4000000 in
set_option maxRecDepth 100000 in
theorem zt_X11_find_J24 {p : Program} {l : Launch} {e : Env} {R : Room} {s : State} {m : MethodId} {args : Array Value} {below : List Frame} {meth : Method} {c : Code} {V : zm_V} {mc ms d rc rs : Nat} (hlt : l.stackTraces = false) (hxt : ∀ x ∈ c.exceptionTable.toList, False) (hX : zm_X p R s m args meth c RX11 "find" cX11_find 1 zk_E V mc ms) (hr : meth.sig.returnType = (some .int)) (hR : R.frames = d ∧ R.locals = 64 * d) (hd : 7 ≤ d) {N : Nat} {a0 : Nat} {t0 : Int32} {out : ((Int32 ⊕ String) × zm_S)} (hc : 1 ≤ rc ∧ 6 ≤ rs) {S : zm_S} (h : zf_X11_find_J24 N a0 t0 S = some out) : zw p l e R s m args below meth c (vx_MQ below (zm_Qc zk_E V (zq_i out)) (zm_XC zk_E V (zq_x out)) args s mc ms (fun q => V.2.2.2.1 ≤ q)) 1 zk_E V mc ms 24 [(0, .ref a0)] [.int t0] S rc rs := by
  unfold zf_X11_find_J24 at h
  obtain ⟨r, g, h⟩ := zb_some h
  refine zc_S (as := [.int t0]) hX (zt_X11_needState hlt (d := d - 1) (by omega) g) zl_X11_112 dX11_find_24 ⟨rfl, rfl, Nat.le_of_ble_eq_true rfl⟩ ⟨by omega, by omega⟩ ⟨by omega, by omega⟩ ?_ ?_
  · rintro _ S3 ⟨⟨u2, rfl⟩, rfl⟩
    try dsimp only at h
    refine zw_aload_n hX dX11_find_27 rfl ?_
    obtain ⟨b4, g, h⟩ := zb_some h
    refine zw_getr hX zl_X11_21 dX11_find_28 g ?_
    obtain ⟨_, gi, h⟩ := zb_some h
    obtain ⟨r6, g, h⟩ := zb_some h
    refine zc_Vi (as := []) hX gi (zt_X2_findSpaces (d := d - 1) (by omega) g) zl_X11_150 rfl dX11_find_31 ⟨rfl, rfl, Nat.le_of_ble_eq_true rfl⟩ ⟨by omega, by omega⟩ ?_
    obtain rfl := Option.some.inj h
    exact zw_iret hX hr dX11_find_34 rfl ⟨_, rfl, rfl⟩
  · rintro X S9 rfl
    obtain rfl := Option.some.inj h
    exact zx_out hX hxt rfl
set_option maxHeartbeats 4000000 in
set_option maxRecDepth 100000 in
theorem zt_X11_find_J23 {p : Program} {l : Launch} {e : Env} {R : Room} {s : State} {m : MethodId} {args : Array Value} {below : List Frame} {meth : Method} {c : Code} {V : zm_V} {mc ms d rc rs : Nat} (hlt : l.stackTraces = false) (hxt : ∀ x ∈ c.exceptionTable.toList, False) (hX : zm_X p R s m args meth c RX11 "find" cX11_find 1 zk_E V mc ms) (hr : meth.sig.returnType = (some .int)) (hR : R.frames = d ∧ R.locals = 64 * d) (hd : 7 ≤ d) {N : Nat} {a0 : Nat} {out : ((Int32 ⊕ String) × zm_S)} (hc : 1 ≤ rc ∧ 6 ≤ rs) {S : zm_S} (h : zf_X11_find_J23 N a0 S = some out) : zw p l e R s m args below meth c (vx_MQ below (zm_Qc zk_E V (zq_i out)) (zm_XC zk_E V (zq_x out)) args s mc ms (fun q => V.2.2.2.1 ≤ q)) 1 zk_E V mc ms 23 [(0, .ref a0)] [] S rc rs := by
  unfold zf_X11_find_J23 at h
  refine zw_iconst (v := (0 : Int32)) hX dX11_find_23 (by decide) ?_
  refine zw_sub (lv' := [(0, .ref a0)]) (List.forall_mem_cons.mpr ⟨rfl, zs_nil⟩) ?_
  exact zt_X11_find_J24 hlt hxt hX hr hR hd ⟨by omega, by omega⟩ h
set_option maxHeartbeats 4000000 in
set_option maxRecDepth 100000 in
theorem zt_X11_find {l : Launch} {V : zm_V} (hlt : l.stackTraces = false) {N : Nat} {S : zm_S} {out : ((Int32 ⊕ String) × zm_S)} {d : Nat} {a0 : Nat} (hd : 7 ≤ d) (h : zf_X11_find N a0 S = some out) : zm_Met l zk_E V yX11_find (.code yX11_find cX11_find 1 (some .int)) d [.ref a0] S 1 6 (zq_i out) (zq_x out) := by
  refine zm_of (by decide +kernel) (Nat.le_of_ble_eq_true rfl) ?_
  intro p e R s m args below meth c hRR hX hr hxt
  have hR : R.frames = d ∧ R.locals = 64 * d := by rw [hRR]; exact ⟨rfl, rfl⟩
  have hX : zm_X p R s m args meth c RX11 "find" cX11_find 1 zk_E V 1 6 := hX
  unfold zf_X11_find at h
  refine zw_sub (lv' := [(0, .ref a0)]) (List.forall_mem_cons.mpr ⟨rfl, zs_nil⟩) ?_
  refine zw_aload_n hX dX11_find_0 rfl ?_
  obtain ⟨v1, g, h⟩ := zb_some h
  refine zw_geti hX zl_X11_104 dX11_find_1 g ?_
  refine zw_if_ne (tgt := 23) hX dX11_find_4 (by decide) (fun c4 => ?_) (fun c4 => ?_)
  · rw [if_neg c4] at h
    refine zw_sub (lv' := [(0, .ref a0)]) (List.forall_mem_cons.mpr ⟨rfl, zs_nil⟩) ?_
    exact zt_X11_find_J23 hlt hxt hX hr hR hd ⟨by omega, by omega⟩ h
  · rw [if_pos c4] at h
    refine zw_aload_n hX dX11_find_7 rfl ?_
    obtain ⟨b7, g, h⟩ := zb_some h
    refine zw_getr hX zl_X11_21 dX11_find_8 g ?_
    obtain ⟨v8, g, h⟩ := zb_some h
    refine zw_getNi hX zl_X11_147 dX11_find_11 g ?_
    refine zw_bipush (v := (60 : Int32)) hX dX11_find_14 (by decide) ?_
    refine zw_icmp_ge (tgt := 23) hX dX11_find_16 (by decide) (fun c16 => ?_) (fun c16 => ?_)
    · rw [if_pos c16] at h
      refine zw_sub (lv' := [(0, .ref a0)]) (List.forall_mem_cons.mpr ⟨rfl, zs_nil⟩) ?_
      exact zt_X11_find_J23 hlt hxt hX hr hR hd ⟨by omega, by omega⟩ h
    · rw [if_neg c16] at h
      refine zw_iconst (v := (1 : Int32)) hX dX11_find_19 (by decide) ?_
      refine zw_goto (tgt := 24) hX dX11_find_20 (by decide) ?_
      refine zw_sub (lv' := [(0, .ref a0)]) (List.forall_mem_cons.mpr ⟨rfl, zs_nil⟩) ?_
      exact zt_X11_find_J24 hlt hxt hX hr hR hd ⟨by omega, by omega⟩ h
set_option maxHeartbeats 4000000 in
set_option maxRecDepth 100000 in
theorem zt_X11_count {l : Launch} {V : zm_V} (hlt : l.stackTraces = false) {N : Nat} {S : zm_S} {out : ((Int32 ⊕ String) × zm_S)} {d : Nat} {a0 : Nat} {i1 : Int32} (hd : 7 ≤ d) (h : zf_X11_count N a0 i1 S = some out) : zm_Met l zk_E V yX11_count (.code yX11_count cX11_count 2 (some .int)) d [.ref a0, .int i1] S 2 12 (zq_i out) (zq_x out) := by
  refine zm_of (by decide +kernel) (Nat.le_of_ble_eq_true rfl) ?_
  intro p e R s m args below meth c hRR hX hr hxt
  have hR : R.frames = d ∧ R.locals = 64 * d := by rw [hRR]; exact ⟨rfl, rfl⟩
  have hX : zm_X p R s m args meth c RX11 "count" cX11_count 2 zk_E V 2 12 := hX
  unfold zf_X11_count at h
  refine zw_sub (lv' := [(0, .ref a0), (1, .int i1)]) (List.forall_mem_cons.mpr ⟨rfl, (List.forall_mem_cons.mpr ⟨rfl, zs_nil⟩)⟩) ?_
  refine zw_iload_n hX dX11_count_0 rfl ?_
  refine zw_iconst (v := (0 : Int32)) hX dX11_count_1 (by decide) ?_
  refine zw_iconst (v := (3 : Int32)) hX dX11_count_2 (by decide) ?_
  obtain ⟨r2, g, h⟩ := zb_some h
  refine zc_Si (as := [.int i1, .int (0 : Int32), .int (3 : Int32)]) hX (zt_X11_isWithin (d := d - 1) (by omega) g) zl_X11_133 dX11_count_3 ⟨rfl, rfl, Nat.le_of_ble_eq_true rfl⟩ ⟨by omega, by omega⟩ ?_
  obtain ⟨r, g, h⟩ := zb_some h
  refine zc_S (as := [.int r2.1]) hX (zt_X11_needArgument hlt (d := d - 1) (by omega) g) zl_X11_100 dX11_count_6 ⟨rfl, rfl, Nat.le_of_ble_eq_true rfl⟩ ⟨by omega, by omega⟩ ⟨by omega, by omega⟩ ?_ ?_
  · rintro _ S4 ⟨⟨u3, rfl⟩, rfl⟩
    try dsimp only at h
    refine zw_aload_n hX dX11_count_9 rfl ?_
    obtain ⟨b5, g, h⟩ := zb_some h
    refine zw_getr hX zl_X11_21 dX11_count_10 g ?_
    obtain ⟨v6, g, h⟩ := zb_some h
    refine zw_getNi hX zl_X11_119 dX11_count_13 g ?_
    obtain ⟨r, g, h⟩ := zb_some h
    refine zc_S (as := [.int v6]) hX (zt_X11_needState hlt (d := d - 1) (by omega) g) zl_X11_112 dX11_count_16 ⟨rfl, rfl, Nat.le_of_ble_eq_true rfl⟩ ⟨by omega, by omega⟩ ⟨by omega, by omega⟩ ?_ ?_
    · rintro _ S8 ⟨⟨u7, rfl⟩, rfl⟩
      try dsimp only at h
      refine zw_iload_n hX dX11_count_19 rfl ?_
      by_cases c20_0 : (i1).toInt = 0
      · rw [if_pos c20_0] at h
        refine zw_tableIn (off := 28) (tgt := 48) hX dX11_count_20 (by rw [c20_0]; decide) (by rw [c20_0]; decide) (by rw [c20_0]; decide) (by decide) ?_
        refine zw_aload_n hX dX11_count_48 rfl ?_
        obtain ⟨b12, g, h⟩ := zb_some h
        refine zw_getr hX zl_X11_21 dX11_count_49 g ?_
        obtain ⟨v13, g, h⟩ := zb_some h
        refine zw_getNi hX zl_X11_154 dX11_count_52 g ?_
        obtain rfl := Option.some.inj h
        exact zw_iret hX hr dX11_count_55 rfl ⟨_, rfl, rfl⟩
      rw [if_neg c20_0] at h
      by_cases c20_1 : (i1).toInt = 1
      · rw [if_pos c20_1] at h
        refine zw_tableIn (off := 36) (tgt := 56) hX dX11_count_20 (by rw [c20_1]; decide) (by rw [c20_1]; decide) (by rw [c20_1]; decide) (by decide) ?_
        refine zw_aload_n hX dX11_count_56 rfl ?_
        obtain ⟨b14, g, h⟩ := zb_some h
        refine zw_getr hX zl_X11_21 dX11_count_57 g ?_
        obtain ⟨_, gi, h⟩ := zb_some h
        obtain ⟨r16, g, h⟩ := zb_some h
        refine zc_Vi (as := []) hX gi (zt_X2_countPoints (d := d - 1) (by omega) g) zl_X11_157 rfl dX11_count_60 ⟨rfl, rfl, Nat.le_of_ble_eq_true rfl⟩ ⟨by omega, by omega⟩ ?_
        obtain rfl := Option.some.inj h
        exact zw_iret hX hr dX11_count_63 rfl ⟨_, rfl, rfl⟩
      rw [if_neg c20_1] at h
      by_cases c20_2 : (i1).toInt = 2
      · rw [if_pos c20_2] at h
        refine zw_tableIn (off := 44) (tgt := 64) hX dX11_count_20 (by rw [c20_2]; decide) (by rw [c20_2]; decide) (by rw [c20_2]; decide) (by decide) ?_
        refine zw_aload_n hX dX11_count_64 rfl ?_
        obtain ⟨b17, g, h⟩ := zb_some h
        refine zw_getr hX zl_X11_21 dX11_count_65 g ?_
        obtain ⟨_, gi, h⟩ := zb_some h
        obtain ⟨r19, g, h⟩ := zb_some h
        refine zc_Vi (as := []) hX gi (zt_X2_countPieces (d := d - 1) (by omega) g) zl_X11_160 rfl dX11_count_68 ⟨rfl, rfl, Nat.le_of_ble_eq_true rfl⟩ ⟨by omega, by omega⟩ ?_
        obtain rfl := Option.some.inj h
        exact zw_iret hX hr dX11_count_71 rfl ⟨_, rfl, rfl⟩
      rw [if_neg c20_2] at h
      refine zw_tableOut (tgt := 72) hX dX11_count_20 (by omega) (by decide) ?_
      refine zw_aload_n hX dX11_count_72 rfl ?_
      obtain ⟨b9, g, h⟩ := zb_some h
      refine zw_getr hX zl_X11_21 dX11_count_73 g ?_
      obtain ⟨_, gi, h⟩ := zb_some h
      obtain ⟨r11, g, h⟩ := zb_some h
      refine zc_Vi (as := []) hX gi (zt_X2_countOutsideSides (d := d - 1) (by omega) g) zl_X11_163 rfl dX11_count_76 ⟨rfl, rfl, Nat.le_of_ble_eq_true rfl⟩ ⟨by omega, by omega⟩ ?_
      obtain rfl := Option.some.inj h
      exact zw_iret hX hr dX11_count_79 rfl ⟨_, rfl, rfl⟩
    · rintro X S9 rfl
      obtain rfl := Option.some.inj h
      exact zx_out hX hxt rfl
  · rintro X S9 rfl
    obtain rfl := Option.some.inj h
    exact zx_out hX hxt rfl
set_option maxHeartbeats 4000000 in
set_option maxRecDepth 100000 in
theorem zt_X11_isSpace {l : Launch} {V : zm_V} {N : Nat} {S : zm_S} {out : (Int32 × zm_S)} {d : Nat} {a0 : Nat} {i1 : Int32} (hd : 2 ≤ d) (h : zf_X11_isSpace N a0 i1 S = some out) : zm_Met l zk_E V yX11_isSpace (.code yX11_isSpace cX11_isSpace 2 (some .boolean)) d [.ref a0, .int i1] S 0 0 (zo_i out) zo_x := by
  refine zm_of (by decide +kernel) (Nat.le_of_ble_eq_true rfl) ?_
  intro p e R s m args below meth c hRR hX hr hxt
  have hR : R.frames = d ∧ R.locals = 64 * d := by rw [hRR]; exact ⟨rfl, rfl⟩
  have hX : zm_X p R s m args meth c RX11 "isSpace" cX11_isSpace 2 zk_E V 0 0 := hX
  unfold zf_X11_isSpace at h
  refine zw_sub (lv' := [(0, .ref a0), (1, .int i1)]) (List.forall_mem_cons.mpr ⟨rfl, (List.forall_mem_cons.mpr ⟨rfl, zs_nil⟩)⟩) ?_
  refine zw_iload_n hX dX11_isSpace_0 rfl ?_
  refine zw_iconst (v := (0 : Int32)) hX dX11_isSpace_1 (by decide) ?_
  refine zw_aload_n hX dX11_isSpace_2 rfl ?_
  obtain ⟨b1, g, h⟩ := zb_some h
  refine zw_getr hX zl_X11_21 dX11_isSpace_3 g ?_
  obtain ⟨v2, g, h⟩ := zb_some h
  refine zw_getNi hX zl_X11_154 dX11_isSpace_6 g ?_
  refine zw_iconst (v := (1 : Int32)) hX dX11_isSpace_9 (by decide) ?_
  refine zw_isub hX dX11_isSpace_10 ?_
  obtain ⟨r4, g, h⟩ := zb_some h
  refine zc_Si (as := [.int i1, .int (0 : Int32), .int (v2 - (1 : Int32))]) hX (zt_X11_isWithin (d := d - 1) (by omega) g) zl_X11_133 dX11_isSpace_11 ⟨rfl, rfl, Nat.le_of_ble_eq_true rfl⟩ ⟨by omega, by omega⟩ ?_
  by_cases cz : r4.1 = 0 ∨ r4.1 = 1
  · rw [if_pos cz] at h
    obtain rfl := Option.some.inj h
    exact zw_iret hX hr dX11_isSpace_14 (zn_z cz) ⟨rfl, rfl⟩
  · rw [if_neg cz] at h
    cases h
set_option maxHeartbeats 4000000 in
set_option maxRecDepth 100000 in
theorem zt_X11_sides_J17 {p : Program} {l : Launch} {e : Env} {R : Room} {s : State} {m : MethodId} {args : Array Value} {below : List Frame} {meth : Method} {c : Code} {V : zm_V} {mc ms d rc rs : Nat} (hlt : l.stackTraces = false) (hxt : ∀ x ∈ c.exceptionTable.toList, False) (hX : zm_X p R s m args meth c RX11 "sides" cX11_sides 3 zk_E V mc ms) (hr : meth.sig.returnType = (some .int)) (hR : R.frames = d ∧ R.locals = 64 * d) (hd : 7 ≤ d) {N : Nat} {a0 : Nat} {i1 : Int32} {i2 : Int32} {t0 : Int32} {out : ((Int32 ⊕ String) × zm_S)} (hc : 2 ≤ rc ∧ 12 ≤ rs) {S : zm_S} (h : zf_X11_sides_J17 N a0 i1 i2 t0 S = some out) : zw p l e R s m args below meth c (vx_MQ below (zm_Qc zk_E V (zq_i out)) (zm_XC zk_E V (zq_x out)) args s mc ms (fun q => V.2.2.2.1 ≤ q)) 3 zk_E V mc ms 17 [(0, .ref a0), (1, .int i1), (2, .int i2)] [.int t0] S rc rs := by
  unfold zf_X11_sides_J17 at h
  obtain ⟨r, g, h⟩ := zb_some h
  refine zc_S (as := [.int t0]) hX (zt_X11_needArgument hlt (d := d - 1) (by omega) g) zl_X11_100 dX11_sides_17 ⟨rfl, rfl, Nat.le_of_ble_eq_true rfl⟩ ⟨by omega, by omega⟩ ⟨by omega, by omega⟩ ?_ ?_
  · rintro _ S4 ⟨⟨u3, rfl⟩, rfl⟩
    try dsimp only at h
    refine zw_aload_n hX dX11_sides_20 rfl ?_
    obtain ⟨b5, g, h⟩ := zb_some h
    refine zw_getr hX zl_X11_21 dX11_sides_21 g ?_
    obtain ⟨v6, g, h⟩ := zb_some h
    refine zw_getNi hX zl_X11_119 dX11_sides_24 g ?_
    obtain ⟨r, g, h⟩ := zb_some h
    refine zc_S (as := [.int v6]) hX (zt_X11_needState hlt (d := d - 1) (by omega) g) zl_X11_112 dX11_sides_27 ⟨rfl, rfl, Nat.le_of_ble_eq_true rfl⟩ ⟨by omega, by omega⟩ ⟨by omega, by omega⟩ ?_ ?_
    · rintro _ S8 ⟨⟨u7, rfl⟩, rfl⟩
      try dsimp only at h
      refine zw_aload_n hX dX11_sides_30 rfl ?_
      obtain ⟨b9, g, h⟩ := zb_some h
      refine zw_getr hX zl_X11_21 dX11_sides_31 g ?_
      refine zw_iload_n hX dX11_sides_34 rfl ?_
      refine zw_iload_n hX dX11_sides_35 rfl ?_
      obtain ⟨_, gi, h⟩ := zb_some h
      obtain ⟨r11, g, h⟩ := zb_some h
      refine zc_Vi (as := [.int i1, .int i2]) hX gi (zt_X2_sidesOf (d := d - 1) (by omega) g) zl_X11_169 rfl dX11_sides_36 ⟨rfl, rfl, Nat.le_of_ble_eq_true rfl⟩ ⟨by omega, by omega⟩ ?_
      obtain rfl := Option.some.inj h
      exact zw_iret hX hr dX11_sides_39 rfl ⟨_, rfl, rfl⟩
    · rintro X S9 rfl
      obtain rfl := Option.some.inj h
      exact zx_out hX hxt rfl
  · rintro X S9 rfl
    obtain rfl := Option.some.inj h
    exact zx_out hX hxt rfl
set_option maxHeartbeats 4000000 in
set_option maxRecDepth 100000 in
theorem zt_X11_sides_J16 {p : Program} {l : Launch} {e : Env} {R : Room} {s : State} {m : MethodId} {args : Array Value} {below : List Frame} {meth : Method} {c : Code} {V : zm_V} {mc ms d rc rs : Nat} (hlt : l.stackTraces = false) (hxt : ∀ x ∈ c.exceptionTable.toList, False) (hX : zm_X p R s m args meth c RX11 "sides" cX11_sides 3 zk_E V mc ms) (hr : meth.sig.returnType = (some .int)) (hR : R.frames = d ∧ R.locals = 64 * d) (hd : 7 ≤ d) {N : Nat} {a0 : Nat} {i1 : Int32} {i2 : Int32} {out : ((Int32 ⊕ String) × zm_S)} (hc : 2 ≤ rc ∧ 12 ≤ rs) {S : zm_S} (h : zf_X11_sides_J16 N a0 i1 i2 S = some out) : zw p l e R s m args below meth c (vx_MQ below (zm_Qc zk_E V (zq_i out)) (zm_XC zk_E V (zq_x out)) args s mc ms (fun q => V.2.2.2.1 ≤ q)) 3 zk_E V mc ms 16 [(0, .ref a0), (1, .int i1), (2, .int i2)] [] S rc rs := by
  unfold zf_X11_sides_J16 at h
  refine zw_iconst (v := (0 : Int32)) hX dX11_sides_16 (by decide) ?_
  refine zw_sub (lv' := [(0, .ref a0), (1, .int i1), (2, .int i2)]) (List.forall_mem_cons.mpr ⟨rfl, (List.forall_mem_cons.mpr ⟨rfl, (List.forall_mem_cons.mpr ⟨rfl, zs_nil⟩)⟩)⟩) ?_
  exact zt_X11_sides_J17 hlt hxt hX hr hR hd ⟨by omega, by omega⟩ h
set_option maxHeartbeats 4000000 in
set_option maxRecDepth 100000 in
theorem zt_X11_sides {l : Launch} {V : zm_V} (hlt : l.stackTraces = false) {N : Nat} {S : zm_S} {out : ((Int32 ⊕ String) × zm_S)} {d : Nat} {a0 : Nat} {i1 : Int32} {i2 : Int32} (hd : 7 ≤ d) (h : zf_X11_sides N a0 i1 i2 S = some out) : zm_Met l zk_E V yX11_sides (.code yX11_sides cX11_sides 3 (some .int)) d [.ref a0, .int i1, .int i2] S 2 12 (zq_i out) (zq_x out) := by
  refine zm_of (by decide +kernel) (Nat.le_of_ble_eq_true rfl) ?_
  intro p e R s m args below meth c hRR hX hr hxt
  have hR : R.frames = d ∧ R.locals = 64 * d := by rw [hRR]; exact ⟨rfl, rfl⟩
  have hX : zm_X p R s m args meth c RX11 "sides" cX11_sides 3 zk_E V 2 12 := hX
  unfold zf_X11_sides at h
  refine zw_sub (lv' := [(0, .ref a0), (1, .int i1), (2, .int i2)]) (List.forall_mem_cons.mpr ⟨rfl, (List.forall_mem_cons.mpr ⟨rfl, (List.forall_mem_cons.mpr ⟨rfl, zs_nil⟩)⟩)⟩) ?_
  refine zw_aload_n hX dX11_sides_0 rfl ?_
  refine zw_iload_n hX dX11_sides_1 rfl ?_
  obtain ⟨_, gi, h⟩ := zb_some h
  obtain ⟨r2, g, h⟩ := zb_some h
  refine zc_Vi (as := [.int i1]) hX gi (zt_X11_isSpace (d := d - 1) (by omega) g) zl_X11_166 rfl dX11_sides_2 ⟨rfl, rfl, Nat.le_of_ble_eq_true rfl⟩ ⟨by omega, by omega⟩ ?_
  refine zw_if_eq (tgt := 16) hX dX11_sides_5 (by decide) (fun c5 => ?_) (fun c5 => ?_)
  · rw [if_pos c5] at h
    refine zw_sub (lv' := [(0, .ref a0), (1, .int i1), (2, .int i2)]) (List.forall_mem_cons.mpr ⟨rfl, (List.forall_mem_cons.mpr ⟨rfl, (List.forall_mem_cons.mpr ⟨rfl, zs_nil⟩)⟩)⟩) ?_
    exact zt_X11_sides_J16 hlt hxt hX hr hR hd ⟨by omega, by omega⟩ h
  · rw [if_neg c5] at h
    refine zw_iload_n hX dX11_sides_8 rfl ?_
    refine zw_if_lt (tgt := 16) hX dX11_sides_9 (by decide) (fun c9 => ?_) (fun c9 => ?_)
    · rw [if_pos c9] at h
      refine zw_sub (lv' := [(0, .ref a0), (1, .int i1), (2, .int i2)]) (List.forall_mem_cons.mpr ⟨rfl, (List.forall_mem_cons.mpr ⟨rfl, (List.forall_mem_cons.mpr ⟨rfl, zs_nil⟩)⟩)⟩) ?_
      exact zt_X11_sides_J16 hlt hxt hX hr hR hd ⟨by omega, by omega⟩ h
    · rw [if_neg c9] at h
      refine zw_iconst (v := (1 : Int32)) hX dX11_sides_12 (by decide) ?_
      refine zw_goto (tgt := 17) hX dX11_sides_13 (by decide) ?_
      refine zw_sub (lv' := [(0, .ref a0), (1, .int i1), (2, .int i2)]) (List.forall_mem_cons.mpr ⟨rfl, (List.forall_mem_cons.mpr ⟨rfl, (List.forall_mem_cons.mpr ⟨rfl, zs_nil⟩)⟩)⟩) ?_
      exact zt_X11_sides_J17 hlt hxt hX hr hR hd ⟨by omega, by omega⟩ h
set_option maxHeartbeats 4000000 in
set_option maxRecDepth 100000 in
theorem zt_X11_side_J44 {p : Program} {l : Launch} {e : Env} {R : Room} {s : State} {m : MethodId} {args : Array Value} {below : List Frame} {meth : Method} {c : Code} {V : zm_V} {mc ms d rc rs : Nat} (hlt : l.stackTraces = false) (hxt : ∀ x ∈ c.exceptionTable.toList, False) (hX : zm_X p R s m args meth c RX11 "side" cX11_side 5 zk_E V mc ms) (hr : meth.sig.returnType = (some .int)) (hR : R.frames = d ∧ R.locals = 64 * d) (hd : 7 ≤ d) {N : Nat} {a0 : Nat} {i1 : Int32} {i2 : Int32} {i3 : Int32} {i4 : Int32} {t0 : Int32} {out : ((Int32 ⊕ String) × zm_S)} (hc : 2 ≤ rc ∧ 12 ≤ rs) {S : zm_S} (h : zf_X11_side_J44 N a0 i1 i2 i3 i4 t0 S = some out) : zw p l e R s m args below meth c (vx_MQ below (zm_Qc zk_E V (zq_i out)) (zm_XC zk_E V (zq_x out)) args s mc ms (fun q => V.2.2.2.1 ≤ q)) 5 zk_E V mc ms 44 [(0, .ref a0), (1, .int i1), (2, .int i2), (3, .int i3), (4, .int i4)] [.int t0] S rc rs := by
  unfold zf_X11_side_J44 at h
  obtain ⟨r, g, h⟩ := zb_some h
  refine zc_S (as := [.int t0]) hX (zt_X11_needArgument hlt (d := d - 1) (by omega) g) zl_X11_100 dX11_side_44 ⟨rfl, rfl, Nat.le_of_ble_eq_true rfl⟩ ⟨by omega, by omega⟩ ⟨by omega, by omega⟩ ?_ ?_
  · rintro _ S4 ⟨⟨u3, rfl⟩, rfl⟩
    try dsimp only at h
    refine zw_aload_n hX dX11_side_47 rfl ?_
    obtain ⟨b5, g, h⟩ := zb_some h
    refine zw_getr hX zl_X11_21 dX11_side_48 g ?_
    obtain ⟨v6, g, h⟩ := zb_some h
    refine zw_getNi hX zl_X11_119 dX11_side_51 g ?_
    obtain ⟨r, g, h⟩ := zb_some h
    refine zc_S (as := [.int v6]) hX (zt_X11_needState hlt (d := d - 1) (by omega) g) zl_X11_112 dX11_side_54 ⟨rfl, rfl, Nat.le_of_ble_eq_true rfl⟩ ⟨by omega, by omega⟩ ⟨by omega, by omega⟩ ?_ ?_
    · rintro _ S8 ⟨⟨u7, rfl⟩, rfl⟩
      try dsimp only at h
      refine zw_aload_n hX dX11_side_57 rfl ?_
      obtain ⟨b9, g, h⟩ := zb_some h
      refine zw_getr hX zl_X11_21 dX11_side_58 g ?_
      refine zw_iload_n hX dX11_side_61 rfl ?_
      refine zw_iload_n hX dX11_side_62 rfl ?_
      refine zw_iload_n hX dX11_side_63 rfl ?_
      refine zw_iload hX dX11_side_64 rfl ?_
      obtain ⟨_, gi, h⟩ := zb_some h
      obtain ⟨r11, g, h⟩ := zb_some h
      refine zc_Vi (as := [.int i1, .int i2, .int i3, .int i4]) hX gi (zt_X2_sideOf (d := d - 1) (by omega) g) zl_X11_173 rfl dX11_side_66 ⟨rfl, rfl, Nat.le_of_ble_eq_true rfl⟩ ⟨by omega, by omega⟩ ?_
      obtain rfl := Option.some.inj h
      exact zw_iret hX hr dX11_side_69 rfl ⟨_, rfl, rfl⟩
    · rintro X S9 rfl
      obtain rfl := Option.some.inj h
      exact zx_out hX hxt rfl
  · rintro X S9 rfl
    obtain rfl := Option.some.inj h
    exact zx_out hX hxt rfl
set_option maxHeartbeats 4000000 in
set_option maxRecDepth 100000 in
theorem zt_X11_side_J43 {p : Program} {l : Launch} {e : Env} {R : Room} {s : State} {m : MethodId} {args : Array Value} {below : List Frame} {meth : Method} {c : Code} {V : zm_V} {mc ms d rc rs : Nat} (hlt : l.stackTraces = false) (hxt : ∀ x ∈ c.exceptionTable.toList, False) (hX : zm_X p R s m args meth c RX11 "side" cX11_side 5 zk_E V mc ms) (hr : meth.sig.returnType = (some .int)) (hR : R.frames = d ∧ R.locals = 64 * d) (hd : 7 ≤ d) {N : Nat} {a0 : Nat} {i1 : Int32} {i2 : Int32} {i3 : Int32} {i4 : Int32} {out : ((Int32 ⊕ String) × zm_S)} (hc : 2 ≤ rc ∧ 12 ≤ rs) {S : zm_S} (h : zf_X11_side_J43 N a0 i1 i2 i3 i4 S = some out) : zw p l e R s m args below meth c (vx_MQ below (zm_Qc zk_E V (zq_i out)) (zm_XC zk_E V (zq_x out)) args s mc ms (fun q => V.2.2.2.1 ≤ q)) 5 zk_E V mc ms 43 [(0, .ref a0), (1, .int i1), (2, .int i2), (3, .int i3), (4, .int i4)] [] S rc rs := by
  unfold zf_X11_side_J43 at h
  refine zw_iconst (v := (0 : Int32)) hX dX11_side_43 (by decide) ?_
  refine zw_sub (lv' := [(0, .ref a0), (1, .int i1), (2, .int i2), (3, .int i3), (4, .int i4)]) (List.forall_mem_cons.mpr ⟨rfl, (List.forall_mem_cons.mpr ⟨rfl, (List.forall_mem_cons.mpr ⟨rfl, (List.forall_mem_cons.mpr ⟨rfl, (List.forall_mem_cons.mpr ⟨rfl, zs_nil⟩)⟩)⟩)⟩)⟩) ?_
  exact zt_X11_side_J44 hlt hxt hX hr hR hd ⟨by omega, by omega⟩ h
set_option maxHeartbeats 4000000 in
set_option maxRecDepth 100000 in
theorem zt_X11_side {l : Launch} {V : zm_V} (hlt : l.stackTraces = false) {N : Nat} {S : zm_S} {out : ((Int32 ⊕ String) × zm_S)} {d : Nat} {a0 : Nat} {i1 : Int32} {i2 : Int32} {i3 : Int32} {i4 : Int32} (hd : 7 ≤ d) (h : zf_X11_side N a0 i1 i2 i3 i4 S = some out) : zm_Met l zk_E V yX11_side (.code yX11_side cX11_side 5 (some .int)) d [.ref a0, .int i1, .int i2, .int i3, .int i4] S 2 12 (zq_i out) (zq_x out) := by
  refine zm_of (by decide +kernel) (Nat.le_of_ble_eq_true rfl) ?_
  intro p e R s m args below meth c hRR hX hr hxt
  have hR : R.frames = d ∧ R.locals = 64 * d := by rw [hRR]; exact ⟨rfl, rfl⟩
  have hX : zm_X p R s m args meth c RX11 "side" cX11_side 5 zk_E V 2 12 := hX
  unfold zf_X11_side at h
  refine zw_sub (lv' := [(0, .ref a0), (1, .int i1), (2, .int i2), (3, .int i3), (4, .int i4)]) (List.forall_mem_cons.mpr ⟨rfl, (List.forall_mem_cons.mpr ⟨rfl, (List.forall_mem_cons.mpr ⟨rfl, (List.forall_mem_cons.mpr ⟨rfl, (List.forall_mem_cons.mpr ⟨rfl, zs_nil⟩)⟩)⟩)⟩)⟩) ?_
  refine zw_aload_n hX dX11_side_0 rfl ?_
  refine zw_iload_n hX dX11_side_1 rfl ?_
  obtain ⟨_, gi, h⟩ := zb_some h
  obtain ⟨r2, g, h⟩ := zb_some h
  refine zc_Vi (as := [.int i1]) hX gi (zt_X11_isSpace (d := d - 1) (by omega) g) zl_X11_166 rfl dX11_side_2 ⟨rfl, rfl, Nat.le_of_ble_eq_true rfl⟩ ⟨by omega, by omega⟩ ?_
  refine zw_if_eq (tgt := 43) hX dX11_side_5 (by decide) (fun c5 => ?_) (fun c5 => ?_)
  · rw [if_pos c5] at h
    refine zw_sub (lv' := [(0, .ref a0), (1, .int i1), (2, .int i2), (3, .int i3), (4, .int i4)]) (List.forall_mem_cons.mpr ⟨rfl, (List.forall_mem_cons.mpr ⟨rfl, (List.forall_mem_cons.mpr ⟨rfl, (List.forall_mem_cons.mpr ⟨rfl, (List.forall_mem_cons.mpr ⟨rfl, zs_nil⟩)⟩)⟩)⟩)⟩) ?_
    exact zt_X11_side_J43 hlt hxt hX hr hR hd ⟨by omega, by omega⟩ h
  · rw [if_neg c5] at h
    refine zw_iload_n hX dX11_side_8 rfl ?_
    refine zw_if_lt (tgt := 43) hX dX11_side_9 (by decide) (fun c9 => ?_) (fun c9 => ?_)
    · rw [if_pos c9] at h
      refine zw_sub (lv' := [(0, .ref a0), (1, .int i1), (2, .int i2), (3, .int i3), (4, .int i4)]) (List.forall_mem_cons.mpr ⟨rfl, (List.forall_mem_cons.mpr ⟨rfl, (List.forall_mem_cons.mpr ⟨rfl, (List.forall_mem_cons.mpr ⟨rfl, (List.forall_mem_cons.mpr ⟨rfl, zs_nil⟩)⟩)⟩)⟩)⟩) ?_
      exact zt_X11_side_J43 hlt hxt hX hr hR hd ⟨by omega, by omega⟩ h
    · rw [if_neg c9] at h
      refine zw_iload_n hX dX11_side_12 rfl ?_
      refine zw_if_lt (tgt := 43) hX dX11_side_13 (by decide) (fun c13 => ?_) (fun c13 => ?_)
      · rw [if_pos c13] at h
        refine zw_sub (lv' := [(0, .ref a0), (1, .int i1), (2, .int i2), (3, .int i3), (4, .int i4)]) (List.forall_mem_cons.mpr ⟨rfl, (List.forall_mem_cons.mpr ⟨rfl, (List.forall_mem_cons.mpr ⟨rfl, (List.forall_mem_cons.mpr ⟨rfl, (List.forall_mem_cons.mpr ⟨rfl, zs_nil⟩)⟩)⟩)⟩)⟩) ?_
        exact zt_X11_side_J43 hlt hxt hX hr hR hd ⟨by omega, by omega⟩ h
      · rw [if_neg c13] at h
        refine zw_iload_n hX dX11_side_16 rfl ?_
        refine zw_aload_n hX dX11_side_17 rfl ?_
        obtain ⟨b12, g, h⟩ := zb_some h
        refine zw_getr hX zl_X11_21 dX11_side_18 g ?_
        refine zw_iload_n hX dX11_side_21 rfl ?_
        refine zw_iload_n hX dX11_side_22 rfl ?_
        obtain ⟨_, gi, h⟩ := zb_some h
        obtain ⟨r14, g, h⟩ := zb_some h
        refine zc_Vi (as := [.int i1, .int i2]) hX gi (zt_X2_sidesOf (d := d - 1) (by omega) g) zl_X11_169 rfl dX11_side_23 ⟨rfl, rfl, Nat.le_of_ble_eq_true rfl⟩ ⟨by omega, by omega⟩ ?_
        refine zw_icmp_ge (tgt := 43) hX dX11_side_26 (by decide) (fun c26 => ?_) (fun c26 => ?_)
        · rw [if_pos c26] at h
          refine zw_sub (lv' := [(0, .ref a0), (1, .int i1), (2, .int i2), (3, .int i3), (4, .int i4)]) (List.forall_mem_cons.mpr ⟨rfl, (List.forall_mem_cons.mpr ⟨rfl, (List.forall_mem_cons.mpr ⟨rfl, (List.forall_mem_cons.mpr ⟨rfl, (List.forall_mem_cons.mpr ⟨rfl, zs_nil⟩)⟩)⟩)⟩)⟩) ?_
          exact zt_X11_side_J43 hlt hxt hX hr hR hd ⟨by omega, by omega⟩ h
        · rw [if_neg c26] at h
          refine zw_iload hX dX11_side_29 rfl ?_
          refine zw_iconst (v := (0 : Int32)) hX dX11_side_31 (by decide) ?_
          refine zw_iconst (v := (5 : Int32)) hX dX11_side_32 (by decide) ?_
          obtain ⟨r16, g, h⟩ := zb_some h
          refine zc_Si (as := [.int i4, .int (0 : Int32), .int (5 : Int32)]) hX (zt_X11_isWithin (d := d - 1) (by omega) g) zl_X11_133 dX11_side_33 ⟨rfl, rfl, Nat.le_of_ble_eq_true rfl⟩ ⟨by omega, by omega⟩ ?_
          refine zw_if_eq (tgt := 43) hX dX11_side_36 (by decide) (fun c36 => ?_) (fun c36 => ?_)
          · rw [if_pos c36] at h
            refine zw_sub (lv' := [(0, .ref a0), (1, .int i1), (2, .int i2), (3, .int i3), (4, .int i4)]) (List.forall_mem_cons.mpr ⟨rfl, (List.forall_mem_cons.mpr ⟨rfl, (List.forall_mem_cons.mpr ⟨rfl, (List.forall_mem_cons.mpr ⟨rfl, (List.forall_mem_cons.mpr ⟨rfl, zs_nil⟩)⟩)⟩)⟩)⟩) ?_
            exact zt_X11_side_J43 hlt hxt hX hr hR hd ⟨by omega, by omega⟩ h
          · rw [if_neg c36] at h
            refine zw_iconst (v := (1 : Int32)) hX dX11_side_39 (by decide) ?_
            refine zw_goto (tgt := 44) hX dX11_side_40 (by decide) ?_
            refine zw_sub (lv' := [(0, .ref a0), (1, .int i1), (2, .int i2), (3, .int i3), (4, .int i4)]) (List.forall_mem_cons.mpr ⟨rfl, (List.forall_mem_cons.mpr ⟨rfl, (List.forall_mem_cons.mpr ⟨rfl, (List.forall_mem_cons.mpr ⟨rfl, (List.forall_mem_cons.mpr ⟨rfl, zs_nil⟩)⟩)⟩)⟩)⟩) ?_
            exact zt_X11_side_J44 hlt hxt hX hr hR hd ⟨by omega, by omega⟩ h
set_option maxHeartbeats 4000000 in
set_option maxRecDepth 100000 in
theorem zt_X11_size_J22 {p : Program} {l : Launch} {e : Env} {R : Room} {s : State} {m : MethodId} {args : Array Value} {below : List Frame} {meth : Method} {c : Code} {V : zm_V} {mc ms d rc rs : Nat} (hlt : l.stackTraces = false) (hxt : ∀ x ∈ c.exceptionTable.toList, False) (hX : zm_X p R s m args meth c RX11 "size" cX11_size 3 zk_E V mc ms) (hr : meth.sig.returnType = (some .int)) (hR : R.frames = d ∧ R.locals = 64 * d) (hd : 7 ≤ d) {N : Nat} {a0 : Nat} {i1 : Int32} {i2 : Int32} {t0 : Int32} {out : ((Int32 ⊕ String) × zm_S)} (hc : 2 ≤ rc ∧ 12 ≤ rs) {S : zm_S} (h : zf_X11_size_J22 N a0 i1 i2 t0 S = some out) : zw p l e R s m args below meth c (vx_MQ below (zm_Qc zk_E V (zq_i out)) (zm_XC zk_E V (zq_x out)) args s mc ms (fun q => V.2.2.2.1 ≤ q)) 3 zk_E V mc ms 22 [(0, .ref a0), (1, .int i1), (2, .int i2)] [.int t0] S rc rs := by
  unfold zf_X11_size_J22 at h
  obtain ⟨r, g, h⟩ := zb_some h
  refine zc_S (as := [.int t0]) hX (zt_X11_needArgument hlt (d := d - 1) (by omega) g) zl_X11_100 dX11_size_22 ⟨rfl, rfl, Nat.le_of_ble_eq_true rfl⟩ ⟨by omega, by omega⟩ ⟨by omega, by omega⟩ ?_ ?_
  · rintro _ S4 ⟨⟨u3, rfl⟩, rfl⟩
    try dsimp only at h
    refine zw_aload_n hX dX11_size_25 rfl ?_
    obtain ⟨b5, g, h⟩ := zb_some h
    refine zw_getr hX zl_X11_21 dX11_size_26 g ?_
    obtain ⟨v6, g, h⟩ := zb_some h
    refine zw_getNi hX zl_X11_119 dX11_size_29 g ?_
    obtain ⟨r, g, h⟩ := zb_some h
    refine zc_S (as := [.int v6]) hX (zt_X11_needState hlt (d := d - 1) (by omega) g) zl_X11_112 dX11_size_32 ⟨rfl, rfl, Nat.le_of_ble_eq_true rfl⟩ ⟨by omega, by omega⟩ ⟨by omega, by omega⟩ ?_ ?_
    · rintro _ S8 ⟨⟨u7, rfl⟩, rfl⟩
      try dsimp only at h
      refine zw_aload_n hX dX11_size_35 rfl ?_
      obtain ⟨b9, g, h⟩ := zb_some h
      refine zw_getr hX zl_X11_21 dX11_size_36 g ?_
      refine zw_iload_n hX dX11_size_39 rfl ?_
      refine zw_iload_n hX dX11_size_40 rfl ?_
      obtain ⟨_, gi, h⟩ := zb_some h
      obtain ⟨r11, g, h⟩ := zb_some h
      refine zc_Vi (as := [.int i1, .int i2]) hX gi (zt_X2_measureOf (d := d - 1) (by omega) g) zl_X11_176 rfl dX11_size_41 ⟨rfl, rfl, Nat.le_of_ble_eq_true rfl⟩ ⟨by omega, by omega⟩ ?_
      obtain rfl := Option.some.inj h
      exact zw_iret hX hr dX11_size_44 rfl ⟨_, rfl, rfl⟩
    · rintro X S9 rfl
      obtain rfl := Option.some.inj h
      exact zx_out hX hxt rfl
  · rintro X S9 rfl
    obtain rfl := Option.some.inj h
    exact zx_out hX hxt rfl
set_option maxHeartbeats 4000000 in
set_option maxRecDepth 100000 in
theorem zt_X11_size_J21 {p : Program} {l : Launch} {e : Env} {R : Room} {s : State} {m : MethodId} {args : Array Value} {below : List Frame} {meth : Method} {c : Code} {V : zm_V} {mc ms d rc rs : Nat} (hlt : l.stackTraces = false) (hxt : ∀ x ∈ c.exceptionTable.toList, False) (hX : zm_X p R s m args meth c RX11 "size" cX11_size 3 zk_E V mc ms) (hr : meth.sig.returnType = (some .int)) (hR : R.frames = d ∧ R.locals = 64 * d) (hd : 7 ≤ d) {N : Nat} {a0 : Nat} {i1 : Int32} {i2 : Int32} {out : ((Int32 ⊕ String) × zm_S)} (hc : 2 ≤ rc ∧ 12 ≤ rs) {S : zm_S} (h : zf_X11_size_J21 N a0 i1 i2 S = some out) : zw p l e R s m args below meth c (vx_MQ below (zm_Qc zk_E V (zq_i out)) (zm_XC zk_E V (zq_x out)) args s mc ms (fun q => V.2.2.2.1 ≤ q)) 3 zk_E V mc ms 21 [(0, .ref a0), (1, .int i1), (2, .int i2)] [] S rc rs := by
  unfold zf_X11_size_J21 at h
  refine zw_iconst (v := (0 : Int32)) hX dX11_size_21 (by decide) ?_
  refine zw_sub (lv' := [(0, .ref a0), (1, .int i1), (2, .int i2)]) (List.forall_mem_cons.mpr ⟨rfl, (List.forall_mem_cons.mpr ⟨rfl, (List.forall_mem_cons.mpr ⟨rfl, zs_nil⟩)⟩)⟩) ?_
  exact zt_X11_size_J22 hlt hxt hX hr hR hd ⟨by omega, by omega⟩ h
set_option maxHeartbeats 4000000 in
set_option maxRecDepth 100000 in
theorem zt_X11_size {l : Launch} {V : zm_V} (hlt : l.stackTraces = false) {N : Nat} {S : zm_S} {out : ((Int32 ⊕ String) × zm_S)} {d : Nat} {a0 : Nat} {i1 : Int32} {i2 : Int32} (hd : 7 ≤ d) (h : zf_X11_size N a0 i1 i2 S = some out) : zm_Met l zk_E V yX11_size (.code yX11_size cX11_size 3 (some .int)) d [.ref a0, .int i1, .int i2] S 2 12 (zq_i out) (zq_x out) := by
  refine zm_of (by decide +kernel) (Nat.le_of_ble_eq_true rfl) ?_
  intro p e R s m args below meth c hRR hX hr hxt
  have hR : R.frames = d ∧ R.locals = 64 * d := by rw [hRR]; exact ⟨rfl, rfl⟩
  have hX : zm_X p R s m args meth c RX11 "size" cX11_size 3 zk_E V 2 12 := hX
  unfold zf_X11_size at h
  refine zw_sub (lv' := [(0, .ref a0), (1, .int i1), (2, .int i2)]) (List.forall_mem_cons.mpr ⟨rfl, (List.forall_mem_cons.mpr ⟨rfl, (List.forall_mem_cons.mpr ⟨rfl, zs_nil⟩)⟩)⟩) ?_
  refine zw_aload_n hX dX11_size_0 rfl ?_
  refine zw_iload_n hX dX11_size_1 rfl ?_
  obtain ⟨_, gi, h⟩ := zb_some h
  obtain ⟨r2, g, h⟩ := zb_some h
  refine zc_Vi (as := [.int i1]) hX gi (zt_X11_isSpace (d := d - 1) (by omega) g) zl_X11_166 rfl dX11_size_2 ⟨rfl, rfl, Nat.le_of_ble_eq_true rfl⟩ ⟨by omega, by omega⟩ ?_
  refine zw_if_eq (tgt := 21) hX dX11_size_5 (by decide) (fun c5 => ?_) (fun c5 => ?_)
  · rw [if_pos c5] at h
    refine zw_sub (lv' := [(0, .ref a0), (1, .int i1), (2, .int i2)]) (List.forall_mem_cons.mpr ⟨rfl, (List.forall_mem_cons.mpr ⟨rfl, (List.forall_mem_cons.mpr ⟨rfl, zs_nil⟩)⟩)⟩) ?_
    exact zt_X11_size_J21 hlt hxt hX hr hR hd ⟨by omega, by omega⟩ h
  · rw [if_neg c5] at h
    refine zw_iload_n hX dX11_size_8 rfl ?_
    refine zw_iconst (v := (0 : Int32)) hX dX11_size_9 (by decide) ?_
    refine zw_iconst (v := (2 : Int32)) hX dX11_size_10 (by decide) ?_
    obtain ⟨r13, g, h⟩ := zb_some h
    refine zc_Si (as := [.int i2, .int (0 : Int32), .int (2 : Int32)]) hX (zt_X11_isWithin (d := d - 1) (by omega) g) zl_X11_133 dX11_size_11 ⟨rfl, rfl, Nat.le_of_ble_eq_true rfl⟩ ⟨by omega, by omega⟩ ?_
    refine zw_if_eq (tgt := 21) hX dX11_size_14 (by decide) (fun c14 => ?_) (fun c14 => ?_)
    · rw [if_pos c14] at h
      refine zw_sub (lv' := [(0, .ref a0), (1, .int i1), (2, .int i2)]) (List.forall_mem_cons.mpr ⟨rfl, (List.forall_mem_cons.mpr ⟨rfl, (List.forall_mem_cons.mpr ⟨rfl, zs_nil⟩)⟩)⟩) ?_
      exact zt_X11_size_J21 hlt hxt hX hr hR hd ⟨by omega, by omega⟩ h
    · rw [if_neg c14] at h
      refine zw_iconst (v := (1 : Int32)) hX dX11_size_17 (by decide) ?_
      refine zw_goto (tgt := 22) hX dX11_size_18 (by decide) ?_
      refine zw_sub (lv' := [(0, .ref a0), (1, .int i1), (2, .int i2)]) (List.forall_mem_cons.mpr ⟨rfl, (List.forall_mem_cons.mpr ⟨rfl, (List.forall_mem_cons.mpr ⟨rfl, zs_nil⟩)⟩)⟩) ?_
      exact zt_X11_size_J22 hlt hxt hX hr hR hd ⟨by omega, by omega⟩ h
set_option maxHeartbeats 4000000 in
set_option maxRecDepth 100000 in
theorem zt_X11_isCell {l : Launch} {V : zm_V} {N : Nat} {S : zm_S} {out : (Int32 × zm_S)} {d : Nat} {i0 : Int32} {i1 : Int32} (hd : 2 ≤ d) (h : zf_X11_isCell N i0 i1 S = some out) : zm_Met l zk_E V yX11_isCell (.code yX11_isCell cX11_isCell 2 (some .boolean)) d [.int i0, .int i1] S 0 0 (zo_i out) zo_x := by
  refine zm_of (by decide +kernel) (Nat.le_of_ble_eq_true rfl) ?_
  intro p e R s m args below meth c hRR hX hr hxt
  have hR : R.frames = d ∧ R.locals = 64 * d := by rw [hRR]; exact ⟨rfl, rfl⟩
  have hX : zm_X p R s m args meth c RX11 "isCell" cX11_isCell 2 zk_E V 0 0 := hX
  unfold zf_X11_isCell at h
  refine zw_sub (lv' := [(0, .int i0), (1, .int i1)]) (List.forall_mem_cons.mpr ⟨rfl, (List.forall_mem_cons.mpr ⟨rfl, zs_nil⟩)⟩) ?_
  refine zw_iload_n hX dX11_isCell_0 rfl ?_
  refine zw_iconst (v := (0 : Int32)) hX dX11_isCell_1 (by decide) ?_
  refine zw_bipush (v := (23 : Int32)) hX dX11_isCell_2 (by decide) ?_
  obtain ⟨r2, g, h⟩ := zb_some h
  refine zc_Si (as := [.int i0, .int (0 : Int32), .int (23 : Int32)]) hX (zt_X11_isWithin (d := d - 1) (by omega) g) zl_X11_133 dX11_isCell_4 ⟨rfl, rfl, Nat.le_of_ble_eq_true rfl⟩ ⟨by omega, by omega⟩ ?_
  refine zw_if_eq (tgt := 24) hX dX11_isCell_7 (by decide) (fun c7 => ?_) (fun c7 => ?_)
  · rw [if_pos c7] at h
    refine zw_iconst (v := (0 : Int32)) hX dX11_isCell_24 (by decide) ?_
    obtain rfl := Option.some.inj h
    exact zw_iret hX hr dX11_isCell_25 rfl ⟨rfl, rfl⟩
  · rw [if_neg c7] at h
    refine zw_iload_n hX dX11_isCell_10 rfl ?_
    refine zw_iconst (v := (0 : Int32)) hX dX11_isCell_11 (by decide) ?_
    refine zw_bipush (v := (23 : Int32)) hX dX11_isCell_12 (by decide) ?_
    obtain ⟨r4, g, h⟩ := zb_some h
    refine zc_Si (as := [.int i1, .int (0 : Int32), .int (23 : Int32)]) hX (zt_X11_isWithin (d := d - 1) (by omega) g) zl_X11_133 dX11_isCell_14 ⟨rfl, rfl, Nat.le_of_ble_eq_true rfl⟩ ⟨by omega, by omega⟩ ?_
    refine zw_if_eq (tgt := 24) hX dX11_isCell_17 (by decide) (fun c17 => ?_) (fun c17 => ?_)
    · rw [if_pos c17] at h
      refine zw_iconst (v := (0 : Int32)) hX dX11_isCell_24 (by decide) ?_
      obtain rfl := Option.some.inj h
      exact zw_iret hX hr dX11_isCell_25 rfl ⟨rfl, rfl⟩
    · rw [if_neg c17] at h
      refine zw_iconst (v := (1 : Int32)) hX dX11_isCell_20 (by decide) ?_
      refine zw_goto (tgt := 25) hX dX11_isCell_21 (by decide) ?_
      obtain rfl := Option.some.inj h
      exact zw_iret hX hr dX11_isCell_25 rfl ⟨rfl, rfl⟩
set_option maxHeartbeats 4000000 in
set_option maxRecDepth 100000 in
theorem zt_X11_at {l : Launch} {V : zm_V} (hlt : l.stackTraces = false) {N : Nat} {S : zm_S} {out : ((Int32 ⊕ String) × zm_S)} {d : Nat} {a0 : Nat} {i1 : Int32} {i2 : Int32} (hd : 7 ≤ d) (h : zf_X11_at N a0 i1 i2 S = some out) : zm_Met l zk_E V yX11_at (.code yX11_at cX11_at 3 (some .int)) d [.ref a0, .int i1, .int i2] S 2 12 (zq_i out) (zq_x out) := by
  refine zm_of (by decide +kernel) (Nat.le_of_ble_eq_true rfl) ?_
  intro p e R s m args below meth c hRR hX hr hxt
  have hR : R.frames = d ∧ R.locals = 64 * d := by rw [hRR]; exact ⟨rfl, rfl⟩
  have hX : zm_X p R s m args meth c RX11 "at" cX11_at 3 zk_E V 2 12 := hX
  unfold zf_X11_at at h
  refine zw_sub (lv' := [(0, .ref a0), (1, .int i1), (2, .int i2)]) (List.forall_mem_cons.mpr ⟨rfl, (List.forall_mem_cons.mpr ⟨rfl, (List.forall_mem_cons.mpr ⟨rfl, zs_nil⟩)⟩)⟩) ?_
  refine zw_iload_n hX dX11_at_0 rfl ?_
  refine zw_iload_n hX dX11_at_1 rfl ?_
  obtain ⟨r2, g, h⟩ := zb_some h
  refine zc_Si (as := [.int i1, .int i2]) hX (zt_X11_isCell (d := d - 1) (by omega) g) zl_X11_179 dX11_at_2 ⟨rfl, rfl, Nat.le_of_ble_eq_true rfl⟩ ⟨by omega, by omega⟩ ?_
  obtain ⟨r, g, h⟩ := zb_some h
  refine zc_S (as := [.int r2.1]) hX (zt_X11_needArgument hlt (d := d - 1) (by omega) g) zl_X11_100 dX11_at_5 ⟨rfl, rfl, Nat.le_of_ble_eq_true rfl⟩ ⟨by omega, by omega⟩ ⟨by omega, by omega⟩ ?_ ?_
  · rintro _ S4 ⟨⟨u3, rfl⟩, rfl⟩
    try dsimp only at h
    refine zw_aload_n hX dX11_at_8 rfl ?_
    obtain ⟨b5, g, h⟩ := zb_some h
    refine zw_getr hX zl_X11_21 dX11_at_9 g ?_
    obtain ⟨v6, g, h⟩ := zb_some h
    refine zw_getNi hX zl_X11_119 dX11_at_12 g ?_
    obtain ⟨r, g, h⟩ := zb_some h
    refine zc_S (as := [.int v6]) hX (zt_X11_needState hlt (d := d - 1) (by omega) g) zl_X11_112 dX11_at_15 ⟨rfl, rfl, Nat.le_of_ble_eq_true rfl⟩ ⟨by omega, by omega⟩ ⟨by omega, by omega⟩ ?_ ?_
    · rintro _ S8 ⟨⟨u7, rfl⟩, rfl⟩
      try dsimp only at h
      refine zw_aload_n hX dX11_at_18 rfl ?_
      obtain ⟨b9, g, h⟩ := zb_some h
      refine zw_getr hX zl_X11_21 dX11_at_19 g ?_
      refine zw_iload_n hX dX11_at_22 rfl ?_
      refine zw_iload_n hX dX11_at_23 rfl ?_
      obtain ⟨_, gi, h⟩ := zb_some h
      obtain ⟨r11, g, h⟩ := zb_some h
      refine zc_Vi (as := [.int i1, .int i2]) hX gi (zt_X2_spaceAt (d := d - 1) (by omega) g) zl_X11_182 rfl dX11_at_24 ⟨rfl, rfl, Nat.le_of_ble_eq_true rfl⟩ ⟨by omega, by omega⟩ ?_
      obtain rfl := Option.some.inj h
      exact zw_iret hX hr dX11_at_27 rfl ⟨_, rfl, rfl⟩
    · rintro X S9 rfl
      obtain rfl := Option.some.inj h
      exact zx_out hX hxt rfl
  · rintro X S9 rfl
    obtain rfl := Option.some.inj h
    exact zx_out hX hxt rfl
set_option maxHeartbeats 4000000 in
set_option maxRecDepth 100000 in
theorem zt_X11_isSpaceOrOutside {l : Launch} {V : zm_V} {N : Nat} {S : zm_S} {out : (Int32 × zm_S)} {d : Nat} {a0 : Nat} {i1 : Int32} (hd : 3 ≤ d) (h : zf_X11_isSpaceOrOutside N a0 i1 S = some out) : zm_Met l zk_E V yX11_isSpaceOrOutside (.code yX11_isSpaceOrOutside cX11_isSpaceOrOutside 2 (some .boolean)) d [.ref a0, .int i1] S 0 0 (zo_i out) zo_x := by
  refine zm_of (by decide +kernel) (Nat.le_of_ble_eq_true rfl) ?_
  intro p e R s m args below meth c hRR hX hr hxt
  have hR : R.frames = d ∧ R.locals = 64 * d := by rw [hRR]; exact ⟨rfl, rfl⟩
  have hX : zm_X p R s m args meth c RX11 "isSpaceOrOutside" cX11_isSpaceOrOutside 2 zk_E V 0 0 := hX
  unfold zf_X11_isSpaceOrOutside at h
  refine zw_sub (lv' := [(0, .ref a0), (1, .int i1)]) (List.forall_mem_cons.mpr ⟨rfl, (List.forall_mem_cons.mpr ⟨rfl, zs_nil⟩)⟩) ?_
  refine zw_aload_n hX dX11_isSpaceOrOutside_0 rfl ?_
  refine zw_iload_n hX dX11_isSpaceOrOutside_1 rfl ?_
  obtain ⟨_, gi, h⟩ := zb_some h
  obtain ⟨r2, g, h⟩ := zb_some h
  refine zc_Vi (as := [.int i1]) hX gi (zt_X11_isSpace (d := d - 1) (by omega) g) zl_X11_166 rfl dX11_isSpaceOrOutside_2 ⟨rfl, rfl, Nat.le_of_ble_eq_true rfl⟩ ⟨by omega, by omega⟩ ?_
  refine zw_if_ne (tgt := 23) hX dX11_isSpaceOrOutside_5 (by decide) (fun c5 => ?_) (fun c5 => ?_)
  · rw [if_neg c5] at h
    refine zw_iconst (v := (1 : Int32)) hX dX11_isSpaceOrOutside_23 (by decide) ?_
    refine zw_goto (tgt := 28) hX dX11_isSpaceOrOutside_24 (by decide) ?_
    obtain rfl := Option.some.inj h
    exact zw_iret hX hr dX11_isSpaceOrOutside_28 rfl ⟨rfl, rfl⟩
  · rw [if_pos c5] at h
    refine zw_iload_n hX dX11_isSpaceOrOutside_8 rfl ?_
    refine zw_iconst (v := (-1 : Int32)) hX dX11_isSpaceOrOutside_9 (by decide) ?_
    refine zw_icmp_ne (tgt := 27) hX dX11_isSpaceOrOutside_10 (by decide) (fun c10 => ?_) (fun c10 => ?_)
    · rw [if_neg c10] at h
      refine zw_iconst (v := (0 : Int32)) hX dX11_isSpaceOrOutside_27 (by decide) ?_
      obtain rfl := Option.some.inj h
      exact zw_iret hX hr dX11_isSpaceOrOutside_28 rfl ⟨rfl, rfl⟩
    · rw [if_pos c10] at h
      refine zw_aload_n hX dX11_isSpaceOrOutside_13 rfl ?_
      obtain ⟨b3, g, h⟩ := zb_some h
      refine zw_getr hX zl_X11_21 dX11_isSpaceOrOutside_14 g ?_
      obtain ⟨v4, g, h⟩ := zb_some h
      refine zw_getNi hX zl_X11_147 dX11_isSpaceOrOutside_17 g ?_
      refine zw_if_le (tgt := 27) hX dX11_isSpaceOrOutside_20 (by decide) (fun c20 => ?_) (fun c20 => ?_)
      · rw [if_pos c20] at h
        refine zw_iconst (v := (0 : Int32)) hX dX11_isSpaceOrOutside_27 (by decide) ?_
        obtain rfl := Option.some.inj h
        exact zw_iret hX hr dX11_isSpaceOrOutside_28 rfl ⟨rfl, rfl⟩
      · rw [if_neg c20] at h
        refine zw_iconst (v := (1 : Int32)) hX dX11_isSpaceOrOutside_23 (by decide) ?_
        refine zw_goto (tgt := 28) hX dX11_isSpaceOrOutside_24 (by decide) ?_
        obtain rfl := Option.some.inj h
        exact zw_iret hX hr dX11_isSpaceOrOutside_28 rfl ⟨rfl, rfl⟩
set_option maxHeartbeats 4000000 in
set_option maxRecDepth 100000 in
theorem zt_X11_between_J21 {p : Program} {l : Launch} {e : Env} {R : Room} {s : State} {m : MethodId} {args : Array Value} {below : List Frame} {meth : Method} {c : Code} {V : zm_V} {mc ms d rc rs : Nat} (hlt : l.stackTraces = false) (hxt : ∀ x ∈ c.exceptionTable.toList, False) (hX : zm_X p R s m args meth c RX11 "between" cX11_between 3 zk_E V mc ms) (hr : meth.sig.returnType = (some .int)) (hR : R.frames = d ∧ R.locals = 64 * d) (hd : 7 ≤ d) {N : Nat} {a0 : Nat} {i1 : Int32} {i2 : Int32} {t0 : Int32} {out : ((Int32 ⊕ String) × zm_S)} (hc : 2 ≤ rc ∧ 12 ≤ rs) {S : zm_S} (h : zf_X11_between_J21 N a0 i1 i2 t0 S = some out) : zw p l e R s m args below meth c (vx_MQ below (zm_Qc zk_E V (zq_i out)) (zm_XC zk_E V (zq_x out)) args s mc ms (fun q => V.2.2.2.1 ≤ q)) 3 zk_E V mc ms 21 [(0, .ref a0), (1, .int i1), (2, .int i2)] [.int t0] S rc rs := by
  unfold zf_X11_between_J21 at h
  obtain ⟨r, g, h⟩ := zb_some h
  refine zc_S (as := [.int t0]) hX (zt_X11_needArgument hlt (d := d - 1) (by omega) g) zl_X11_100 dX11_between_21 ⟨rfl, rfl, Nat.le_of_ble_eq_true rfl⟩ ⟨by omega, by omega⟩ ⟨by omega, by omega⟩ ?_ ?_
  · rintro _ S4 ⟨⟨u3, rfl⟩, rfl⟩
    try dsimp only at h
    refine zw_aload_n hX dX11_between_24 rfl ?_
    obtain ⟨b5, g, h⟩ := zb_some h
    refine zw_getr hX zl_X11_21 dX11_between_25 g ?_
    obtain ⟨v6, g, h⟩ := zb_some h
    refine zw_getNi hX zl_X11_119 dX11_between_28 g ?_
    obtain ⟨r, g, h⟩ := zb_some h
    refine zc_S (as := [.int v6]) hX (zt_X11_needState hlt (d := d - 1) (by omega) g) zl_X11_112 dX11_between_31 ⟨rfl, rfl, Nat.le_of_ble_eq_true rfl⟩ ⟨by omega, by omega⟩ ⟨by omega, by omega⟩ ?_ ?_
    · rintro _ S8 ⟨⟨u7, rfl⟩, rfl⟩
      try dsimp only at h
      refine zw_aload_n hX dX11_between_34 rfl ?_
      obtain ⟨b9, g, h⟩ := zb_some h
      refine zw_getr hX zl_X11_21 dX11_between_35 g ?_
      refine zw_iload_n hX dX11_between_38 rfl ?_
      refine zw_iload_n hX dX11_between_39 rfl ?_
      obtain ⟨_, gi, h⟩ := zb_some h
      obtain ⟨r11, g, h⟩ := zb_some h
      refine zc_Vi (as := [.int i1, .int i2]) hX gi (zt_X2_lengthBetween (d := d - 1) (by omega) g) zl_X11_188 rfl dX11_between_40 ⟨rfl, rfl, Nat.le_of_ble_eq_true rfl⟩ ⟨by omega, by omega⟩ ?_
      obtain rfl := Option.some.inj h
      exact zw_iret hX hr dX11_between_43 rfl ⟨_, rfl, rfl⟩
    · rintro X S9 rfl
      obtain rfl := Option.some.inj h
      exact zx_out hX hxt rfl
  · rintro X S9 rfl
    obtain rfl := Option.some.inj h
    exact zx_out hX hxt rfl
set_option maxHeartbeats 4000000 in
set_option maxRecDepth 100000 in
theorem zt_X11_between_J20 {p : Program} {l : Launch} {e : Env} {R : Room} {s : State} {m : MethodId} {args : Array Value} {below : List Frame} {meth : Method} {c : Code} {V : zm_V} {mc ms d rc rs : Nat} (hlt : l.stackTraces = false) (hxt : ∀ x ∈ c.exceptionTable.toList, False) (hX : zm_X p R s m args meth c RX11 "between" cX11_between 3 zk_E V mc ms) (hr : meth.sig.returnType = (some .int)) (hR : R.frames = d ∧ R.locals = 64 * d) (hd : 7 ≤ d) {N : Nat} {a0 : Nat} {i1 : Int32} {i2 : Int32} {out : ((Int32 ⊕ String) × zm_S)} (hc : 2 ≤ rc ∧ 12 ≤ rs) {S : zm_S} (h : zf_X11_between_J20 N a0 i1 i2 S = some out) : zw p l e R s m args below meth c (vx_MQ below (zm_Qc zk_E V (zq_i out)) (zm_XC zk_E V (zq_x out)) args s mc ms (fun q => V.2.2.2.1 ≤ q)) 3 zk_E V mc ms 20 [(0, .ref a0), (1, .int i1), (2, .int i2)] [] S rc rs := by
  unfold zf_X11_between_J20 at h
  refine zw_iconst (v := (0 : Int32)) hX dX11_between_20 (by decide) ?_
  refine zw_sub (lv' := [(0, .ref a0), (1, .int i1), (2, .int i2)]) (List.forall_mem_cons.mpr ⟨rfl, (List.forall_mem_cons.mpr ⟨rfl, (List.forall_mem_cons.mpr ⟨rfl, zs_nil⟩)⟩)⟩) ?_
  exact zt_X11_between_J21 hlt hxt hX hr hR hd ⟨by omega, by omega⟩ h
set_option maxHeartbeats 4000000 in
set_option maxRecDepth 100000 in
theorem zt_X11_between {l : Launch} {V : zm_V} (hlt : l.stackTraces = false) {N : Nat} {S : zm_S} {out : ((Int32 ⊕ String) × zm_S)} {d : Nat} {a0 : Nat} {i1 : Int32} {i2 : Int32} (hd : 7 ≤ d) (h : zf_X11_between N a0 i1 i2 S = some out) : zm_Met l zk_E V yX11_between (.code yX11_between cX11_between 3 (some .int)) d [.ref a0, .int i1, .int i2] S 2 12 (zq_i out) (zq_x out) := by
  refine zm_of (by decide +kernel) (Nat.le_of_ble_eq_true rfl) ?_
  intro p e R s m args below meth c hRR hX hr hxt
  have hR : R.frames = d ∧ R.locals = 64 * d := by rw [hRR]; exact ⟨rfl, rfl⟩
  have hX : zm_X p R s m args meth c RX11 "between" cX11_between 3 zk_E V 2 12 := hX
  unfold zf_X11_between at h
  refine zw_sub (lv' := [(0, .ref a0), (1, .int i1), (2, .int i2)]) (List.forall_mem_cons.mpr ⟨rfl, (List.forall_mem_cons.mpr ⟨rfl, (List.forall_mem_cons.mpr ⟨rfl, zs_nil⟩)⟩)⟩) ?_
  refine zw_aload_n hX dX11_between_0 rfl ?_
  refine zw_iload_n hX dX11_between_1 rfl ?_
  obtain ⟨_, gi, h⟩ := zb_some h
  obtain ⟨r2, g, h⟩ := zb_some h
  refine zc_Vi (as := [.int i1]) hX gi (zt_X11_isSpace (d := d - 1) (by omega) g) zl_X11_166 rfl dX11_between_2 ⟨rfl, rfl, Nat.le_of_ble_eq_true rfl⟩ ⟨by omega, by omega⟩ ?_
  refine zw_if_eq (tgt := 20) hX dX11_between_5 (by decide) (fun c5 => ?_) (fun c5 => ?_)
  · rw [if_pos c5] at h
    refine zw_sub (lv' := [(0, .ref a0), (1, .int i1), (2, .int i2)]) (List.forall_mem_cons.mpr ⟨rfl, (List.forall_mem_cons.mpr ⟨rfl, (List.forall_mem_cons.mpr ⟨rfl, zs_nil⟩)⟩)⟩) ?_
    exact zt_X11_between_J20 hlt hxt hX hr hR hd ⟨by omega, by omega⟩ h
  · rw [if_neg c5] at h
    refine zw_aload_n hX dX11_between_8 rfl ?_
    refine zw_iload_n hX dX11_between_9 rfl ?_
    obtain ⟨_, gi, h⟩ := zb_some h
    obtain ⟨r13, g, h⟩ := zb_some h
    refine zc_Vi (as := [.int i2]) hX gi (zt_X11_isSpaceOrOutside (d := d - 1) (by omega) g) zl_X11_185 rfl dX11_between_10 ⟨rfl, rfl, Nat.le_of_ble_eq_true rfl⟩ ⟨by omega, by omega⟩ ?_
    refine zw_if_eq (tgt := 20) hX dX11_between_13 (by decide) (fun c13 => ?_) (fun c13 => ?_)
    · rw [if_pos c13] at h
      refine zw_sub (lv' := [(0, .ref a0), (1, .int i1), (2, .int i2)]) (List.forall_mem_cons.mpr ⟨rfl, (List.forall_mem_cons.mpr ⟨rfl, (List.forall_mem_cons.mpr ⟨rfl, zs_nil⟩)⟩)⟩) ?_
      exact zt_X11_between_J20 hlt hxt hX hr hR hd ⟨by omega, by omega⟩ h
    · rw [if_neg c13] at h
      refine zw_iconst (v := (1 : Int32)) hX dX11_between_16 (by decide) ?_
      refine zw_goto (tgt := 21) hX dX11_between_17 (by decide) ?_
      refine zw_sub (lv' := [(0, .ref a0), (1, .int i1), (2, .int i2)]) (List.forall_mem_cons.mpr ⟨rfl, (List.forall_mem_cons.mpr ⟨rfl, (List.forall_mem_cons.mpr ⟨rfl, zs_nil⟩)⟩)⟩) ?_
      exact zt_X11_between_J21 hlt hxt hX hr hR hd ⟨by omega, by omega⟩ h
set_option maxHeartbeats 4000000 in
set_option maxRecDepth 100000 in
theorem zt_X11_way_J21 {p : Program} {l : Launch} {e : Env} {R : Room} {s : State} {m : MethodId} {args : Array Value} {below : List Frame} {meth : Method} {c : Code} {V : zm_V} {mc ms d rc rs : Nat} (hlt : l.stackTraces = false) (hxt : ∀ x ∈ c.exceptionTable.toList, False) (hX : zm_X p R s m args meth c RX11 "way" cX11_way 3 zk_E V mc ms) (hr : meth.sig.returnType = (some .int)) (hR : R.frames = d ∧ R.locals = 64 * d) (hd : 7 ≤ d) {N : Nat} {a0 : Nat} {i1 : Int32} {i2 : Int32} {t0 : Int32} {out : ((Int32 ⊕ String) × zm_S)} (hc : 2 ≤ rc ∧ 12 ≤ rs) {S : zm_S} (h : zf_X11_way_J21 N a0 i1 i2 t0 S = some out) : zw p l e R s m args below meth c (vx_MQ below (zm_Qc zk_E V (zq_i out)) (zm_XC zk_E V (zq_x out)) args s mc ms (fun q => V.2.2.2.1 ≤ q)) 3 zk_E V mc ms 21 [(0, .ref a0), (1, .int i1), (2, .int i2)] [.int t0] S rc rs := by
  unfold zf_X11_way_J21 at h
  obtain ⟨r, g, h⟩ := zb_some h
  refine zc_S (as := [.int t0]) hX (zt_X11_needArgument hlt (d := d - 1) (by omega) g) zl_X11_100 dX11_way_21 ⟨rfl, rfl, Nat.le_of_ble_eq_true rfl⟩ ⟨by omega, by omega⟩ ⟨by omega, by omega⟩ ?_ ?_
  · rintro _ S4 ⟨⟨u3, rfl⟩, rfl⟩
    try dsimp only at h
    refine zw_aload_n hX dX11_way_24 rfl ?_
    obtain ⟨b5, g, h⟩ := zb_some h
    refine zw_getr hX zl_X11_21 dX11_way_25 g ?_
    obtain ⟨v6, g, h⟩ := zb_some h
    refine zw_getNi hX zl_X11_119 dX11_way_28 g ?_
    obtain ⟨r, g, h⟩ := zb_some h
    refine zc_S (as := [.int v6]) hX (zt_X11_needState hlt (d := d - 1) (by omega) g) zl_X11_112 dX11_way_31 ⟨rfl, rfl, Nat.le_of_ble_eq_true rfl⟩ ⟨by omega, by omega⟩ ⟨by omega, by omega⟩ ?_ ?_
    · rintro _ S8 ⟨⟨u7, rfl⟩, rfl⟩
      try dsimp only at h
      refine zw_aload_n hX dX11_way_34 rfl ?_
      obtain ⟨b9, g, h⟩ := zb_some h
      refine zw_getr hX zl_X11_21 dX11_way_35 g ?_
      refine zw_iload_n hX dX11_way_38 rfl ?_
      refine zw_iload_n hX dX11_way_39 rfl ?_
      obtain ⟨_, gi, h⟩ := zb_some h
      obtain ⟨r11, g, h⟩ := zb_some h
      refine zc_Vi (as := [.int i1, .int i2]) hX gi (zt_X2_doorsOnWay (d := d - 1) (by omega) g) zl_X11_191 rfl dX11_way_40 ⟨rfl, rfl, Nat.le_of_ble_eq_true rfl⟩ ⟨by omega, by omega⟩ ?_
      obtain rfl := Option.some.inj h
      exact zw_iret hX hr dX11_way_43 rfl ⟨_, rfl, rfl⟩
    · rintro X S9 rfl
      obtain rfl := Option.some.inj h
      exact zx_out hX hxt rfl
  · rintro X S9 rfl
    obtain rfl := Option.some.inj h
    exact zx_out hX hxt rfl
set_option maxHeartbeats 4000000 in
set_option maxRecDepth 100000 in
theorem zt_X11_way_J20 {p : Program} {l : Launch} {e : Env} {R : Room} {s : State} {m : MethodId} {args : Array Value} {below : List Frame} {meth : Method} {c : Code} {V : zm_V} {mc ms d rc rs : Nat} (hlt : l.stackTraces = false) (hxt : ∀ x ∈ c.exceptionTable.toList, False) (hX : zm_X p R s m args meth c RX11 "way" cX11_way 3 zk_E V mc ms) (hr : meth.sig.returnType = (some .int)) (hR : R.frames = d ∧ R.locals = 64 * d) (hd : 7 ≤ d) {N : Nat} {a0 : Nat} {i1 : Int32} {i2 : Int32} {out : ((Int32 ⊕ String) × zm_S)} (hc : 2 ≤ rc ∧ 12 ≤ rs) {S : zm_S} (h : zf_X11_way_J20 N a0 i1 i2 S = some out) : zw p l e R s m args below meth c (vx_MQ below (zm_Qc zk_E V (zq_i out)) (zm_XC zk_E V (zq_x out)) args s mc ms (fun q => V.2.2.2.1 ≤ q)) 3 zk_E V mc ms 20 [(0, .ref a0), (1, .int i1), (2, .int i2)] [] S rc rs := by
  unfold zf_X11_way_J20 at h
  refine zw_iconst (v := (0 : Int32)) hX dX11_way_20 (by decide) ?_
  refine zw_sub (lv' := [(0, .ref a0), (1, .int i1), (2, .int i2)]) (List.forall_mem_cons.mpr ⟨rfl, (List.forall_mem_cons.mpr ⟨rfl, (List.forall_mem_cons.mpr ⟨rfl, zs_nil⟩)⟩)⟩) ?_
  exact zt_X11_way_J21 hlt hxt hX hr hR hd ⟨by omega, by omega⟩ h
set_option maxHeartbeats 4000000 in
set_option maxRecDepth 100000 in
theorem zt_X11_way {l : Launch} {V : zm_V} (hlt : l.stackTraces = false) {N : Nat} {S : zm_S} {out : ((Int32 ⊕ String) × zm_S)} {d : Nat} {a0 : Nat} {i1 : Int32} {i2 : Int32} (hd : 7 ≤ d) (h : zf_X11_way N a0 i1 i2 S = some out) : zm_Met l zk_E V yX11_way (.code yX11_way cX11_way 3 (some .int)) d [.ref a0, .int i1, .int i2] S 2 12 (zq_i out) (zq_x out) := by
  refine zm_of (by decide +kernel) (Nat.le_of_ble_eq_true rfl) ?_
  intro p e R s m args below meth c hRR hX hr hxt
  have hR : R.frames = d ∧ R.locals = 64 * d := by rw [hRR]; exact ⟨rfl, rfl⟩
  have hX : zm_X p R s m args meth c RX11 "way" cX11_way 3 zk_E V 2 12 := hX
  unfold zf_X11_way at h
  refine zw_sub (lv' := [(0, .ref a0), (1, .int i1), (2, .int i2)]) (List.forall_mem_cons.mpr ⟨rfl, (List.forall_mem_cons.mpr ⟨rfl, (List.forall_mem_cons.mpr ⟨rfl, zs_nil⟩)⟩)⟩) ?_
  refine zw_aload_n hX dX11_way_0 rfl ?_
  refine zw_iload_n hX dX11_way_1 rfl ?_
  obtain ⟨_, gi, h⟩ := zb_some h
  obtain ⟨r2, g, h⟩ := zb_some h
  refine zc_Vi (as := [.int i1]) hX gi (zt_X11_isSpaceOrOutside (d := d - 1) (by omega) g) zl_X11_185 rfl dX11_way_2 ⟨rfl, rfl, Nat.le_of_ble_eq_true rfl⟩ ⟨by omega, by omega⟩ ?_
  refine zw_if_eq (tgt := 20) hX dX11_way_5 (by decide) (fun c5 => ?_) (fun c5 => ?_)
  · rw [if_pos c5] at h
    refine zw_sub (lv' := [(0, .ref a0), (1, .int i1), (2, .int i2)]) (List.forall_mem_cons.mpr ⟨rfl, (List.forall_mem_cons.mpr ⟨rfl, (List.forall_mem_cons.mpr ⟨rfl, zs_nil⟩)⟩)⟩) ?_
    exact zt_X11_way_J20 hlt hxt hX hr hR hd ⟨by omega, by omega⟩ h
  · rw [if_neg c5] at h
    refine zw_aload_n hX dX11_way_8 rfl ?_
    refine zw_iload_n hX dX11_way_9 rfl ?_
    obtain ⟨_, gi, h⟩ := zb_some h
    obtain ⟨r13, g, h⟩ := zb_some h
    refine zc_Vi (as := [.int i2]) hX gi (zt_X11_isSpaceOrOutside (d := d - 1) (by omega) g) zl_X11_185 rfl dX11_way_10 ⟨rfl, rfl, Nat.le_of_ble_eq_true rfl⟩ ⟨by omega, by omega⟩ ?_
    refine zw_if_eq (tgt := 20) hX dX11_way_13 (by decide) (fun c13 => ?_) (fun c13 => ?_)
    · rw [if_pos c13] at h
      refine zw_sub (lv' := [(0, .ref a0), (1, .int i1), (2, .int i2)]) (List.forall_mem_cons.mpr ⟨rfl, (List.forall_mem_cons.mpr ⟨rfl, (List.forall_mem_cons.mpr ⟨rfl, zs_nil⟩)⟩)⟩) ?_
      exact zt_X11_way_J20 hlt hxt hX hr hR hd ⟨by omega, by omega⟩ h
    · rw [if_neg c13] at h
      refine zw_iconst (v := (1 : Int32)) hX dX11_way_16 (by decide) ?_
      refine zw_goto (tgt := 21) hX dX11_way_17 (by decide) ?_
      refine zw_sub (lv' := [(0, .ref a0), (1, .int i1), (2, .int i2)]) (List.forall_mem_cons.mpr ⟨rfl, (List.forall_mem_cons.mpr ⟨rfl, (List.forall_mem_cons.mpr ⟨rfl, zs_nil⟩)⟩)⟩) ?_
      exact zt_X11_way_J21 hlt hxt hX hr hR hd ⟨by omega, by omega⟩ h
set_option maxHeartbeats 4000000 in
set_option maxRecDepth 100000 in
theorem zt_X11_name_J49 {p : Program} {l : Launch} {e : Env} {R : Room} {s : State} {m : MethodId} {args : Array Value} {below : List Frame} {meth : Method} {c : Code} {V : zm_V} {mc ms d rc rs : Nat} (hlt : l.stackTraces = false) (hxt : ∀ x ∈ c.exceptionTable.toList, False) (hX : zm_X p R s m args meth c RX11 "name" cX11_name 4 zk_E V mc ms) (hr : meth.sig.returnType = (some .int)) (hR : R.frames = d ∧ R.locals = 64 * d) (hd : 7 ≤ d) {N : Nat} {a0 : Nat} {i1 : Int32} {i2 : Int32} {t0 : Int32} {out : ((Int32 ⊕ String) × zm_S)} (hc : 1 ≤ rc ∧ 6 ≤ rs) {S : zm_S} (h : zf_X11_name_J49 N a0 i1 i2 t0 S = some out) : zw p l e R s m args below meth c (vx_MQ below (zm_Qc zk_E V (zq_i out)) (zm_XC zk_E V (zq_x out)) args s mc ms (fun q => V.2.2.2.1 ≤ q)) 4 zk_E V mc ms 49 [(0, .ref a0), (1, .int i1), (2, .int i2)] [.int t0] S rc rs := by
  unfold zf_X11_name_J49 at h
  obtain ⟨r, g, h⟩ := zb_some h
  refine zc_S (as := [.int t0]) hX (zt_X11_needState hlt (d := d - 1) (by omega) g) zl_X11_112 dX11_name_49 ⟨rfl, rfl, Nat.le_of_ble_eq_true rfl⟩ ⟨by omega, by omega⟩ ⟨by omega, by omega⟩ ?_ ?_
  · rintro _ S8 ⟨⟨u7, rfl⟩, rfl⟩
    try dsimp only at h
    refine zw_aload_n hX dX11_name_52 rfl ?_
    obtain ⟨b9, g, h⟩ := zb_some h
    refine zw_getr hX zl_X11_21 dX11_name_53 g ?_
    obtain ⟨b10, g, h⟩ := zb_some h
    refine zw_getNr hX zl_X11_194 dX11_name_56 g ?_
    refine zw_iload_n hX dX11_name_59 rfl ?_
    obtain ⟨v11, g, h⟩ := zb_some h
    refine zw_xi hX dX11_name_60 g ?_
    refine zw_istore_n hX dX11_name_61 (by decide) ?_
    refine zw_aload_n hX dX11_name_62 rfl ?_
    obtain ⟨b12, g, h⟩ := zb_some h
    refine zw_getr hX zl_X11_21 dX11_name_63 g ?_
    obtain ⟨b13, g, h⟩ := zb_some h
    refine zw_getNr hX zl_X11_194 dX11_name_66 g ?_
    refine zw_iload_n hX dX11_name_69 rfl ?_
    refine zw_iload_n hX dX11_name_70 rfl ?_
    obtain ⟨S14, g, h⟩ := zb_some h
    refine zw_si hX dX11_name_71 g ?_
    refine zw_iload_n hX dX11_name_72 rfl ?_
    obtain rfl := Option.some.inj h
    exact zw_iret hX hr dX11_name_73 rfl ⟨_, rfl, rfl⟩
  · rintro X S9 rfl
    obtain rfl := Option.some.inj h
    exact zx_out hX hxt rfl
set_option maxHeartbeats 4000000 in
set_option maxRecDepth 100000 in
theorem zt_X11_name_J48 {p : Program} {l : Launch} {e : Env} {R : Room} {s : State} {m : MethodId} {args : Array Value} {below : List Frame} {meth : Method} {c : Code} {V : zm_V} {mc ms d rc rs : Nat} (hlt : l.stackTraces = false) (hxt : ∀ x ∈ c.exceptionTable.toList, False) (hX : zm_X p R s m args meth c RX11 "name" cX11_name 4 zk_E V mc ms) (hr : meth.sig.returnType = (some .int)) (hR : R.frames = d ∧ R.locals = 64 * d) (hd : 7 ≤ d) {N : Nat} {a0 : Nat} {i1 : Int32} {i2 : Int32} {out : ((Int32 ⊕ String) × zm_S)} (hc : 1 ≤ rc ∧ 6 ≤ rs) {S : zm_S} (h : zf_X11_name_J48 N a0 i1 i2 S = some out) : zw p l e R s m args below meth c (vx_MQ below (zm_Qc zk_E V (zq_i out)) (zm_XC zk_E V (zq_x out)) args s mc ms (fun q => V.2.2.2.1 ≤ q)) 4 zk_E V mc ms 48 [(0, .ref a0), (1, .int i1), (2, .int i2)] [] S rc rs := by
  unfold zf_X11_name_J48 at h
  refine zw_iconst (v := (0 : Int32)) hX dX11_name_48 (by decide) ?_
  refine zw_sub (lv' := [(0, .ref a0), (1, .int i1), (2, .int i2)]) (List.forall_mem_cons.mpr ⟨rfl, (List.forall_mem_cons.mpr ⟨rfl, (List.forall_mem_cons.mpr ⟨rfl, zs_nil⟩)⟩)⟩) ?_
  exact zt_X11_name_J49 hlt hxt hX hr hR hd ⟨by omega, by omega⟩ h
set_option maxHeartbeats 4000000 in
set_option maxRecDepth 100000 in
theorem zt_X11_name_J24 {p : Program} {l : Launch} {e : Env} {R : Room} {s : State} {m : MethodId} {args : Array Value} {below : List Frame} {meth : Method} {c : Code} {V : zm_V} {mc ms d rc rs : Nat} (hlt : l.stackTraces = false) (hxt : ∀ x ∈ c.exceptionTable.toList, False) (hX : zm_X p R s m args meth c RX11 "name" cX11_name 4 zk_E V mc ms) (hr : meth.sig.returnType = (some .int)) (hR : R.frames = d ∧ R.locals = 64 * d) (hd : 7 ≤ d) {N : Nat} {a0 : Nat} {i1 : Int32} {i2 : Int32} {t0 : Int32} {out : ((Int32 ⊕ String) × zm_S)} (hc : 2 ≤ rc ∧ 12 ≤ rs) {S : zm_S} (h : zf_X11_name_J24 N a0 i1 i2 t0 S = some out) : zw p l e R s m args below meth c (vx_MQ below (zm_Qc zk_E V (zq_i out)) (zm_XC zk_E V (zq_x out)) args s mc ms (fun q => V.2.2.2.1 ≤ q)) 4 zk_E V mc ms 24 [(0, .ref a0), (1, .int i1), (2, .int i2)] [.int t0] S rc rs := by
  unfold zf_X11_name_J24 at h
  obtain ⟨r, g, h⟩ := zb_some h
  refine zc_S (as := [.int t0]) hX (zt_X11_needArgument hlt (d := d - 1) (by omega) g) zl_X11_100 dX11_name_24 ⟨rfl, rfl, Nat.le_of_ble_eq_true rfl⟩ ⟨by omega, by omega⟩ ⟨by omega, by omega⟩ ?_ ?_
  · rintro _ S4 ⟨⟨u3, rfl⟩, rfl⟩
    try dsimp only at h
    refine zw_aload_n hX dX11_name_27 rfl ?_
    obtain ⟨b5, g, h⟩ := zb_some h
    refine zw_getr hX zl_X11_21 dX11_name_28 g ?_
    obtain ⟨v6, g, h⟩ := zb_some h
    refine zw_getNi hX zl_X11_119 dX11_name_31 g ?_
    refine zw_if_eq (tgt := 48) hX dX11_name_34 (by decide) (fun c34 => ?_) (fun c34 => ?_)
    · rw [if_pos c34] at h
      refine zw_sub (lv' := [(0, .ref a0), (1, .int i1), (2, .int i2)]) (List.forall_mem_cons.mpr ⟨rfl, (List.forall_mem_cons.mpr ⟨rfl, (List.forall_mem_cons.mpr ⟨rfl, zs_nil⟩)⟩)⟩) ?_
      exact zt_X11_name_J48 hlt hxt hX hr hR hd ⟨by omega, by omega⟩ h
    · rw [if_neg c34] at h
      refine zw_aload_n hX dX11_name_37 rfl ?_
      obtain ⟨v15, g, h⟩ := zb_some h
      refine zw_geti hX zl_X11_104 dX11_name_38 g ?_
      refine zw_if_ne (tgt := 48) hX dX11_name_41 (by decide) (fun c41 => ?_) (fun c41 => ?_)
      · rw [if_neg c41] at h
        refine zw_sub (lv' := [(0, .ref a0), (1, .int i1), (2, .int i2)]) (List.forall_mem_cons.mpr ⟨rfl, (List.forall_mem_cons.mpr ⟨rfl, (List.forall_mem_cons.mpr ⟨rfl, zs_nil⟩)⟩)⟩) ?_
        exact zt_X11_name_J48 hlt hxt hX hr hR hd ⟨by omega, by omega⟩ h
      · rw [if_pos c41] at h
        refine zw_iconst (v := (1 : Int32)) hX dX11_name_44 (by decide) ?_
        refine zw_goto (tgt := 49) hX dX11_name_45 (by decide) ?_
        refine zw_sub (lv' := [(0, .ref a0), (1, .int i1), (2, .int i2)]) (List.forall_mem_cons.mpr ⟨rfl, (List.forall_mem_cons.mpr ⟨rfl, (List.forall_mem_cons.mpr ⟨rfl, zs_nil⟩)⟩)⟩) ?_
        exact zt_X11_name_J49 hlt hxt hX hr hR hd ⟨by omega, by omega⟩ h
  · rintro X S9 rfl
    obtain rfl := Option.some.inj h
    exact zx_out hX hxt rfl
set_option maxHeartbeats 4000000 in
set_option maxRecDepth 100000 in
theorem zt_X11_name_J23 {p : Program} {l : Launch} {e : Env} {R : Room} {s : State} {m : MethodId} {args : Array Value} {below : List Frame} {meth : Method} {c : Code} {V : zm_V} {mc ms d rc rs : Nat} (hlt : l.stackTraces = false) (hxt : ∀ x ∈ c.exceptionTable.toList, False) (hX : zm_X p R s m args meth c RX11 "name" cX11_name 4 zk_E V mc ms) (hr : meth.sig.returnType = (some .int)) (hR : R.frames = d ∧ R.locals = 64 * d) (hd : 7 ≤ d) {N : Nat} {a0 : Nat} {i1 : Int32} {i2 : Int32} {out : ((Int32 ⊕ String) × zm_S)} (hc : 2 ≤ rc ∧ 12 ≤ rs) {S : zm_S} (h : zf_X11_name_J23 N a0 i1 i2 S = some out) : zw p l e R s m args below meth c (vx_MQ below (zm_Qc zk_E V (zq_i out)) (zm_XC zk_E V (zq_x out)) args s mc ms (fun q => V.2.2.2.1 ≤ q)) 4 zk_E V mc ms 23 [(0, .ref a0), (1, .int i1), (2, .int i2)] [] S rc rs := by
  unfold zf_X11_name_J23 at h
  refine zw_iconst (v := (0 : Int32)) hX dX11_name_23 (by decide) ?_
  refine zw_sub (lv' := [(0, .ref a0), (1, .int i1), (2, .int i2)]) (List.forall_mem_cons.mpr ⟨rfl, (List.forall_mem_cons.mpr ⟨rfl, (List.forall_mem_cons.mpr ⟨rfl, zs_nil⟩)⟩)⟩) ?_
  exact zt_X11_name_J24 hlt hxt hX hr hR hd ⟨by omega, by omega⟩ h
set_option maxHeartbeats 4000000 in
set_option maxRecDepth 100000 in
theorem zt_X11_name {l : Launch} {V : zm_V} (hlt : l.stackTraces = false) {N : Nat} {S : zm_S} {out : ((Int32 ⊕ String) × zm_S)} {d : Nat} {a0 : Nat} {i1 : Int32} {i2 : Int32} (hd : 7 ≤ d) (h : zf_X11_name N a0 i1 i2 S = some out) : zm_Met l zk_E V yX11_name (.code yX11_name cX11_name 4 (some .int)) d [.ref a0, .int i1, .int i2] S 2 12 (zq_i out) (zq_x out) := by
  refine zm_of (by decide +kernel) (Nat.le_of_ble_eq_true rfl) ?_
  intro p e R s m args below meth c hRR hX hr hxt
  have hR : R.frames = d ∧ R.locals = 64 * d := by rw [hRR]; exact ⟨rfl, rfl⟩
  have hX : zm_X p R s m args meth c RX11 "name" cX11_name 4 zk_E V 2 12 := hX
  unfold zf_X11_name at h
  refine zw_sub (lv' := [(0, .ref a0), (1, .int i1), (2, .int i2)]) (List.forall_mem_cons.mpr ⟨rfl, (List.forall_mem_cons.mpr ⟨rfl, (List.forall_mem_cons.mpr ⟨rfl, zs_nil⟩)⟩)⟩) ?_
  refine zw_aload_n hX dX11_name_0 rfl ?_
  refine zw_iload_n hX dX11_name_1 rfl ?_
  obtain ⟨_, gi, h⟩ := zb_some h
  obtain ⟨r2, g, h⟩ := zb_some h
  refine zc_Vi (as := [.int i1]) hX gi (zt_X11_isSpace (d := d - 1) (by omega) g) zl_X11_166 rfl dX11_name_2 ⟨rfl, rfl, Nat.le_of_ble_eq_true rfl⟩ ⟨by omega, by omega⟩ ?_
  refine zw_if_eq (tgt := 23) hX dX11_name_5 (by decide) (fun c5 => ?_) (fun c5 => ?_)
  · rw [if_pos c5] at h
    refine zw_sub (lv' := [(0, .ref a0), (1, .int i1), (2, .int i2)]) (List.forall_mem_cons.mpr ⟨rfl, (List.forall_mem_cons.mpr ⟨rfl, (List.forall_mem_cons.mpr ⟨rfl, zs_nil⟩)⟩)⟩) ?_
    exact zt_X11_name_J23 hlt hxt hX hr hR hd ⟨by omega, by omega⟩ h
  · rw [if_neg c5] at h
    refine zw_iload_n hX dX11_name_8 rfl ?_
    refine zw_iconst (v := (0 : Int32)) hX dX11_name_9 (by decide) ?_
    refine zw_sipush (v := (1000 : Int32)) hX dX11_name_10 (by decide) ?_
    obtain ⟨r17, g, h⟩ := zb_some h
    refine zc_Si (as := [.int i2, .int (0 : Int32), .int (1000 : Int32)]) hX (zt_X11_isWithin (d := d - 1) (by omega) g) zl_X11_133 dX11_name_13 ⟨rfl, rfl, Nat.le_of_ble_eq_true rfl⟩ ⟨by omega, by omega⟩ ?_
    refine zw_if_eq (tgt := 23) hX dX11_name_16 (by decide) (fun c16 => ?_) (fun c16 => ?_)
    · rw [if_pos c16] at h
      refine zw_sub (lv' := [(0, .ref a0), (1, .int i1), (2, .int i2)]) (List.forall_mem_cons.mpr ⟨rfl, (List.forall_mem_cons.mpr ⟨rfl, (List.forall_mem_cons.mpr ⟨rfl, zs_nil⟩)⟩)⟩) ?_
      exact zt_X11_name_J23 hlt hxt hX hr hR hd ⟨by omega, by omega⟩ h
    · rw [if_neg c16] at h
      refine zw_iconst (v := (1 : Int32)) hX dX11_name_19 (by decide) ?_
      refine zw_goto (tgt := 24) hX dX11_name_20 (by decide) ?_
      refine zw_sub (lv' := [(0, .ref a0), (1, .int i1), (2, .int i2)]) (List.forall_mem_cons.mpr ⟨rfl, (List.forall_mem_cons.mpr ⟨rfl, (List.forall_mem_cons.mpr ⟨rfl, zs_nil⟩)⟩)⟩) ?_
      exact zt_X11_name_J24 hlt hxt hX hr hR hd ⟨by omega, by omega⟩ h
set_option maxHeartbeats 4000000 in
set_option maxRecDepth 100000 in
theorem zt_X11_nameOf {l : Launch} {V : zm_V} (hlt : l.stackTraces = false) {N : Nat} {S : zm_S} {out : ((Int32 ⊕ String) × zm_S)} {d : Nat} {a0 : Nat} {i1 : Int32} (hd : 7 ≤ d) (h : zf_X11_nameOf N a0 i1 S = some out) : zm_Met l zk_E V yX11_nameOf (.code yX11_nameOf cX11_nameOf 2 (some .int)) d [.ref a0, .int i1] S 2 12 (zq_i out) (zq_x out) := by
  refine zm_of (by decide +kernel) (Nat.le_of_ble_eq_true rfl) ?_
  intro p e R s m args below meth c hRR hX hr hxt
  have hR : R.frames = d ∧ R.locals = 64 * d := by rw [hRR]; exact ⟨rfl, rfl⟩
  have hX : zm_X p R s m args meth c RX11 "nameOf" cX11_nameOf 2 zk_E V 2 12 := hX
  unfold zf_X11_nameOf at h
  refine zw_sub (lv' := [(0, .ref a0), (1, .int i1)]) (List.forall_mem_cons.mpr ⟨rfl, (List.forall_mem_cons.mpr ⟨rfl, zs_nil⟩)⟩) ?_
  refine zw_aload_n hX dX11_nameOf_0 rfl ?_
  refine zw_iload_n hX dX11_nameOf_1 rfl ?_
  obtain ⟨_, gi, h⟩ := zb_some h
  obtain ⟨r2, g, h⟩ := zb_some h
  refine zc_Vi (as := [.int i1]) hX gi (zt_X11_isSpace (d := d - 1) (by omega) g) zl_X11_166 rfl dX11_nameOf_2 ⟨rfl, rfl, Nat.le_of_ble_eq_true rfl⟩ ⟨by omega, by omega⟩ ?_
  obtain ⟨r, g, h⟩ := zb_some h
  refine zc_S (as := [.int r2.1]) hX (zt_X11_needArgument hlt (d := d - 1) (by omega) g) zl_X11_100 dX11_nameOf_5 ⟨rfl, rfl, Nat.le_of_ble_eq_true rfl⟩ ⟨by omega, by omega⟩ ⟨by omega, by omega⟩ ?_ ?_
  · rintro _ S4 ⟨⟨u3, rfl⟩, rfl⟩
    try dsimp only at h
    refine zw_aload_n hX dX11_nameOf_8 rfl ?_
    obtain ⟨b5, g, h⟩ := zb_some h
    refine zw_getr hX zl_X11_21 dX11_nameOf_9 g ?_
    obtain ⟨v6, g, h⟩ := zb_some h
    refine zw_getNi hX zl_X11_119 dX11_nameOf_12 g ?_
    obtain ⟨r, g, h⟩ := zb_some h
    refine zc_S (as := [.int v6]) hX (zt_X11_needState hlt (d := d - 1) (by omega) g) zl_X11_112 dX11_nameOf_15 ⟨rfl, rfl, Nat.le_of_ble_eq_true rfl⟩ ⟨by omega, by omega⟩ ⟨by omega, by omega⟩ ?_ ?_
    · rintro _ S8 ⟨⟨u7, rfl⟩, rfl⟩
      try dsimp only at h
      refine zw_aload_n hX dX11_nameOf_18 rfl ?_
      obtain ⟨b9, g, h⟩ := zb_some h
      refine zw_getr hX zl_X11_21 dX11_nameOf_19 g ?_
      obtain ⟨b10, g, h⟩ := zb_some h
      refine zw_getNr hX zl_X11_194 dX11_nameOf_22 g ?_
      refine zw_iload_n hX dX11_nameOf_25 rfl ?_
      obtain ⟨v11, g, h⟩ := zb_some h
      refine zw_xi hX dX11_nameOf_26 g ?_
      obtain rfl := Option.some.inj h
      exact zw_iret hX hr dX11_nameOf_27 rfl ⟨_, rfl, rfl⟩
    · rintro X S9 rfl
      obtain rfl := Option.some.inj h
      exact zx_out hX hxt rfl
  · rintro X S9 rfl
    obtain rfl := Option.some.inj h
    exact zx_out hX hxt rfl
set_option maxHeartbeats 4000000 in
set_option maxRecDepth 100000 in
theorem zt_X11_say {l : Launch} {V : zm_V} (hlt : l.stackTraces = false) {N : Nat} {S : zm_S} {out : ((Int32 ⊕ String) × zm_S)} {d : Nat} {a0 : Nat} {j1 : Int64} (hd : 7 ≤ d) (h : zf_X11_say N a0 j1 S = some out) : zm_Met l zk_E V yX11_say (.code yX11_say cX11_say 3 (some .int)) d [.ref a0, .long j1] S 2 12 (zq_i out) (zq_x out) := by
  refine zm_of (by decide +kernel) (Nat.le_of_ble_eq_true rfl) ?_
  intro p e R s m args below meth c hRR hX hr hxt
  have hR : R.frames = d ∧ R.locals = 64 * d := by rw [hRR]; exact ⟨rfl, rfl⟩
  have hX : zm_X p R s m args meth c RX11 "say" cX11_say 3 zk_E V 2 12 := hX
  unfold zf_X11_say at h
  refine zw_sub (lv' := [(0, .ref a0), (1, .long j1)]) (List.forall_mem_cons.mpr ⟨rfl, (List.forall_mem_cons.mpr ⟨rfl, zs_nil⟩)⟩) ?_
  refine zw_lload_n hX dX11_say_0 rfl ?_
  obtain ⟨r2, g, h⟩ := zb_some h
  refine zc_Si (as := [.long j1]) hX (zt_X6_isSayable (d := d - 1) (by omega) g) zl_X11_197 dX11_say_1 ⟨rfl, rfl, Nat.le_of_ble_eq_true rfl⟩ ⟨by omega, by omega⟩ ?_
  obtain ⟨r, g, h⟩ := zb_some h
  refine zc_S (as := [.int r2.1]) hX (zt_X11_needArgument hlt (d := d - 1) (by omega) g) zl_X11_100 dX11_say_4 ⟨rfl, rfl, Nat.le_of_ble_eq_true rfl⟩ ⟨by omega, by omega⟩ ⟨by omega, by omega⟩ ?_ ?_
  · rintro _ S4 ⟨⟨u3, rfl⟩, rfl⟩
    try dsimp only at h
    refine zw_aload_n hX dX11_say_7 rfl ?_
    obtain ⟨b5, g, h⟩ := zb_some h
    refine zw_getr hX zl_X11_28 dX11_say_8 g ?_
    refine zw_lload_n hX dX11_say_11 rfl ?_
    obtain ⟨_, gi, h⟩ := zb_some h
    obtain ⟨r7, g, h⟩ := zb_some h
    refine zc_Vi (as := [.long j1]) hX gi (zt_X6_hasRoomFor (d := d - 1) (by omega) g) zl_X11_201 rfl dX11_say_12 ⟨rfl, rfl, Nat.le_of_ble_eq_true rfl⟩ ⟨by omega, by omega⟩ ?_
    obtain ⟨r, g, h⟩ := zb_some h
    refine zc_S (as := [.int r7.1]) hX (zt_X11_needState hlt (d := d - 1) (by omega) g) zl_X11_112 dX11_say_15 ⟨rfl, rfl, Nat.le_of_ble_eq_true rfl⟩ ⟨by omega, by omega⟩ ⟨by omega, by omega⟩ ?_ ?_
    · rintro _ S9 ⟨⟨u8, rfl⟩, rfl⟩
      try dsimp only at h
      refine zw_aload_n hX dX11_say_18 rfl ?_
      obtain ⟨b10, g, h⟩ := zb_some h
      refine zw_getr hX zl_X11_28 dX11_say_19 g ?_
      refine zw_lload_n hX dX11_say_22 rfl ?_
      obtain ⟨_, gi, h⟩ := zb_some h
      obtain ⟨r12, g, h⟩ := zb_some h
      refine zc_Vi (as := [.long j1]) hX gi (zt_X6_append (d := d - 1) (by omega) g) zl_X11_204 rfl dX11_say_23 ⟨rfl, rfl, Nat.le_of_ble_eq_true rfl⟩ ⟨by omega, by omega⟩ ?_
      obtain rfl := Option.some.inj h
      exact zw_iret hX hr dX11_say_26 rfl ⟨_, rfl, rfl⟩
    · rintro X S9 rfl
      obtain rfl := Option.some.inj h
      exact zx_out hX hxt rfl
  · rintro X S9 rfl
    obtain rfl := Option.some.inj h
    exact zx_out hX hxt rfl
set_option maxHeartbeats 4000000 in
set_option maxRecDepth 100000 in
theorem zt_X11_trim_J20 {p : Program} {l : Launch} {e : Env} {R : Room} {s : State} {m : MethodId} {args : Array Value} {below : List Frame} {meth : Method} {c : Code} {V : zm_V} {mc ms d rc rs : Nat} (hlt : l.stackTraces = false) (hxt : ∀ x ∈ c.exceptionTable.toList, False) (hX : zm_X p R s m args meth c RX11 "trim" cX11_trim 2 zk_E V mc ms) (hr : meth.sig.returnType = (some .int)) (hR : R.frames = d ∧ R.locals = 64 * d) (hd : 7 ≤ d) {N : Nat} {a0 : Nat} {i1 : Int32} {t0 : Int32} {out : ((Int32 ⊕ String) × zm_S)} (hc : 1 ≤ rc ∧ 6 ≤ rs) {S : zm_S} (h : zf_X11_trim_J20 N a0 i1 t0 S = some out) : zw p l e R s m args below meth c (vx_MQ below (zm_Qc zk_E V (zq_i out)) (zm_XC zk_E V (zq_x out)) args s mc ms (fun q => V.2.2.2.1 ≤ q)) 2 zk_E V mc ms 20 [(0, .ref a0), (1, .int i1)] [.int t0] S rc rs := by
  unfold zf_X11_trim_J20 at h
  obtain ⟨r, g, h⟩ := zb_some h
  refine zc_S (as := [.int t0]) hX (zt_X11_needArgument hlt (d := d - 1) (by omega) g) zl_X11_100 dX11_trim_20 ⟨rfl, rfl, Nat.le_of_ble_eq_true rfl⟩ ⟨by omega, by omega⟩ ⟨by omega, by omega⟩ ?_ ?_
  · rintro _ S2 ⟨⟨u1, rfl⟩, rfl⟩
    try dsimp only at h
    refine zw_aload_n hX dX11_trim_23 rfl ?_
    obtain ⟨b3, g, h⟩ := zb_some h
    refine zw_getr hX zl_X11_28 dX11_trim_24 g ?_
    refine zw_dup hX dX11_trim_27 rfl ?_
    obtain ⟨v4, g, h⟩ := zb_some h
    refine zw_getNi hX zl_X11_208 dX11_trim_28 g ?_
    refine zw_iload_n hX dX11_trim_31 rfl ?_
    refine zw_isub hX dX11_trim_32 ?_
    obtain ⟨S5, g, h⟩ := zb_some h
    refine zw_putvN hX zl_X11_208 zt_6_1 dX11_trim_33 rfl rfl g ?_
    refine zw_aload_n hX dX11_trim_36 rfl ?_
    obtain ⟨b6, g, h⟩ := zb_some h
    refine zw_getr hX zl_X11_28 dX11_trim_37 g ?_
    obtain ⟨v7, g, h⟩ := zb_some h
    refine zw_getNi hX zl_X11_208 dX11_trim_40 g ?_
    obtain rfl := Option.some.inj h
    exact zw_iret hX hr dX11_trim_43 rfl ⟨_, rfl, rfl⟩
  · rintro X S9 rfl
    obtain rfl := Option.some.inj h
    exact zx_out hX hxt rfl
set_option maxHeartbeats 4000000 in
set_option maxRecDepth 100000 in
theorem zt_X11_trim_J19 {p : Program} {l : Launch} {e : Env} {R : Room} {s : State} {m : MethodId} {args : Array Value} {below : List Frame} {meth : Method} {c : Code} {V : zm_V} {mc ms d rc rs : Nat} (hlt : l.stackTraces = false) (hxt : ∀ x ∈ c.exceptionTable.toList, False) (hX : zm_X p R s m args meth c RX11 "trim" cX11_trim 2 zk_E V mc ms) (hr : meth.sig.returnType = (some .int)) (hR : R.frames = d ∧ R.locals = 64 * d) (hd : 7 ≤ d) {N : Nat} {a0 : Nat} {i1 : Int32} {out : ((Int32 ⊕ String) × zm_S)} (hc : 1 ≤ rc ∧ 6 ≤ rs) {S : zm_S} (h : zf_X11_trim_J19 N a0 i1 S = some out) : zw p l e R s m args below meth c (vx_MQ below (zm_Qc zk_E V (zq_i out)) (zm_XC zk_E V (zq_x out)) args s mc ms (fun q => V.2.2.2.1 ≤ q)) 2 zk_E V mc ms 19 [(0, .ref a0), (1, .int i1)] [] S rc rs := by
  unfold zf_X11_trim_J19 at h
  refine zw_iconst (v := (0 : Int32)) hX dX11_trim_19 (by decide) ?_
  refine zw_sub (lv' := [(0, .ref a0), (1, .int i1)]) (List.forall_mem_cons.mpr ⟨rfl, (List.forall_mem_cons.mpr ⟨rfl, zs_nil⟩)⟩) ?_
  exact zt_X11_trim_J20 hlt hxt hX hr hR hd ⟨by omega, by omega⟩ h
set_option maxHeartbeats 4000000 in
set_option maxRecDepth 100000 in
theorem zt_X11_trim {l : Launch} {V : zm_V} (hlt : l.stackTraces = false) {N : Nat} {S : zm_S} {out : ((Int32 ⊕ String) × zm_S)} {d : Nat} {a0 : Nat} {i1 : Int32} (hd : 7 ≤ d) (h : zf_X11_trim N a0 i1 S = some out) : zm_Met l zk_E V yX11_trim (.code yX11_trim cX11_trim 2 (some .int)) d [.ref a0, .int i1] S 1 6 (zq_i out) (zq_x out) := by
  refine zm_of (by decide +kernel) (Nat.le_of_ble_eq_true rfl) ?_
  intro p e R s m args below meth c hRR hX hr hxt
  have hR : R.frames = d ∧ R.locals = 64 * d := by rw [hRR]; exact ⟨rfl, rfl⟩
  have hX : zm_X p R s m args meth c RX11 "trim" cX11_trim 2 zk_E V 1 6 := hX
  unfold zf_X11_trim at h
  refine zw_sub (lv' := [(0, .ref a0), (1, .int i1)]) (List.forall_mem_cons.mpr ⟨rfl, (List.forall_mem_cons.mpr ⟨rfl, zs_nil⟩)⟩) ?_
  refine zw_iload_n hX dX11_trim_0 rfl ?_
  refine zw_if_lt (tgt := 19) hX dX11_trim_1 (by decide) (fun c1 => ?_) (fun c1 => ?_)
  · rw [if_pos c1] at h
    refine zw_sub (lv' := [(0, .ref a0), (1, .int i1)]) (List.forall_mem_cons.mpr ⟨rfl, (List.forall_mem_cons.mpr ⟨rfl, zs_nil⟩)⟩) ?_
    exact zt_X11_trim_J19 hlt hxt hX hr hR hd ⟨by omega, by omega⟩ h
  · rw [if_neg c1] at h
    refine zw_iload_n hX dX11_trim_4 rfl ?_
    refine zw_aload_n hX dX11_trim_5 rfl ?_
    obtain ⟨b8, g, h⟩ := zb_some h
    refine zw_getr hX zl_X11_28 dX11_trim_6 g ?_
    obtain ⟨v9, g, h⟩ := zb_some h
    refine zw_getNi hX zl_X11_208 dX11_trim_9 g ?_
    refine zw_icmp_gt (tgt := 19) hX dX11_trim_12 (by decide) (fun c12 => ?_) (fun c12 => ?_)
    · rw [if_pos c12] at h
      refine zw_sub (lv' := [(0, .ref a0), (1, .int i1)]) (List.forall_mem_cons.mpr ⟨rfl, (List.forall_mem_cons.mpr ⟨rfl, zs_nil⟩)⟩) ?_
      exact zt_X11_trim_J19 hlt hxt hX hr hR hd ⟨by omega, by omega⟩ h
    · rw [if_neg c12] at h
      refine zw_iconst (v := (1 : Int32)) hX dX11_trim_15 (by decide) ?_
      refine zw_goto (tgt := 20) hX dX11_trim_16 (by decide) ?_
      refine zw_sub (lv' := [(0, .ref a0), (1, .int i1)]) (List.forall_mem_cons.mpr ⟨rfl, (List.forall_mem_cons.mpr ⟨rfl, zs_nil⟩)⟩) ?_
      exact zt_X11_trim_J20 hlt hxt hX hr hR hd ⟨by omega, by omega⟩ h
set_option maxHeartbeats 4000000 in
set_option maxRecDepth 100000 in
theorem zt_X11_rules {l : Launch} {V : zm_V} {N : Nat} {S : zm_S} {out : (Int32 × zm_S)} {d : Nat} {a0 : Nat} (hd : 44 ≤ d) (h : zf_X11_rules N a0 S = some out) : zm_Met l zk_E V yX11_rules (.code yX11_rules cX11_rules 1 (some .int)) d [.ref a0] S 0 0 (zo_i out) zo_x := by
  refine zm_of (by decide +kernel) (Nat.le_of_ble_eq_true rfl) ?_
  intro p e R s m args below meth c hRR hX hr hxt
  have hR : R.frames = d ∧ R.locals = 64 * d := by rw [hRR]; exact ⟨rfl, rfl⟩
  have hX : zm_X p R s m args meth c RX11 "rules" cX11_rules 1 zk_E V 0 0 := hX
  unfold zf_X11_rules at h
  refine zw_sub (lv' := [(0, .ref a0)]) (List.forall_mem_cons.mpr ⟨rfl, zs_nil⟩) ?_
  refine zw_aload_n hX dX11_rules_0 rfl ?_
  obtain ⟨b1, g, h⟩ := zb_some h
  refine zw_getr hX zl_X11_28 dX11_rules_1 g ?_
  obtain ⟨_, gi, h⟩ := zb_some h
  obtain ⟨r3, g, h⟩ := zb_some h
  refine zc_Vi (as := []) hX gi (zt_X6_readRules (d := d - 1) (by omega) g) zl_X11_211 rfl dX11_rules_4 ⟨rfl, rfl, Nat.le_of_ble_eq_true rfl⟩ ⟨by omega, by omega⟩ ?_
  refine zw_if_ne (tgt := 20) hX dX11_rules_7 (by decide) (fun c7 => ?_) (fun c7 => ?_)
  · rw [if_neg c7] at h
    refine zw_aload_n hX dX11_rules_20 rfl ?_
    obtain ⟨b4, g, h⟩ := zb_some h
    refine zw_getr hX zl_X11_35 dX11_rules_21 g ?_
    refine zw_aload_n hX dX11_rules_24 rfl ?_
    obtain ⟨b5, g, h⟩ := zb_some h
    refine zw_getr hX zl_X11_28 dX11_rules_25 g ?_
    obtain ⟨_, gi, h⟩ := zb_some h
    obtain ⟨r7, g, h⟩ := zb_some h
    refine zc_Vv (as := [.ref b5]) hX gi (zt_X7_takeRules (d := d - 1) (by omega) g) zl_X11_218 rfl dX11_rules_28 ⟨rfl, rfl, Nat.le_of_ble_eq_true rfl⟩ ⟨by omega, by omega⟩ ?_
    refine zw_aload_n hX dX11_rules_31 rfl ?_
    obtain ⟨b8, g, h⟩ := zb_some h
    refine zw_getr hX zl_X11_28 dX11_rules_32 g ?_
    refine zw_iconst (v := (0 : Int32)) hX dX11_rules_35 (by decide) ?_
    obtain ⟨S9, g, h⟩ := zb_some h
    refine zw_putvN hX zl_X11_208 zt_6_1 dX11_rules_36 rfl rfl g ?_
    refine zw_aload_n hX dX11_rules_39 rfl ?_
    obtain ⟨b10, g, h⟩ := zb_some h
    refine zw_getr hX zl_X11_35 dX11_rules_40 g ?_
    obtain ⟨v11, g, h⟩ := zb_some h
    refine zw_getNi hX zl_X11_222 dX11_rules_43 g ?_
    obtain rfl := Option.some.inj h
    exact zw_iret hX hr dX11_rules_46 rfl ⟨rfl, rfl⟩
  · rw [if_pos c7] at h
    refine zw_iconst (v := (-1 : Int32)) hX dX11_rules_10 (by decide) ?_
    refine zw_aload_n hX dX11_rules_11 rfl ?_
    obtain ⟨b12, g, h⟩ := zb_some h
    refine zw_getr hX zl_X11_28 dX11_rules_12 g ?_
    obtain ⟨_, gi, h⟩ := zb_some h
    obtain ⟨r14, g, h⟩ := zb_some h
    refine zc_Vi (as := []) hX gi (zt_X6_wrongPlace (d := d - 1) (by omega) g) zl_X11_215 rfl dX11_rules_15 ⟨rfl, rfl, Nat.le_of_ble_eq_true rfl⟩ ⟨by omega, by omega⟩ ?_
    refine zw_isub hX dX11_rules_18 ?_
    obtain rfl := Option.some.inj h
    exact zw_iret hX hr dX11_rules_19 rfl ⟨rfl, rfl⟩
set_option maxHeartbeats 4000000 in
set_option maxRecDepth 100000 in
theorem zt_X11_fact_J23 {p : Program} {l : Launch} {e : Env} {R : Room} {s : State} {m : MethodId} {args : Array Value} {below : List Frame} {meth : Method} {c : Code} {V : zm_V} {mc ms d rc rs : Nat} (hlt : l.stackTraces = false) (hxt : ∀ x ∈ c.exceptionTable.toList, False) (hX : zm_X p R s m args meth c RX11 "fact" cX11_fact 4 zk_E V mc ms) (hr : meth.sig.returnType = (some .long)) (hR : R.frames = d ∧ R.locals = 64 * d) (hd : 7 ≤ d) {N : Nat} {a0 : Nat} {j1 : Int64} {i3 : Int32} {t0 : Int32} {out : ((Int64 ⊕ String) × zm_S)} (hc : 2 ≤ rc ∧ 12 ≤ rs) {S : zm_S} (h : zf_X11_fact_J23 N a0 j1 i3 t0 S = some out) : zw p l e R s m args below meth c (vx_MQ below (zm_Qc zk_E V (zq_l out)) (zm_XC zk_E V (zq_x out)) args s mc ms (fun q => V.2.2.2.1 ≤ q)) 4 zk_E V mc ms 23 [(0, .ref a0), (1, .long j1), (3, .int i3)] [.int t0] S rc rs := by
  unfold zf_X11_fact_J23 at h
  obtain ⟨r, g, h⟩ := zb_some h
  refine zc_S (as := [.int t0]) hX (zt_X11_needArgument hlt (d := d - 1) (by omega) g) zl_X11_100 dX11_fact_23 ⟨rfl, rfl, Nat.le_of_ble_eq_true rfl⟩ ⟨by omega, by omega⟩ ⟨by omega, by omega⟩ ?_ ?_
  · rintro _ S4 ⟨⟨u3, rfl⟩, rfl⟩
    try dsimp only at h
    refine zw_aload_n hX dX11_fact_26 rfl ?_
    obtain ⟨b5, g, h⟩ := zb_some h
    refine zw_getr hX zl_X11_35 dX11_fact_27 g ?_
    refine zw_lload_n hX dX11_fact_30 rfl ?_
    obtain ⟨_, gi, h⟩ := zb_some h
    obtain ⟨r7, g, h⟩ := zb_some h
    refine zc_Vi (as := [.long j1]) hX gi (zt_X7_hasRoomForFact (d := d - 1) (by omega) g) zl_X11_230 rfl dX11_fact_31 ⟨rfl, rfl, Nat.le_of_ble_eq_true rfl⟩ ⟨by omega, by omega⟩ ?_
    obtain ⟨r, g, h⟩ := zb_some h
    refine zc_S (as := [.int r7.1]) hX (zt_X11_needState hlt (d := d - 1) (by omega) g) zl_X11_112 dX11_fact_34 ⟨rfl, rfl, Nat.le_of_ble_eq_true rfl⟩ ⟨by omega, by omega⟩ ⟨by omega, by omega⟩ ?_ ?_
    · rintro _ S9 ⟨⟨u8, rfl⟩, rfl⟩
      try dsimp only at h
      refine zw_aload_n hX dX11_fact_37 rfl ?_
      obtain ⟨b10, g, h⟩ := zb_some h
      refine zw_getr hX zl_X11_35 dX11_fact_38 g ?_
      refine zw_lload_n hX dX11_fact_41 rfl ?_
      refine zw_iload_n hX dX11_fact_42 rfl ?_
      obtain ⟨_, gi, h⟩ := zb_some h
      obtain ⟨r12, g, h⟩ := zb_some h
      refine zc_Vl (as := [.long j1, .int i3]) hX gi (zt_X7_setFact (d := d - 1) (by omega) g) zl_X11_233 rfl dX11_fact_43 ⟨rfl, rfl, Nat.le_of_ble_eq_true rfl⟩ ⟨by omega, by omega⟩ ?_
      obtain rfl := Option.some.inj h
      exact zw_lret hX hr dX11_fact_46 ⟨_, rfl, rfl⟩
    · rintro X S9 rfl
      obtain rfl := Option.some.inj h
      exact zx_out hX hxt rfl
  · rintro X S9 rfl
    obtain rfl := Option.some.inj h
    exact zx_out hX hxt rfl
set_option maxHeartbeats 4000000 in
set_option maxRecDepth 100000 in
theorem zt_X11_fact_J22 {p : Program} {l : Launch} {e : Env} {R : Room} {s : State} {m : MethodId} {args : Array Value} {below : List Frame} {meth : Method} {c : Code} {V : zm_V} {mc ms d rc rs : Nat} (hlt : l.stackTraces = false) (hxt : ∀ x ∈ c.exceptionTable.toList, False) (hX : zm_X p R s m args meth c RX11 "fact" cX11_fact 4 zk_E V mc ms) (hr : meth.sig.returnType = (some .long)) (hR : R.frames = d ∧ R.locals = 64 * d) (hd : 7 ≤ d) {N : Nat} {a0 : Nat} {j1 : Int64} {i3 : Int32} {out : ((Int64 ⊕ String) × zm_S)} (hc : 2 ≤ rc ∧ 12 ≤ rs) {S : zm_S} (h : zf_X11_fact_J22 N a0 j1 i3 S = some out) : zw p l e R s m args below meth c (vx_MQ below (zm_Qc zk_E V (zq_l out)) (zm_XC zk_E V (zq_x out)) args s mc ms (fun q => V.2.2.2.1 ≤ q)) 4 zk_E V mc ms 22 [(0, .ref a0), (1, .long j1), (3, .int i3)] [] S rc rs := by
  unfold zf_X11_fact_J22 at h
  refine zw_iconst (v := (0 : Int32)) hX dX11_fact_22 (by decide) ?_
  refine zw_sub (lv' := [(0, .ref a0), (1, .long j1), (3, .int i3)]) (List.forall_mem_cons.mpr ⟨rfl, (List.forall_mem_cons.mpr ⟨rfl, (List.forall_mem_cons.mpr ⟨rfl, zs_nil⟩)⟩)⟩) ?_
  exact zt_X11_fact_J23 hlt hxt hX hr hR hd ⟨by omega, by omega⟩ h
set_option maxHeartbeats 4000000 in
set_option maxRecDepth 100000 in
theorem zt_X11_fact {l : Launch} {V : zm_V} (hlt : l.stackTraces = false) {N : Nat} {S : zm_S} {out : ((Int64 ⊕ String) × zm_S)} {d : Nat} {a0 : Nat} {j1 : Int64} {i3 : Int32} (hd : 7 ≤ d) (h : zf_X11_fact N a0 j1 i3 S = some out) : zm_Met l zk_E V yX11_fact (.code yX11_fact cX11_fact 4 (some .long)) d [.ref a0, .long j1, .int i3] S 2 12 (zq_l out) (zq_x out) := by
  refine zm_of (by decide +kernel) (Nat.le_of_ble_eq_true rfl) ?_
  intro p e R s m args below meth c hRR hX hr hxt
  have hR : R.frames = d ∧ R.locals = 64 * d := by rw [hRR]; exact ⟨rfl, rfl⟩
  have hX : zm_X p R s m args meth c RX11 "fact" cX11_fact 4 zk_E V 2 12 := hX
  unfold zf_X11_fact at h
  refine zw_sub (lv' := [(0, .ref a0), (1, .long j1), (3, .int i3)]) (List.forall_mem_cons.mpr ⟨rfl, (List.forall_mem_cons.mpr ⟨rfl, (List.forall_mem_cons.mpr ⟨rfl, zs_nil⟩)⟩)⟩) ?_
  refine zw_lload_n hX dX11_fact_0 rfl ?_
  obtain ⟨r2, g, h⟩ := zb_some h
  refine zc_Si (as := [.long j1]) hX (zt_X7_isFactName (d := d - 1) (by omega) g) zl_X11_225 dX11_fact_1 ⟨rfl, rfl, Nat.le_of_ble_eq_true rfl⟩ ⟨by omega, by omega⟩ ?_
  refine zw_if_eq (tgt := 22) hX dX11_fact_4 (by decide) (fun c4 => ?_) (fun c4 => ?_)
  · rw [if_pos c4] at h
    refine zw_sub (lv' := [(0, .ref a0), (1, .long j1), (3, .int i3)]) (List.forall_mem_cons.mpr ⟨rfl, (List.forall_mem_cons.mpr ⟨rfl, (List.forall_mem_cons.mpr ⟨rfl, zs_nil⟩)⟩)⟩) ?_
    exact zt_X11_fact_J22 hlt hxt hX hr hR hd ⟨by omega, by omega⟩ h
  · rw [if_neg c4] at h
    refine zw_iload_n hX dX11_fact_7 rfl ?_
    refine zw_ldc (v := (-1000000000 : Int32)) hX dX11_fact_8 zl_X11_228 ?_
    refine zw_ldc (v := (1000000000 : Int32)) hX dX11_fact_10 zl_X11_229 ?_
    obtain ⟨r14, g, h⟩ := zb_some h
    refine zc_Si (as := [.int i3, .int (-1000000000 : Int32), .int (1000000000 : Int32)]) hX (zt_X11_isWithin (d := d - 1) (by omega) g) zl_X11_133 dX11_fact_12 ⟨rfl, rfl, Nat.le_of_ble_eq_true rfl⟩ ⟨by omega, by omega⟩ ?_
    refine zw_if_eq (tgt := 22) hX dX11_fact_15 (by decide) (fun c15 => ?_) (fun c15 => ?_)
    · rw [if_pos c15] at h
      refine zw_sub (lv' := [(0, .ref a0), (1, .long j1), (3, .int i3)]) (List.forall_mem_cons.mpr ⟨rfl, (List.forall_mem_cons.mpr ⟨rfl, (List.forall_mem_cons.mpr ⟨rfl, zs_nil⟩)⟩)⟩) ?_
      exact zt_X11_fact_J22 hlt hxt hX hr hR hd ⟨by omega, by omega⟩ h
    · rw [if_neg c15] at h
      refine zw_iconst (v := (1 : Int32)) hX dX11_fact_18 (by decide) ?_
      refine zw_goto (tgt := 23) hX dX11_fact_19 (by decide) ?_
      refine zw_sub (lv' := [(0, .ref a0), (1, .long j1), (3, .int i3)]) (List.forall_mem_cons.mpr ⟨rfl, (List.forall_mem_cons.mpr ⟨rfl, (List.forall_mem_cons.mpr ⟨rfl, zs_nil⟩)⟩)⟩) ?_
      exact zt_X11_fact_J23 hlt hxt hX hr hR hd ⟨by omega, by omega⟩ h
set_option maxHeartbeats 4000000 in
set_option maxRecDepth 100000 in
theorem zt_X11_measure_J58 {p : Program} {l : Launch} {e : Env} {R : Room} {s : State} {m : MethodId} {args : Array Value} {below : List Frame} {meth : Method} {c : Code} {V : zm_V} {mc ms d rc rs : Nat} (hlt : l.stackTraces = false) (hxt : ∀ x ∈ c.exceptionTable.toList, False) (hX : zm_X p R s m args meth c RX11 "measure" cX11_measure 6 zk_E V mc ms) (hr : meth.sig.returnType = (some .int)) (hR : R.frames = d ∧ R.locals = 64 * d) (hd : 7 ≤ d) {N : Nat} {a0 : Nat} {i1 : Int32} {i2 : Int32} {j3 : Int64} {t0 : Int32} {out : ((Int32 ⊕ String) × zm_S)} (hc : 1 ≤ rc ∧ 6 ≤ rs) {S : zm_S} (h : zf_X11_measure_J58 N a0 i1 i2 j3 t0 S = some out) : zw p l e R s m args below meth c (vx_MQ below (zm_Qc zk_E V (zq_i out)) (zm_XC zk_E V (zq_x out)) args s mc ms (fun q => V.2.2.2.1 ≤ q)) 6 zk_E V mc ms 58 [(0, .ref a0), (1, .int i1), (2, .int i2), (3, .long j3)] [.int t0] S rc rs := by
  unfold zf_X11_measure_J58 at h
  obtain ⟨r, g, h⟩ := zb_some h
  refine zc_S (as := [.int t0]) hX (zt_X11_needState hlt (d := d - 1) (by omega) g) zl_X11_112 dX11_measure_58 ⟨rfl, rfl, Nat.le_of_ble_eq_true rfl⟩ ⟨by omega, by omega⟩ ⟨by omega, by omega⟩ ?_ ?_
  · rintro _ S8 ⟨⟨u7, rfl⟩, rfl⟩
    try dsimp only at h
    refine zw_aload_n hX dX11_measure_61 rfl ?_
    obtain ⟨b9, g, h⟩ := zb_some h
    refine zw_getr hX zl_X11_21 dX11_measure_62 g ?_
    refine zw_iload_n hX dX11_measure_65 rfl ?_
    refine zw_iload_n hX dX11_measure_66 rfl ?_
    obtain ⟨_, gi, h⟩ := zb_some h
    obtain ⟨r11, g, h⟩ := zb_some h
    refine zc_Vi (as := [.int i1, .int i2]) hX gi (zt_X2_measureOf (d := d - 1) (by omega) g) zl_X11_176 rfl dX11_measure_67 ⟨rfl, rfl, Nat.le_of_ble_eq_true rfl⟩ ⟨by omega, by omega⟩ ?_
    refine zw_istore hX dX11_measure_70 (by decide) ?_
    refine zw_aload_n hX dX11_measure_72 rfl ?_
    obtain ⟨b12, g, h⟩ := zb_some h
    refine zw_getr hX zl_X11_35 dX11_measure_73 g ?_
    refine zw_lload_n hX dX11_measure_76 rfl ?_
    refine zw_iload hX dX11_measure_77 rfl ?_
    obtain ⟨_, gi, h⟩ := zb_some h
    obtain ⟨r14, g, h⟩ := zb_some h
    refine zc_Vl (as := [.long j3, .int r11.1]) hX gi (zt_X7_setFact (d := d - 1) (by omega) g) zl_X11_233 rfl dX11_measure_79 ⟨rfl, rfl, Nat.le_of_ble_eq_true rfl⟩ ⟨by omega, by omega⟩ ?_
    refine zw_pop2_l hX dX11_measure_82 rfl ?_
    refine zw_iload hX dX11_measure_83 rfl ?_
    obtain rfl := Option.some.inj h
    exact zw_iret hX hr dX11_measure_85 rfl ⟨_, rfl, rfl⟩
  · rintro X S9 rfl
    obtain rfl := Option.some.inj h
    exact zx_out hX hxt rfl
set_option maxHeartbeats 4000000 in
set_option maxRecDepth 100000 in
theorem zt_X11_measure_J57 {p : Program} {l : Launch} {e : Env} {R : Room} {s : State} {m : MethodId} {args : Array Value} {below : List Frame} {meth : Method} {c : Code} {V : zm_V} {mc ms d rc rs : Nat} (hlt : l.stackTraces = false) (hxt : ∀ x ∈ c.exceptionTable.toList, False) (hX : zm_X p R s m args meth c RX11 "measure" cX11_measure 6 zk_E V mc ms) (hr : meth.sig.returnType = (some .int)) (hR : R.frames = d ∧ R.locals = 64 * d) (hd : 7 ≤ d) {N : Nat} {a0 : Nat} {i1 : Int32} {i2 : Int32} {j3 : Int64} {out : ((Int32 ⊕ String) × zm_S)} (hc : 1 ≤ rc ∧ 6 ≤ rs) {S : zm_S} (h : zf_X11_measure_J57 N a0 i1 i2 j3 S = some out) : zw p l e R s m args below meth c (vx_MQ below (zm_Qc zk_E V (zq_i out)) (zm_XC zk_E V (zq_x out)) args s mc ms (fun q => V.2.2.2.1 ≤ q)) 6 zk_E V mc ms 57 [(0, .ref a0), (1, .int i1), (2, .int i2), (3, .long j3)] [] S rc rs := by
  unfold zf_X11_measure_J57 at h
  refine zw_iconst (v := (0 : Int32)) hX dX11_measure_57 (by decide) ?_
  refine zw_sub (lv' := [(0, .ref a0), (1, .int i1), (2, .int i2), (3, .long j3)]) (List.forall_mem_cons.mpr ⟨rfl, (List.forall_mem_cons.mpr ⟨rfl, (List.forall_mem_cons.mpr ⟨rfl, (List.forall_mem_cons.mpr ⟨rfl, zs_nil⟩)⟩)⟩)⟩) ?_
  exact zt_X11_measure_J58 hlt hxt hX hr hR hd ⟨by omega, by omega⟩ h
set_option maxHeartbeats 4000000 in
set_option maxRecDepth 100000 in
theorem zt_X11_measure_J29 {p : Program} {l : Launch} {e : Env} {R : Room} {s : State} {m : MethodId} {args : Array Value} {below : List Frame} {meth : Method} {c : Code} {V : zm_V} {mc ms d rc rs : Nat} (hlt : l.stackTraces = false) (hxt : ∀ x ∈ c.exceptionTable.toList, False) (hX : zm_X p R s m args meth c RX11 "measure" cX11_measure 6 zk_E V mc ms) (hr : meth.sig.returnType = (some .int)) (hR : R.frames = d ∧ R.locals = 64 * d) (hd : 7 ≤ d) {N : Nat} {a0 : Nat} {i1 : Int32} {i2 : Int32} {j3 : Int64} {t0 : Int32} {out : ((Int32 ⊕ String) × zm_S)} (hc : 2 ≤ rc ∧ 12 ≤ rs) {S : zm_S} (h : zf_X11_measure_J29 N a0 i1 i2 j3 t0 S = some out) : zw p l e R s m args below meth c (vx_MQ below (zm_Qc zk_E V (zq_i out)) (zm_XC zk_E V (zq_x out)) args s mc ms (fun q => V.2.2.2.1 ≤ q)) 6 zk_E V mc ms 29 [(0, .ref a0), (1, .int i1), (2, .int i2), (3, .long j3)] [.int t0] S rc rs := by
  unfold zf_X11_measure_J29 at h
  obtain ⟨r, g, h⟩ := zb_some h
  refine zc_S (as := [.int t0]) hX (zt_X11_needArgument hlt (d := d - 1) (by omega) g) zl_X11_100 dX11_measure_29 ⟨rfl, rfl, Nat.le_of_ble_eq_true rfl⟩ ⟨by omega, by omega⟩ ⟨by omega, by omega⟩ ?_ ?_
  · rintro _ S4 ⟨⟨u3, rfl⟩, rfl⟩
    try dsimp only at h
    refine zw_aload_n hX dX11_measure_32 rfl ?_
    obtain ⟨b5, g, h⟩ := zb_some h
    refine zw_getr hX zl_X11_21 dX11_measure_33 g ?_
    obtain ⟨v6, g, h⟩ := zb_some h
    refine zw_getNi hX zl_X11_119 dX11_measure_36 g ?_
    refine zw_if_eq (tgt := 57) hX dX11_measure_39 (by decide) (fun c39 => ?_) (fun c39 => ?_)
    · rw [if_pos c39] at h
      refine zw_sub (lv' := [(0, .ref a0), (1, .int i1), (2, .int i2), (3, .long j3)]) (List.forall_mem_cons.mpr ⟨rfl, (List.forall_mem_cons.mpr ⟨rfl, (List.forall_mem_cons.mpr ⟨rfl, (List.forall_mem_cons.mpr ⟨rfl, zs_nil⟩)⟩)⟩)⟩) ?_
      exact zt_X11_measure_J57 hlt hxt hX hr hR hd ⟨by omega, by omega⟩ h
    · rw [if_neg c39] at h
      refine zw_aload_n hX dX11_measure_42 rfl ?_
      obtain ⟨b15, g, h⟩ := zb_some h
      refine zw_getr hX zl_X11_35 dX11_measure_43 g ?_
      refine zw_lload_n hX dX11_measure_46 rfl ?_
      obtain ⟨_, gi, h⟩ := zb_some h
      obtain ⟨r17, g, h⟩ := zb_some h
      refine zc_Vi (as := [.long j3]) hX gi (zt_X7_hasRoomForFact (d := d - 1) (by omega) g) zl_X11_230 rfl dX11_measure_47 ⟨rfl, rfl, Nat.le_of_ble_eq_true rfl⟩ ⟨by omega, by omega⟩ ?_
      refine zw_if_eq (tgt := 57) hX dX11_measure_50 (by decide) (fun c50 => ?_) (fun c50 => ?_)
      · rw [if_pos c50] at h
        refine zw_sub (lv' := [(0, .ref a0), (1, .int i1), (2, .int i2), (3, .long j3)]) (List.forall_mem_cons.mpr ⟨rfl, (List.forall_mem_cons.mpr ⟨rfl, (List.forall_mem_cons.mpr ⟨rfl, (List.forall_mem_cons.mpr ⟨rfl, zs_nil⟩)⟩)⟩)⟩) ?_
        exact zt_X11_measure_J57 hlt hxt hX hr hR hd ⟨by omega, by omega⟩ h
      · rw [if_neg c50] at h
        refine zw_iconst (v := (1 : Int32)) hX dX11_measure_53 (by decide) ?_
        refine zw_goto (tgt := 58) hX dX11_measure_54 (by decide) ?_
        refine zw_sub (lv' := [(0, .ref a0), (1, .int i1), (2, .int i2), (3, .long j3)]) (List.forall_mem_cons.mpr ⟨rfl, (List.forall_mem_cons.mpr ⟨rfl, (List.forall_mem_cons.mpr ⟨rfl, (List.forall_mem_cons.mpr ⟨rfl, zs_nil⟩)⟩)⟩)⟩) ?_
        exact zt_X11_measure_J58 hlt hxt hX hr hR hd ⟨by omega, by omega⟩ h
  · rintro X S9 rfl
    obtain rfl := Option.some.inj h
    exact zx_out hX hxt rfl
set_option maxHeartbeats 4000000 in
set_option maxRecDepth 100000 in
theorem zt_X11_measure_J28 {p : Program} {l : Launch} {e : Env} {R : Room} {s : State} {m : MethodId} {args : Array Value} {below : List Frame} {meth : Method} {c : Code} {V : zm_V} {mc ms d rc rs : Nat} (hlt : l.stackTraces = false) (hxt : ∀ x ∈ c.exceptionTable.toList, False) (hX : zm_X p R s m args meth c RX11 "measure" cX11_measure 6 zk_E V mc ms) (hr : meth.sig.returnType = (some .int)) (hR : R.frames = d ∧ R.locals = 64 * d) (hd : 7 ≤ d) {N : Nat} {a0 : Nat} {i1 : Int32} {i2 : Int32} {j3 : Int64} {out : ((Int32 ⊕ String) × zm_S)} (hc : 2 ≤ rc ∧ 12 ≤ rs) {S : zm_S} (h : zf_X11_measure_J28 N a0 i1 i2 j3 S = some out) : zw p l e R s m args below meth c (vx_MQ below (zm_Qc zk_E V (zq_i out)) (zm_XC zk_E V (zq_x out)) args s mc ms (fun q => V.2.2.2.1 ≤ q)) 6 zk_E V mc ms 28 [(0, .ref a0), (1, .int i1), (2, .int i2), (3, .long j3)] [] S rc rs := by
  unfold zf_X11_measure_J28 at h
  refine zw_iconst (v := (0 : Int32)) hX dX11_measure_28 (by decide) ?_
  refine zw_sub (lv' := [(0, .ref a0), (1, .int i1), (2, .int i2), (3, .long j3)]) (List.forall_mem_cons.mpr ⟨rfl, (List.forall_mem_cons.mpr ⟨rfl, (List.forall_mem_cons.mpr ⟨rfl, (List.forall_mem_cons.mpr ⟨rfl, zs_nil⟩)⟩)⟩)⟩) ?_
  exact zt_X11_measure_J29 hlt hxt hX hr hR hd ⟨by omega, by omega⟩ h
set_option maxHeartbeats 4000000 in
set_option maxRecDepth 100000 in
theorem zt_X11_measure {l : Launch} {V : zm_V} (hlt : l.stackTraces = false) {N : Nat} {S : zm_S} {out : ((Int32 ⊕ String) × zm_S)} {d : Nat} {a0 : Nat} {i1 : Int32} {i2 : Int32} {j3 : Int64} (hd : 7 ≤ d) (h : zf_X11_measure N a0 i1 i2 j3 S = some out) : zm_Met l zk_E V yX11_measure (.code yX11_measure cX11_measure 6 (some .int)) d [.ref a0, .int i1, .int i2, .long j3] S 2 12 (zq_i out) (zq_x out) := by
  refine zm_of (by decide +kernel) (Nat.le_of_ble_eq_true rfl) ?_
  intro p e R s m args below meth c hRR hX hr hxt
  have hR : R.frames = d ∧ R.locals = 64 * d := by rw [hRR]; exact ⟨rfl, rfl⟩
  have hX : zm_X p R s m args meth c RX11 "measure" cX11_measure 6 zk_E V 2 12 := hX
  unfold zf_X11_measure at h
  refine zw_sub (lv' := [(0, .ref a0), (1, .int i1), (2, .int i2), (3, .long j3)]) (List.forall_mem_cons.mpr ⟨rfl, (List.forall_mem_cons.mpr ⟨rfl, (List.forall_mem_cons.mpr ⟨rfl, (List.forall_mem_cons.mpr ⟨rfl, zs_nil⟩)⟩)⟩)⟩) ?_
  refine zw_aload_n hX dX11_measure_0 rfl ?_
  refine zw_iload_n hX dX11_measure_1 rfl ?_
  obtain ⟨_, gi, h⟩ := zb_some h
  obtain ⟨r2, g, h⟩ := zb_some h
  refine zc_Vi (as := [.int i1]) hX gi (zt_X11_isSpace (d := d - 1) (by omega) g) zl_X11_166 rfl dX11_measure_2 ⟨rfl, rfl, Nat.le_of_ble_eq_true rfl⟩ ⟨by omega, by omega⟩ ?_
  refine zw_if_eq (tgt := 28) hX dX11_measure_5 (by decide) (fun c5 => ?_) (fun c5 => ?_)
  · rw [if_pos c5] at h
    refine zw_sub (lv' := [(0, .ref a0), (1, .int i1), (2, .int i2), (3, .long j3)]) (List.forall_mem_cons.mpr ⟨rfl, (List.forall_mem_cons.mpr ⟨rfl, (List.forall_mem_cons.mpr ⟨rfl, (List.forall_mem_cons.mpr ⟨rfl, zs_nil⟩)⟩)⟩)⟩) ?_
    exact zt_X11_measure_J28 hlt hxt hX hr hR hd ⟨by omega, by omega⟩ h
  · rw [if_neg c5] at h
    refine zw_iload_n hX dX11_measure_8 rfl ?_
    refine zw_iconst (v := (0 : Int32)) hX dX11_measure_9 (by decide) ?_
    refine zw_iconst (v := (2 : Int32)) hX dX11_measure_10 (by decide) ?_
    obtain ⟨r19, g, h⟩ := zb_some h
    refine zc_Si (as := [.int i2, .int (0 : Int32), .int (2 : Int32)]) hX (zt_X11_isWithin (d := d - 1) (by omega) g) zl_X11_133 dX11_measure_11 ⟨rfl, rfl, Nat.le_of_ble_eq_true rfl⟩ ⟨by omega, by omega⟩ ?_
    refine zw_if_eq (tgt := 28) hX dX11_measure_14 (by decide) (fun c14 => ?_) (fun c14 => ?_)
    · rw [if_pos c14] at h
      refine zw_sub (lv' := [(0, .ref a0), (1, .int i1), (2, .int i2), (3, .long j3)]) (List.forall_mem_cons.mpr ⟨rfl, (List.forall_mem_cons.mpr ⟨rfl, (List.forall_mem_cons.mpr ⟨rfl, (List.forall_mem_cons.mpr ⟨rfl, zs_nil⟩)⟩)⟩)⟩) ?_
      exact zt_X11_measure_J28 hlt hxt hX hr hR hd ⟨by omega, by omega⟩ h
    · rw [if_neg c14] at h
      refine zw_lload_n hX dX11_measure_17 rfl ?_
      obtain ⟨r21, g, h⟩ := zb_some h
      refine zc_Si (as := [.long j3]) hX (zt_X7_isFactName (d := d - 1) (by omega) g) zl_X11_225 dX11_measure_18 ⟨rfl, rfl, Nat.le_of_ble_eq_true rfl⟩ ⟨by omega, by omega⟩ ?_
      refine zw_if_eq (tgt := 28) hX dX11_measure_21 (by decide) (fun c21 => ?_) (fun c21 => ?_)
      · rw [if_pos c21] at h
        refine zw_sub (lv' := [(0, .ref a0), (1, .int i1), (2, .int i2), (3, .long j3)]) (List.forall_mem_cons.mpr ⟨rfl, (List.forall_mem_cons.mpr ⟨rfl, (List.forall_mem_cons.mpr ⟨rfl, (List.forall_mem_cons.mpr ⟨rfl, zs_nil⟩)⟩)⟩)⟩) ?_
        exact zt_X11_measure_J28 hlt hxt hX hr hR hd ⟨by omega, by omega⟩ h
      · rw [if_neg c21] at h
        refine zw_iconst (v := (1 : Int32)) hX dX11_measure_24 (by decide) ?_
        refine zw_goto (tgt := 29) hX dX11_measure_25 (by decide) ?_
        refine zw_sub (lv' := [(0, .ref a0), (1, .int i1), (2, .int i2), (3, .long j3)]) (List.forall_mem_cons.mpr ⟨rfl, (List.forall_mem_cons.mpr ⟨rfl, (List.forall_mem_cons.mpr ⟨rfl, (List.forall_mem_cons.mpr ⟨rfl, zs_nil⟩)⟩)⟩)⟩) ?_
        exact zt_X11_measure_J29 hlt hxt hX hr hR hd ⟨by omega, by omega⟩ h
set_option maxHeartbeats 4000000 in
set_option maxRecDepth 100000 in
theorem zt_X11_check {l : Launch} {V : zm_V} (hlt : l.stackTraces = false) {N : Nat} {S : zm_S} {out : ((Int32 ⊕ String) × zm_S)} {d : Nat} {a0 : Nat} {i1 : Int32} (hd : 44 ≤ d) (h : zf_X11_check N a0 i1 S = some out) : zm_Met l zk_E V yX11_check (.code yX11_check cX11_check 2 (some .int)) d [.ref a0, .int i1] S 1 6 (zq_i out) (zq_x out) := by
  refine zm_of (by decide +kernel) (Nat.le_of_ble_eq_true rfl) ?_
  intro p e R s m args below meth c hRR hX hr hxt
  have hR : R.frames = d ∧ R.locals = 64 * d := by rw [hRR]; exact ⟨rfl, rfl⟩
  have hX : zm_X p R s m args meth c RX11 "check" cX11_check 2 zk_E V 1 6 := hX
  unfold zf_X11_check at h
  refine zw_sub (lv' := [(0, .ref a0), (1, .int i1)]) (List.forall_mem_cons.mpr ⟨rfl, (List.forall_mem_cons.mpr ⟨rfl, zs_nil⟩)⟩) ?_
  refine zw_iload_n hX dX11_check_0 rfl ?_
  refine zw_iconst (v := (0 : Int32)) hX dX11_check_1 (by decide) ?_
  refine zw_ldc (v := (1000000 : Int32)) hX dX11_check_2 zl_X11_237 ?_
  obtain ⟨r2, g, h⟩ := zb_some h
  refine zc_Si (as := [.int i1, .int (0 : Int32), .int (1000000 : Int32)]) hX (zt_X11_isWithin (d := d - 1) (by omega) g) zl_X11_133 dX11_check_4 ⟨rfl, rfl, Nat.le_of_ble_eq_true rfl⟩ ⟨by omega, by omega⟩ ?_
  obtain ⟨r, g, h⟩ := zb_some h
  refine zc_S (as := [.int r2.1]) hX (zt_X11_needArgument hlt (d := d - 1) (by omega) g) zl_X11_100 dX11_check_7 ⟨rfl, rfl, Nat.le_of_ble_eq_true rfl⟩ ⟨by omega, by omega⟩ ⟨by omega, by omega⟩ ?_ ?_
  · rintro _ S4 ⟨⟨u3, rfl⟩, rfl⟩
    try dsimp only at h
    refine zw_aload_n hX dX11_check_10 rfl ?_
    obtain ⟨b5, g, h⟩ := zb_some h
    refine zw_getr hX zl_X11_35 dX11_check_11 g ?_
    refine zw_iload_n hX dX11_check_14 rfl ?_
    obtain ⟨_, gi, h⟩ := zb_some h
    obtain ⟨r7, g, h⟩ := zb_some h
    refine zc_Vv (as := [.int i1]) hX gi (zt_X7_askAll (d := d - 1) (by omega) g) zl_X11_238 rfl dX11_check_15 ⟨rfl, rfl, Nat.le_of_ble_eq_true rfl⟩ ⟨by omega, by omega⟩ ?_
    refine zw_aload_n hX dX11_check_18 rfl ?_
    obtain ⟨b8, g, h⟩ := zb_some h
    refine zw_getr hX zl_X11_35 dX11_check_19 g ?_
    obtain ⟨_, gi, h⟩ := zb_some h
    obtain ⟨r10, g, h⟩ := zb_some h
    refine zc_Vi (as := []) hX gi (zt_X7_countBroken (d := d - 1) (by omega) g) zl_X11_242 rfl dX11_check_22 ⟨rfl, rfl, Nat.le_of_ble_eq_true rfl⟩ ⟨by omega, by omega⟩ ?_
    obtain rfl := Option.some.inj h
    exact zw_iret hX hr dX11_check_25 rfl ⟨_, rfl, rfl⟩
  · rintro X S9 rfl
    obtain rfl := Option.some.inj h
    exact zx_out hX hxt rfl
set_option maxHeartbeats 4000000 in
set_option maxRecDepth 100000 in
theorem zt_X11_rule_J32 {p : Program} {l : Launch} {e : Env} {R : Room} {s : State} {m : MethodId} {args : Array Value} {below : List Frame} {meth : Method} {c : Code} {V : zm_V} {mc ms d rc rs : Nat} (hlt : l.stackTraces = false) (hxt : ∀ x ∈ c.exceptionTable.toList, False) (hX : zm_X p R s m args meth c RX11 "rule" cX11_rule 3 zk_E V mc ms) (hr : meth.sig.returnType = (some .long)) (hR : R.frames = d ∧ R.locals = 64 * d) (hd : 7 ≤ d) {N : Nat} {a0 : Nat} {i1 : Int32} {i2 : Int32} {t0 : Int32} {out : ((Int64 ⊕ String) × zm_S)} (hc : 2 ≤ rc ∧ 12 ≤ rs) {S : zm_S} (h : zf_X11_rule_J32 N a0 i1 i2 t0 S = some out) : zw p l e R s m args below meth c (vx_MQ below (zm_Qc zk_E V (zq_l out)) (zm_XC zk_E V (zq_x out)) args s mc ms (fun q => V.2.2.2.1 ≤ q)) 3 zk_E V mc ms 32 [(0, .ref a0), (1, .int i1), (2, .int i2)] [.int t0] S rc rs := by
  unfold zf_X11_rule_J32 at h
  obtain ⟨r, g, h⟩ := zb_some h
  refine zc_S (as := [.int t0]) hX (zt_X11_needArgument hlt (d := d - 1) (by omega) g) zl_X11_100 dX11_rule_32 ⟨rfl, rfl, Nat.le_of_ble_eq_true rfl⟩ ⟨by omega, by omega⟩ ⟨by omega, by omega⟩ ?_ ?_
  · rintro _ S6 ⟨⟨u5, rfl⟩, rfl⟩
    try dsimp only at h
    refine zw_aload_n hX dX11_rule_35 rfl ?_
    obtain ⟨b7, g, h⟩ := zb_some h
    refine zw_getr hX zl_X11_35 dX11_rule_36 g ?_
    obtain ⟨v8, g, h⟩ := zb_some h
    refine zw_getNi hX zl_X11_245 dX11_rule_39 g ?_
    obtain ⟨r, g, h⟩ := zb_some h
    refine zc_S (as := [.int v8]) hX (zt_X11_needState hlt (d := d - 1) (by omega) g) zl_X11_112 dX11_rule_42 ⟨rfl, rfl, Nat.le_of_ble_eq_true rfl⟩ ⟨by omega, by omega⟩ ⟨by omega, by omega⟩ ?_ ?_
    · rintro _ S10 ⟨⟨u9, rfl⟩, rfl⟩
      try dsimp only at h
      refine zw_aload_n hX dX11_rule_45 rfl ?_
      obtain ⟨b11, g, h⟩ := zb_some h
      refine zw_getr hX zl_X11_35 dX11_rule_46 g ?_
      refine zw_iload_n hX dX11_rule_49 rfl ?_
      refine zw_iload_n hX dX11_rule_50 rfl ?_
      obtain ⟨_, gi, h⟩ := zb_some h
      obtain ⟨r13, g, h⟩ := zb_some h
      refine zc_Vl (as := [.int i1, .int i2]) hX gi (zt_X7_answerOf (d := d - 1) (by omega) g) zl_X11_248 rfl dX11_rule_51 ⟨rfl, rfl, Nat.le_of_ble_eq_true rfl⟩ ⟨by omega, by omega⟩ ?_
      obtain rfl := Option.some.inj h
      exact zw_lret hX hr dX11_rule_54 ⟨_, rfl, rfl⟩
    · rintro X S9 rfl
      obtain rfl := Option.some.inj h
      exact zx_out hX hxt rfl
  · rintro X S9 rfl
    obtain rfl := Option.some.inj h
    exact zx_out hX hxt rfl
set_option maxHeartbeats 4000000 in
set_option maxRecDepth 100000 in
theorem zt_X11_rule_J31 {p : Program} {l : Launch} {e : Env} {R : Room} {s : State} {m : MethodId} {args : Array Value} {below : List Frame} {meth : Method} {c : Code} {V : zm_V} {mc ms d rc rs : Nat} (hlt : l.stackTraces = false) (hxt : ∀ x ∈ c.exceptionTable.toList, False) (hX : zm_X p R s m args meth c RX11 "rule" cX11_rule 3 zk_E V mc ms) (hr : meth.sig.returnType = (some .long)) (hR : R.frames = d ∧ R.locals = 64 * d) (hd : 7 ≤ d) {N : Nat} {a0 : Nat} {i1 : Int32} {i2 : Int32} {out : ((Int64 ⊕ String) × zm_S)} (hc : 2 ≤ rc ∧ 12 ≤ rs) {S : zm_S} (h : zf_X11_rule_J31 N a0 i1 i2 S = some out) : zw p l e R s m args below meth c (vx_MQ below (zm_Qc zk_E V (zq_l out)) (zm_XC zk_E V (zq_x out)) args s mc ms (fun q => V.2.2.2.1 ≤ q)) 3 zk_E V mc ms 31 [(0, .ref a0), (1, .int i1), (2, .int i2)] [] S rc rs := by
  unfold zf_X11_rule_J31 at h
  refine zw_iconst (v := (0 : Int32)) hX dX11_rule_31 (by decide) ?_
  refine zw_sub (lv' := [(0, .ref a0), (1, .int i1), (2, .int i2)]) (List.forall_mem_cons.mpr ⟨rfl, (List.forall_mem_cons.mpr ⟨rfl, (List.forall_mem_cons.mpr ⟨rfl, zs_nil⟩)⟩)⟩) ?_
  exact zt_X11_rule_J32 hlt hxt hX hr hR hd ⟨by omega, by omega⟩ h
set_option maxHeartbeats 4000000 in
set_option maxRecDepth 100000 in
theorem zt_X11_rule {l : Launch} {V : zm_V} (hlt : l.stackTraces = false) {N : Nat} {S : zm_S} {out : ((Int64 ⊕ String) × zm_S)} {d : Nat} {a0 : Nat} {i1 : Int32} {i2 : Int32} (hd : 7 ≤ d) (h : zf_X11_rule N a0 i1 i2 S = some out) : zm_Met l zk_E V yX11_rule (.code yX11_rule cX11_rule 3 (some .long)) d [.ref a0, .int i1, .int i2] S 2 12 (zq_l out) (zq_x out) := by
  refine zm_of (by decide +kernel) (Nat.le_of_ble_eq_true rfl) ?_
  intro p e R s m args below meth c hRR hX hr hxt
  have hR : R.frames = d ∧ R.locals = 64 * d := by rw [hRR]; exact ⟨rfl, rfl⟩
  have hX : zm_X p R s m args meth c RX11 "rule" cX11_rule 3 zk_E V 2 12 := hX
  unfold zf_X11_rule at h
  refine zw_sub (lv' := [(0, .ref a0), (1, .int i1), (2, .int i2)]) (List.forall_mem_cons.mpr ⟨rfl, (List.forall_mem_cons.mpr ⟨rfl, (List.forall_mem_cons.mpr ⟨rfl, zs_nil⟩)⟩)⟩) ?_
  refine zw_iload_n hX dX11_rule_0 rfl ?_
  refine zw_iconst (v := (0 : Int32)) hX dX11_rule_1 (by decide) ?_
  refine zw_aload_n hX dX11_rule_2 rfl ?_
  obtain ⟨b1, g, h⟩ := zb_some h
  refine zw_getr hX zl_X11_35 dX11_rule_3 g ?_
  obtain ⟨v2, g, h⟩ := zb_some h
  refine zw_getNi hX zl_X11_222 dX11_rule_6 g ?_
  refine zw_iconst (v := (1 : Int32)) hX dX11_rule_9 (by decide) ?_
  refine zw_isub hX dX11_rule_10 ?_
  obtain ⟨r4, g, h⟩ := zb_some h
  refine zc_Si (as := [.int i1, .int (0 : Int32), .int (v2 - (1 : Int32))]) hX (zt_X11_isWithin (d := d - 1) (by omega) g) zl_X11_133 dX11_rule_11 ⟨rfl, rfl, Nat.le_of_ble_eq_true rfl⟩ ⟨by omega, by omega⟩ ?_
  refine zw_if_eq (tgt := 31) hX dX11_rule_14 (by decide) (fun c14 => ?_) (fun c14 => ?_)
  · rw [if_pos c14] at h
    refine zw_sub (lv' := [(0, .ref a0), (1, .int i1), (2, .int i2)]) (List.forall_mem_cons.mpr ⟨rfl, (List.forall_mem_cons.mpr ⟨rfl, (List.forall_mem_cons.mpr ⟨rfl, zs_nil⟩)⟩)⟩) ?_
    exact zt_X11_rule_J31 hlt hxt hX hr hR hd ⟨by omega, by omega⟩ h
  · rw [if_neg c14] at h
    refine zw_iload_n hX dX11_rule_17 rfl ?_
    refine zw_iconst (v := (0 : Int32)) hX dX11_rule_18 (by decide) ?_
    refine zw_bipush (v := (6 : Int32)) hX dX11_rule_19 (by decide) ?_
    obtain ⟨r15, g, h⟩ := zb_some h
    refine zc_Si (as := [.int i2, .int (0 : Int32), .int (6 : Int32)]) hX (zt_X11_isWithin (d := d - 1) (by omega) g) zl_X11_133 dX11_rule_21 ⟨rfl, rfl, Nat.le_of_ble_eq_true rfl⟩ ⟨by omega, by omega⟩ ?_
    refine zw_if_eq (tgt := 31) hX dX11_rule_24 (by decide) (fun c24 => ?_) (fun c24 => ?_)
    · rw [if_pos c24] at h
      refine zw_sub (lv' := [(0, .ref a0), (1, .int i1), (2, .int i2)]) (List.forall_mem_cons.mpr ⟨rfl, (List.forall_mem_cons.mpr ⟨rfl, (List.forall_mem_cons.mpr ⟨rfl, zs_nil⟩)⟩)⟩) ?_
      exact zt_X11_rule_J31 hlt hxt hX hr hR hd ⟨by omega, by omega⟩ h
    · rw [if_neg c24] at h
      refine zw_iconst (v := (1 : Int32)) hX dX11_rule_27 (by decide) ?_
      refine zw_goto (tgt := 32) hX dX11_rule_28 (by decide) ?_
      refine zw_sub (lv' := [(0, .ref a0), (1, .int i1), (2, .int i2)]) (List.forall_mem_cons.mpr ⟨rfl, (List.forall_mem_cons.mpr ⟨rfl, (List.forall_mem_cons.mpr ⟨rfl, zs_nil⟩)⟩)⟩) ?_
      exact zt_X11_rule_J32 hlt hxt hX hr hR hd ⟨by omega, by omega⟩ h
set_option maxHeartbeats 4000000 in
set_option maxRecDepth 100000 in
theorem zt_X11_build_J48 {p : Program} {l : Launch} {e : Env} {R : Room} {s : State} {m : MethodId} {args : Array Value} {below : List Frame} {meth : Method} {c : Code} {V : zm_V} {mc ms d rc rs : Nat} (hlt : l.stackTraces = false) (hxt : ∀ x ∈ c.exceptionTable.toList, False) (hX : zm_X p R s m args meth c RX11 "build" cX11_build 3 zk_E V mc ms) (hr : meth.sig.returnType = (some .int)) (hR : R.frames = d ∧ R.locals = 64 * d) (hd : 44 ≤ d) {N : Nat} {a0 : Nat} {i1 : Int32} {t0 : Int32} {out : ((Int32 ⊕ String) × zm_S)} (hc : 4 ≤ rc ∧ 124086 ≤ rs) {S : zm_S} (h : zf_X11_build_J48 N a0 i1 t0 S = some out) : zw p l e R s m args below meth c (vx_MQ below (zm_Qc zk_E V (zq_i out)) (zm_XC zk_E V (zq_x out)) args s mc ms (fun q => V.2.2.2.1 ≤ q)) 3 zk_E V mc ms 48 [(0, .ref a0), (1, .int i1)] [.int t0] S rc rs := by
  unfold zf_X11_build_J48 at h
  obtain ⟨r, g, h⟩ := zb_some h
  refine zc_S (as := [.int t0]) hX (zt_X11_needState hlt (d := d - 1) (by omega) g) zl_X11_112 dX11_build_48 ⟨rfl, rfl, Nat.le_of_ble_eq_true rfl⟩ ⟨by omega, by omega⟩ ⟨by omega, by omega⟩ ?_ ?_
  · rintro _ S7 ⟨⟨u6, rfl⟩, rfl⟩
    try dsimp only at h
    refine zw_aload_n hX dX11_build_51 rfl ?_
    obtain ⟨b8, g, h⟩ := zb_some h
    refine zw_getr hX zl_X11_35 dX11_build_52 g ?_
    refine zw_iload_n hX dX11_build_55 rfl ?_
    obtain ⟨_, gi, h⟩ := zb_some h
    obtain ⟨r10, g, h⟩ := zb_some h
    refine zc_Vv (as := [.int i1]) hX gi (zt_X7_askAll (d := d - 1) (by omega) g) zl_X11_238 rfl dX11_build_56 ⟨rfl, rfl, Nat.le_of_ble_eq_true rfl⟩ ⟨by omega, by omega⟩ ?_
    refine zw_aload_n hX dX11_build_59 rfl ?_
    obtain ⟨b11, g, h⟩ := zb_some h
    refine zw_getr hX zl_X11_35 dX11_build_60 g ?_
    obtain ⟨_, gi, h⟩ := zb_some h
    obtain ⟨r13, g, h⟩ := zb_some h
    refine zc_Vi (as := []) hX gi (zt_X7_firstRefusing (d := d - 1) (by omega) g) zl_X11_252 rfl dX11_build_63 ⟨rfl, rfl, Nat.le_of_ble_eq_true rfl⟩ ⟨by omega, by omega⟩ ?_
    refine zw_istore_n hX dX11_build_66 (by decide) ?_
    refine zw_iload_n hX dX11_build_67 rfl ?_
    refine zw_iconst (v := (-1 : Int32)) hX dX11_build_68 (by decide) ?_
    refine zw_icmp_eq (tgt := 76) hX dX11_build_69 (by decide) (fun c69 => ?_) (fun c69 => ?_)
    · rw [if_pos c69] at h
      refine zw_aload_n hX dX11_build_76 rfl ?_
      refine zw_iconst (v := (1 : Int32)) hX dX11_build_77 (by decide) ?_
      obtain ⟨S14, g, h⟩ := zb_some h
      refine zw_putv hX zl_X11_104 zt_11_11 dX11_build_78 rfl (by decide) g ?_
      refine zw_aload_n hX dX11_build_81 rfl ?_
      obtain ⟨b15, g, h⟩ := zb_some h
      refine zw_getr hX zl_X11_44 dX11_build_82 g ?_
      obtain ⟨_, gi, h⟩ := zb_some h
      obtain ⟨r17, g, h⟩ := zb_some h
      refine zc_Vv (as := []) hX gi (zt_X10_numberCells (d := d - 1) (by omega) g) zl_X11_255 rfl dX11_build_85 ⟨rfl, rfl, Nat.le_of_ble_eq_true rfl⟩ ⟨by omega, by omega⟩ ?_
      refine zw_aload_n hX dX11_build_88 rfl ?_
      obtain ⟨b18, g, h⟩ := zb_some h
      refine zw_getr hX zl_X11_53 dX11_build_89 g ?_
      obtain ⟨_, gi, h⟩ := zb_some h
      obtain ⟨r21, g, h⟩ := zb_some h
      refine zc_V (as := []) hX (zt_X0_findPortals (d := d - 1) (by omega) g) zl_X11_258 rfl dX11_build_92 (zi_spec gi) ⟨rfl, rfl, Nat.le_of_ble_eq_true rfl⟩ ⟨by omega, by omega⟩ ⟨by omega, by omega⟩ ?_ ?_
      · rintro _ _ ⟨rfl, rfl⟩
        refine zw_aload_n hX dX11_build_95 rfl ?_
        obtain ⟨b22, g, h⟩ := zb_some h
        refine zw_getr hX zl_X11_85 dX11_build_96 g ?_
        refine zw_aload_n hX dX11_build_99 rfl ?_
        obtain ⟨b23, g, h⟩ := zb_some h
        refine zw_getr hX zl_X11_21 dX11_build_100 g ?_
        obtain ⟨v24, g, h⟩ := zb_some h
        refine zw_getNi hX zl_X11_154 dX11_build_103 g ?_
        refine zw_bipush (v := (10 : Int32)) hX dX11_build_106 (by decide) ?_
        refine zw_iadd hX dX11_build_108 ?_
        obtain ⟨S25, g, h⟩ := zb_some h
        refine zw_putvN hX zl_X11_261 zt_4_2 dX11_build_109 rfl rfl g ?_
        refine zw_aload_n hX dX11_build_112 rfl ?_
        obtain ⟨b26, g, h⟩ := zb_some h
        refine zw_getr hX zl_X11_53 dX11_build_113 g ?_
        obtain ⟨v27, g, h⟩ := zb_some h
        refine zw_getNi hX zl_X11_264 dX11_build_116 g ?_
        obtain rfl := Option.some.inj h
        exact zw_iret hX hr dX11_build_119 rfl ⟨_, rfl, rfl⟩
      · intro _ _ hx
        exact hx.elim
    · rw [if_neg c69] at h
      refine zw_iconst (v := (-1 : Int32)) hX dX11_build_72 (by decide) ?_
      refine zw_iload_n hX dX11_build_73 rfl ?_
      refine zw_isub hX dX11_build_74 ?_
      obtain rfl := Option.some.inj h
      exact zw_iret hX hr dX11_build_75 rfl ⟨_, rfl, rfl⟩
  · rintro X S9 rfl
    obtain rfl := Option.some.inj h
    exact zx_out hX hxt rfl
set_option maxHeartbeats 4000000 in
set_option maxRecDepth 100000 in
theorem zt_X11_build_J47 {p : Program} {l : Launch} {e : Env} {R : Room} {s : State} {m : MethodId} {args : Array Value} {below : List Frame} {meth : Method} {c : Code} {V : zm_V} {mc ms d rc rs : Nat} (hlt : l.stackTraces = false) (hxt : ∀ x ∈ c.exceptionTable.toList, False) (hX : zm_X p R s m args meth c RX11 "build" cX11_build 3 zk_E V mc ms) (hr : meth.sig.returnType = (some .int)) (hR : R.frames = d ∧ R.locals = 64 * d) (hd : 44 ≤ d) {N : Nat} {a0 : Nat} {i1 : Int32} {out : ((Int32 ⊕ String) × zm_S)} (hc : 4 ≤ rc ∧ 124086 ≤ rs) {S : zm_S} (h : zf_X11_build_J47 N a0 i1 S = some out) : zw p l e R s m args below meth c (vx_MQ below (zm_Qc zk_E V (zq_i out)) (zm_XC zk_E V (zq_x out)) args s mc ms (fun q => V.2.2.2.1 ≤ q)) 3 zk_E V mc ms 47 [(0, .ref a0), (1, .int i1)] [] S rc rs := by
  unfold zf_X11_build_J47 at h
  refine zw_iconst (v := (0 : Int32)) hX dX11_build_47 (by decide) ?_
  refine zw_sub (lv' := [(0, .ref a0), (1, .int i1)]) (List.forall_mem_cons.mpr ⟨rfl, (List.forall_mem_cons.mpr ⟨rfl, zs_nil⟩)⟩) ?_
  exact zt_X11_build_J48 hlt hxt hX hr hR hd ⟨by omega, by omega⟩ h
set_option maxHeartbeats 4000000 in
set_option maxRecDepth 100000 in
theorem zt_X11_build {l : Launch} {V : zm_V} (hlt : l.stackTraces = false) {N : Nat} {S : zm_S} {out : ((Int32 ⊕ String) × zm_S)} {d : Nat} {a0 : Nat} {i1 : Int32} (hd : 44 ≤ d) (h : zf_X11_build N a0 i1 S = some out) : zm_Met l zk_E V yX11_build (.code yX11_build cX11_build 3 (some .int)) d [.ref a0, .int i1] S 5 124092 (zq_i out) (zq_x out) := by
  refine zm_of (by decide +kernel) (Nat.le_of_ble_eq_true rfl) ?_
  intro p e R s m args below meth c hRR hX hr hxt
  have hR : R.frames = d ∧ R.locals = 64 * d := by rw [hRR]; exact ⟨rfl, rfl⟩
  have hX : zm_X p R s m args meth c RX11 "build" cX11_build 3 zk_E V 5 124092 := hX
  unfold zf_X11_build at h
  refine zw_sub (lv' := [(0, .ref a0), (1, .int i1)]) (List.forall_mem_cons.mpr ⟨rfl, (List.forall_mem_cons.mpr ⟨rfl, zs_nil⟩)⟩) ?_
  refine zw_iload_n hX dX11_build_0 rfl ?_
  refine zw_iconst (v := (0 : Int32)) hX dX11_build_1 (by decide) ?_
  refine zw_ldc (v := (1000000 : Int32)) hX dX11_build_2 zl_X11_237 ?_
  obtain ⟨r2, g, h⟩ := zb_some h
  refine zc_Si (as := [.int i1, .int (0 : Int32), .int (1000000 : Int32)]) hX (zt_X11_isWithin (d := d - 1) (by omega) g) zl_X11_133 dX11_build_4 ⟨rfl, rfl, Nat.le_of_ble_eq_true rfl⟩ ⟨by omega, by omega⟩ ?_
  obtain ⟨r, g, h⟩ := zb_some h
  refine zc_S (as := [.int r2.1]) hX (zt_X11_needArgument hlt (d := d - 1) (by omega) g) zl_X11_100 dX11_build_7 ⟨rfl, rfl, Nat.le_of_ble_eq_true rfl⟩ ⟨by omega, by omega⟩ ⟨by omega, by omega⟩ ?_ ?_
  · rintro _ S4 ⟨⟨u3, rfl⟩, rfl⟩
    try dsimp only at h
    refine zw_aload_n hX dX11_build_10 rfl ?_
    obtain ⟨v5, g, h⟩ := zb_some h
    refine zw_geti hX zl_X11_104 dX11_build_11 g ?_
    refine zw_if_ne (tgt := 47) hX dX11_build_14 (by decide) (fun c14 => ?_) (fun c14 => ?_)
    · rw [if_neg c14] at h
      refine zw_sub (lv' := [(0, .ref a0), (1, .int i1)]) (List.forall_mem_cons.mpr ⟨rfl, (List.forall_mem_cons.mpr ⟨rfl, zs_nil⟩)⟩) ?_
      exact zt_X11_build_J47 hlt hxt hX hr hR hd ⟨by omega, by omega⟩ h
    · rw [if_pos c14] at h
      refine zw_aload_n hX dX11_build_17 rfl ?_
      obtain ⟨b28, g, h⟩ := zb_some h
      refine zw_getr hX zl_X11_21 dX11_build_18 g ?_
      obtain ⟨v29, g, h⟩ := zb_some h
      refine zw_getNi hX zl_X11_119 dX11_build_21 g ?_
      refine zw_if_eq (tgt := 47) hX dX11_build_24 (by decide) (fun c24 => ?_) (fun c24 => ?_)
      · rw [if_pos c24] at h
        refine zw_sub (lv' := [(0, .ref a0), (1, .int i1)]) (List.forall_mem_cons.mpr ⟨rfl, (List.forall_mem_cons.mpr ⟨rfl, zs_nil⟩)⟩) ?_
        exact zt_X11_build_J47 hlt hxt hX hr hR hd ⟨by omega, by omega⟩ h
      · rw [if_neg c24] at h
        refine zw_aload_n hX dX11_build_27 rfl ?_
        obtain ⟨b30, g, h⟩ := zb_some h
        refine zw_getr hX zl_X11_21 dX11_build_28 g ?_
        obtain ⟨v31, g, h⟩ := zb_some h
        refine zw_getNi hX zl_X11_154 dX11_build_31 g ?_
        refine zw_iconst (v := (1 : Int32)) hX dX11_build_34 (by decide) ?_
        refine zw_bipush (v := (40 : Int32)) hX dX11_build_35 (by decide) ?_
        obtain ⟨r33, g, h⟩ := zb_some h
        refine zc_Si (as := [.int v31, .int (1 : Int32), .int (40 : Int32)]) hX (zt_X11_isWithin (d := d - 1) (by omega) g) zl_X11_133 dX11_build_37 ⟨rfl, rfl, Nat.le_of_ble_eq_true rfl⟩ ⟨by omega, by omega⟩ ?_
        refine zw_if_eq (tgt := 47) hX dX11_build_40 (by decide) (fun c40 => ?_) (fun c40 => ?_)
        · rw [if_pos c40] at h
          refine zw_sub (lv' := [(0, .ref a0), (1, .int i1)]) (List.forall_mem_cons.mpr ⟨rfl, (List.forall_mem_cons.mpr ⟨rfl, zs_nil⟩)⟩) ?_
          exact zt_X11_build_J47 hlt hxt hX hr hR hd ⟨by omega, by omega⟩ h
        · rw [if_neg c40] at h
          refine zw_iconst (v := (1 : Int32)) hX dX11_build_43 (by decide) ?_
          refine zw_goto (tgt := 48) hX dX11_build_44 (by decide) ?_
          refine zw_sub (lv' := [(0, .ref a0), (1, .int i1)]) (List.forall_mem_cons.mpr ⟨rfl, (List.forall_mem_cons.mpr ⟨rfl, zs_nil⟩)⟩) ?_
          exact zt_X11_build_J48 hlt hxt hX hr hR hd ⟨by omega, by omega⟩ h
  · rintro X S9 rfl
    obtain rfl := Option.some.inj h
    exact zx_out hX hxt rfl
set_option maxHeartbeats 4000000 in
set_option maxRecDepth 100000 in
theorem zt_X11_build_c_J48 {p : Program} {l : Launch} {e : Env} {R : Room} {s : State} {m : MethodId} {args : Array Value} {below : List Frame} {meth : Method} {c : Code} {V : zm_V} {mc ms d rc rs : Nat} (hlt : l.stackTraces = false) (hxt : ∀ x ∈ c.exceptionTable.toList, False) (hX : zm_X p R s m args meth c RX11 "build" cX11_build 3 zk_E V mc ms) (hr : meth.sig.returnType = (some .int)) (hR : R.frames = d ∧ R.locals = 64 * d) (hd : 44 ≤ d) {N : Nat} {a0 : Nat} {i1 : Int32} {t0 : Int32} {out : ((Int32 ⊕ String) × zm_S)} (hc : 1 ≤ rc ∧ 6 ≤ rs) {S : zm_S} (h : zf_X11_build_c_J48 N a0 i1 t0 S = some out) : zw p l e R s m args below meth c (vx_MQ below (zm_Qc zk_E V (zq_i out)) (zm_XC zk_E V (zq_x out)) args s mc ms (fun q => V.2.2.2.1 ≤ q)) 3 zk_E V mc ms 48 [(0, .ref a0), (1, .int i1)] [.int t0] S rc rs := by
  unfold zf_X11_build_c_J48 at h
  obtain ⟨r, g, h⟩ := zb_some h
  refine zc_S (as := [.int t0]) hX (zt_X11_needState hlt (d := d - 1) (by omega) g) zl_X11_112 dX11_build_48 ⟨rfl, rfl, Nat.le_of_ble_eq_true rfl⟩ ⟨by omega, by omega⟩ ⟨by omega, by omega⟩ ?_ ?_
  · rintro _ S7 ⟨⟨u6, rfl⟩, rfl⟩
    try dsimp only at h
    refine zw_aload_n hX dX11_build_51 rfl ?_
    obtain ⟨b8, g, h⟩ := zb_some h
    refine zw_getr hX zl_X11_35 dX11_build_52 g ?_
    refine zw_iload_n hX dX11_build_55 rfl ?_
    obtain ⟨_, gi, h⟩ := zb_some h
    obtain ⟨r10, g, h⟩ := zb_some h
    refine zc_Vv (as := [.int i1]) hX gi (zt_X7_askAll (d := d - 1) (by omega) g) zl_X11_238 rfl dX11_build_56 ⟨rfl, rfl, Nat.le_of_ble_eq_true rfl⟩ ⟨by omega, by omega⟩ ?_
    refine zw_aload_n hX dX11_build_59 rfl ?_
    obtain ⟨b11, g, h⟩ := zb_some h
    refine zw_getr hX zl_X11_35 dX11_build_60 g ?_
    obtain ⟨_, gi, h⟩ := zb_some h
    obtain ⟨r13, g, h⟩ := zb_some h
    refine zc_Vi (as := []) hX gi (zt_X7_firstRefusing (d := d - 1) (by omega) g) zl_X11_252 rfl dX11_build_63 ⟨rfl, rfl, Nat.le_of_ble_eq_true rfl⟩ ⟨by omega, by omega⟩ ?_
    refine zw_istore_n hX dX11_build_66 (by decide) ?_
    refine zw_iload_n hX dX11_build_67 rfl ?_
    refine zw_iconst (v := (-1 : Int32)) hX dX11_build_68 (by decide) ?_
    refine zw_icmp_eq (tgt := 76) hX dX11_build_69 (by decide) (fun c69 => ?_) (fun c69 => ?_)
    · rw [if_pos c69] at h
      refine zw_aload_n hX dX11_build_76 rfl ?_
      refine zw_iconst (v := (1 : Int32)) hX dX11_build_77 (by decide) ?_
      cases h
    · rw [if_neg c69] at h
      refine zw_iconst (v := (-1 : Int32)) hX dX11_build_72 (by decide) ?_
      refine zw_iload_n hX dX11_build_73 rfl ?_
      refine zw_isub hX dX11_build_74 ?_
      obtain rfl := Option.some.inj h
      exact zw_iret hX hr dX11_build_75 rfl ⟨_, rfl, rfl⟩
  · rintro X S9 rfl
    obtain rfl := Option.some.inj h
    exact zx_out hX hxt rfl
set_option maxHeartbeats 4000000 in
set_option maxRecDepth 100000 in
theorem zt_X11_build_c_J47 {p : Program} {l : Launch} {e : Env} {R : Room} {s : State} {m : MethodId} {args : Array Value} {below : List Frame} {meth : Method} {c : Code} {V : zm_V} {mc ms d rc rs : Nat} (hlt : l.stackTraces = false) (hxt : ∀ x ∈ c.exceptionTable.toList, False) (hX : zm_X p R s m args meth c RX11 "build" cX11_build 3 zk_E V mc ms) (hr : meth.sig.returnType = (some .int)) (hR : R.frames = d ∧ R.locals = 64 * d) (hd : 44 ≤ d) {N : Nat} {a0 : Nat} {i1 : Int32} {out : ((Int32 ⊕ String) × zm_S)} (hc : 1 ≤ rc ∧ 6 ≤ rs) {S : zm_S} (h : zf_X11_build_c_J47 N a0 i1 S = some out) : zw p l e R s m args below meth c (vx_MQ below (zm_Qc zk_E V (zq_i out)) (zm_XC zk_E V (zq_x out)) args s mc ms (fun q => V.2.2.2.1 ≤ q)) 3 zk_E V mc ms 47 [(0, .ref a0), (1, .int i1)] [] S rc rs := by
  unfold zf_X11_build_c_J47 at h
  refine zw_iconst (v := (0 : Int32)) hX dX11_build_47 (by decide) ?_
  refine zw_sub (lv' := [(0, .ref a0), (1, .int i1)]) (List.forall_mem_cons.mpr ⟨rfl, (List.forall_mem_cons.mpr ⟨rfl, zs_nil⟩)⟩) ?_
  exact zt_X11_build_c_J48 hlt hxt hX hr hR hd ⟨by omega, by omega⟩ h
set_option maxHeartbeats 4000000 in
set_option maxRecDepth 100000 in
theorem zt_X11_build_c {l : Launch} {V : zm_V} (hlt : l.stackTraces = false) {N : Nat} {S : zm_S} {out : ((Int32 ⊕ String) × zm_S)} {d : Nat} {a0 : Nat} {i1 : Int32} (hd : 44 ≤ d) (h : zf_X11_build_c N a0 i1 S = some out) : zm_Met l zk_E V yX11_build (.code yX11_build cX11_build 3 (some .int)) d [.ref a0, .int i1] S 2 12 (zq_i out) (zq_x out) := by
  refine zm_of (by decide +kernel) (Nat.le_of_ble_eq_true rfl) ?_
  intro p e R s m args below meth c hRR hX hr hxt
  have hR : R.frames = d ∧ R.locals = 64 * d := by rw [hRR]; exact ⟨rfl, rfl⟩
  have hX : zm_X p R s m args meth c RX11 "build" cX11_build 3 zk_E V 2 12 := hX
  unfold zf_X11_build_c at h
  refine zw_sub (lv' := [(0, .ref a0), (1, .int i1)]) (List.forall_mem_cons.mpr ⟨rfl, (List.forall_mem_cons.mpr ⟨rfl, zs_nil⟩)⟩) ?_
  refine zw_iload_n hX dX11_build_0 rfl ?_
  refine zw_iconst (v := (0 : Int32)) hX dX11_build_1 (by decide) ?_
  refine zw_ldc (v := (1000000 : Int32)) hX dX11_build_2 zl_X11_237 ?_
  obtain ⟨r2, g, h⟩ := zb_some h
  refine zc_Si (as := [.int i1, .int (0 : Int32), .int (1000000 : Int32)]) hX (zt_X11_isWithin (d := d - 1) (by omega) g) zl_X11_133 dX11_build_4 ⟨rfl, rfl, Nat.le_of_ble_eq_true rfl⟩ ⟨by omega, by omega⟩ ?_
  obtain ⟨r, g, h⟩ := zb_some h
  refine zc_S (as := [.int r2.1]) hX (zt_X11_needArgument hlt (d := d - 1) (by omega) g) zl_X11_100 dX11_build_7 ⟨rfl, rfl, Nat.le_of_ble_eq_true rfl⟩ ⟨by omega, by omega⟩ ⟨by omega, by omega⟩ ?_ ?_
  · rintro _ S4 ⟨⟨u3, rfl⟩, rfl⟩
    try dsimp only at h
    refine zw_aload_n hX dX11_build_10 rfl ?_
    obtain ⟨v5, g, h⟩ := zb_some h
    refine zw_geti hX zl_X11_104 dX11_build_11 g ?_
    refine zw_if_ne (tgt := 47) hX dX11_build_14 (by decide) (fun c14 => ?_) (fun c14 => ?_)
    · rw [if_neg c14] at h
      refine zw_sub (lv' := [(0, .ref a0), (1, .int i1)]) (List.forall_mem_cons.mpr ⟨rfl, (List.forall_mem_cons.mpr ⟨rfl, zs_nil⟩)⟩) ?_
      exact zt_X11_build_c_J47 hlt hxt hX hr hR hd ⟨by omega, by omega⟩ h
    · rw [if_pos c14] at h
      refine zw_aload_n hX dX11_build_17 rfl ?_
      obtain ⟨b14, g, h⟩ := zb_some h
      refine zw_getr hX zl_X11_21 dX11_build_18 g ?_
      obtain ⟨v15, g, h⟩ := zb_some h
      refine zw_getNi hX zl_X11_119 dX11_build_21 g ?_
      refine zw_if_eq (tgt := 47) hX dX11_build_24 (by decide) (fun c24 => ?_) (fun c24 => ?_)
      · rw [if_pos c24] at h
        refine zw_sub (lv' := [(0, .ref a0), (1, .int i1)]) (List.forall_mem_cons.mpr ⟨rfl, (List.forall_mem_cons.mpr ⟨rfl, zs_nil⟩)⟩) ?_
        exact zt_X11_build_c_J47 hlt hxt hX hr hR hd ⟨by omega, by omega⟩ h
      · rw [if_neg c24] at h
        refine zw_aload_n hX dX11_build_27 rfl ?_
        obtain ⟨b16, g, h⟩ := zb_some h
        refine zw_getr hX zl_X11_21 dX11_build_28 g ?_
        obtain ⟨v17, g, h⟩ := zb_some h
        refine zw_getNi hX zl_X11_154 dX11_build_31 g ?_
        refine zw_iconst (v := (1 : Int32)) hX dX11_build_34 (by decide) ?_
        refine zw_bipush (v := (40 : Int32)) hX dX11_build_35 (by decide) ?_
        obtain ⟨r19, g, h⟩ := zb_some h
        refine zc_Si (as := [.int v17, .int (1 : Int32), .int (40 : Int32)]) hX (zt_X11_isWithin (d := d - 1) (by omega) g) zl_X11_133 dX11_build_37 ⟨rfl, rfl, Nat.le_of_ble_eq_true rfl⟩ ⟨by omega, by omega⟩ ?_
        refine zw_if_eq (tgt := 47) hX dX11_build_40 (by decide) (fun c40 => ?_) (fun c40 => ?_)
        · rw [if_pos c40] at h
          refine zw_sub (lv' := [(0, .ref a0), (1, .int i1)]) (List.forall_mem_cons.mpr ⟨rfl, (List.forall_mem_cons.mpr ⟨rfl, zs_nil⟩)⟩) ?_
          exact zt_X11_build_c_J47 hlt hxt hX hr hR hd ⟨by omega, by omega⟩ h
        · rw [if_neg c40] at h
          refine zw_iconst (v := (1 : Int32)) hX dX11_build_43 (by decide) ?_
          refine zw_goto (tgt := 48) hX dX11_build_44 (by decide) ?_
          refine zw_sub (lv' := [(0, .ref a0), (1, .int i1)]) (List.forall_mem_cons.mpr ⟨rfl, (List.forall_mem_cons.mpr ⟨rfl, zs_nil⟩)⟩) ?_
          exact zt_X11_build_c_J48 hlt hxt hX hr hR hd ⟨by omega, by omega⟩ h
  · rintro X S9 rfl
    obtain rfl := Option.some.inj h
    exact zx_out hX hxt rfl

