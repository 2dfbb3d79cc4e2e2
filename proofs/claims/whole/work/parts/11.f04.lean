/-! ===== functions of methods, by program (wip/whole/tools/gen11.py) ===== -/
theorem dX3_addCar_0 : decode cX3_addCar 0 = .ok (.aload_n 0, 1) := by decide +kernel
theorem dX3_addCar_1 : decode cX3_addCar 1 = .ok (.getfield 46, 3) := by decide +kernel
theorem dX3_addCar_4 : decode cX3_addCar 4 = .ok (.iconst 4, 1) := by decide +kernel
theorem dX3_addCar_5 : decode cX3_addCar 5 = .ok (.if_icmp .lt 5, 3) := by decide +kernel
theorem dX3_addCar_10 : decode cX3_addCar 10 = .ok (.aload_n 0, 1) := by decide +kernel
theorem dX3_addCar_11 : decode cX3_addCar 11 = .ok (.getfield 13, 3) := by decide +kernel
theorem dX3_addCar_14 : decode cX3_addCar 14 = .ok (.aload_n 0, 1) := by decide +kernel
theorem dX3_addCar_15 : decode cX3_addCar 15 = .ok (.getfield 46, 3) := by decide +kernel
theorem dX3_addCar_18 : decode cX3_addCar 18 = .ok (.aaload, 1) := by decide +kernel
theorem dX3_addCar_19 : decode cX3_addCar 19 = .ok (.astore_n 3, 1) := by decide +kernel
theorem dX3_addCar_20 : decode cX3_addCar 20 = .ok (.aload_n 3, 1) := by decide +kernel
theorem dX3_addCar_21 : decode cX3_addCar 21 = .ok (.iconst 0, 1) := by decide +kernel
theorem dX3_addCar_22 : decode cX3_addCar 22 = .ok (.iload_n 1, 1) := by decide +kernel
theorem dX3_addCar_23 : decode cX3_addCar 23 = .ok (.iastore, 1) := by decide +kernel
theorem dX3_addCar_24 : decode cX3_addCar 24 = .ok (.aload_n 3, 1) := by decide +kernel
theorem dX3_addCar_25 : decode cX3_addCar 25 = .ok (.iconst 1, 1) := by decide +kernel
theorem dX3_addCar_26 : decode cX3_addCar 26 = .ok (.iload_n 2, 1) := by decide +kernel
theorem dX3_addCar_27 : decode cX3_addCar 27 = .ok (.iastore, 1) := by decide +kernel
theorem dX3_addCar_28 : decode cX3_addCar 28 = .ok (.aload_n 3, 1) := by decide +kernel
theorem dX3_addCar_29 : decode cX3_addCar 29 = .ok (.iconst 4, 1) := by decide +kernel
theorem dX3_addCar_30 : decode cX3_addCar 30 = .ok (.bipush 59, 2) := by decide +kernel
theorem dX3_addCar_32 : decode cX3_addCar 32 = .ok (.iastore, 1) := by decide +kernel
theorem dX3_addCar_33 : decode cX3_addCar 33 = .ok (.aload_n 3, 1) := by decide +kernel
theorem dX3_addCar_34 : decode cX3_addCar 34 = .ok (.iconst 5, 1) := by decide +kernel
theorem dX3_addCar_35 : decode cX3_addCar 35 = .ok (.iconst (-1), 1) := by decide +kernel
theorem dX3_addCar_36 : decode cX3_addCar 36 = .ok (.iastore, 1) := by decide +kernel
theorem dX3_addCar_37 : decode cX3_addCar 37 = .ok (.aload_n 0, 1) := by decide +kernel
theorem dX3_addCar_38 : decode cX3_addCar 38 = .ok (.dup, 1) := by decide +kernel
theorem dX3_addCar_39 : decode cX3_addCar 39 = .ok (.getfield 46, 3) := by decide +kernel
theorem dX3_addCar_42 : decode cX3_addCar 42 = .ok (.iconst 1, 1) := by decide +kernel
theorem dX3_addCar_43 : decode cX3_addCar 43 = .ok (.iadd, 1) := by decide +kernel
theorem dX3_addCar_44 : decode cX3_addCar 44 = .ok (.putfield 46, 3) := by decide +kernel
theorem dX3_addCar_47 : decode cX3_addCar 47 = .ok (.aload_n 0, 1) := by decide +kernel
theorem dX3_addCar_48 : decode cX3_addCar 48 = .ok (.getfield 46, 3) := by decide +kernel
theorem dX3_addCar_51 : decode cX3_addCar 51 = .ok (.iconst 1, 1) := by decide +kernel
theorem dX3_addCar_52 : decode cX3_addCar 52 = .ok (.isub, 1) := by decide +kernel
theorem dX3_addCar_53 : decode cX3_addCar 53 = .ok (.ireturn, 1) := by decide +kernel
theorem dX3_addCar_8 : decode cX3_addCar 8 = .ok (.iconst (-1), 1) := by decide +kernel
theorem dX3_addCar_9 : decode cX3_addCar 9 = .ok (.ireturn, 1) := by decide +kernel
theorem dX3_setFree_0 : decode cX3_setFree 0 = .ok (.aload_n 0, 1) := by decide +kernel
theorem dX3_setFree_1 : decode cX3_setFree 1 = .ok (.getfield 13, 3) := by decide +kernel
theorem dX3_setFree_4 : decode cX3_setFree 4 = .ok (.iload_n 1, 1) := by decide +kernel
theorem dX3_setFree_5 : decode cX3_setFree 5 = .ok (.aaload, 1) := by decide +kernel
theorem dX3_setFree_6 : decode cX3_setFree 6 = .ok (.iconst 0, 1) := by decide +kernel
theorem dX3_setFree_7 : decode cX3_setFree 7 = .ok (.iload_n 2, 1) := by decide +kernel
theorem dX3_setFree_8 : decode cX3_setFree 8 = .ok (.iastore, 1) := by decide +kernel
theorem dX3_setFree_9 : decode cX3_setFree 9 = .ok (.aload_n 0, 1) := by decide +kernel
theorem dX3_setFree_10 : decode cX3_setFree 10 = .ok (.getfield 13, 3) := by decide +kernel
theorem dX3_setFree_13 : decode cX3_setFree 13 = .ok (.iload_n 1, 1) := by decide +kernel
theorem dX3_setFree_14 : decode cX3_setFree 14 = .ok (.aaload, 1) := by decide +kernel
theorem dX3_setFree_15 : decode cX3_setFree 15 = .ok (.iconst 2, 1) := by decide +kernel
theorem dX3_setFree_16 : decode cX3_setFree 16 = .ok (.iload_n 3, 1) := by decide +kernel
theorem dX3_setFree_17 : decode cX3_setFree 17 = .ok (.iastore, 1) := by decide +kernel
theorem dX3_setFree_18 : decode cX3_setFree 18 = .ok (.return_, 1) := by decide +kernel
theorem dX3_setSpan_0 : decode cX3_setSpan 0 = .ok (.aload_n 0, 1) := by decide +kernel
theorem dX3_setSpan_1 : decode cX3_setSpan 1 = .ok (.getfield 13, 3) := by decide +kernel
theorem dX3_setSpan_4 : decode cX3_setSpan 4 = .ok (.iload_n 1, 1) := by decide +kernel
theorem dX3_setSpan_5 : decode cX3_setSpan 5 = .ok (.aaload, 1) := by decide +kernel
theorem dX3_setSpan_6 : decode cX3_setSpan 6 = .ok (.iconst 3, 1) := by decide +kernel
theorem dX3_setSpan_7 : decode cX3_setSpan 7 = .ok (.iload_n 2, 1) := by decide +kernel
theorem dX3_setSpan_8 : decode cX3_setSpan 8 = .ok (.iastore, 1) := by decide +kernel
theorem dX3_setSpan_9 : decode cX3_setSpan 9 = .ok (.aload_n 0, 1) := by decide +kernel
theorem dX3_setSpan_10 : decode cX3_setSpan 10 = .ok (.getfield 13, 3) := by decide +kernel
theorem dX3_setSpan_13 : decode cX3_setSpan 13 = .ok (.iload_n 1, 1) := by decide +kernel
theorem dX3_setSpan_14 : decode cX3_setSpan 14 = .ok (.aaload, 1) := by decide +kernel
theorem dX3_setSpan_15 : decode cX3_setSpan 15 = .ok (.iconst 4, 1) := by decide +kernel
theorem dX3_setSpan_16 : decode cX3_setSpan 16 = .ok (.iload_n 3, 1) := by decide +kernel
theorem dX3_setSpan_17 : decode cX3_setSpan 17 = .ok (.iastore, 1) := by decide +kernel
theorem dX3_setSpan_18 : decode cX3_setSpan 18 = .ok (.return_, 1) := by decide +kernel
theorem dX3_addCall_0 : decode cX3_addCall 0 = .ok (.aload_n 0, 1) := by decide +kernel
theorem dX3_addCall_1 : decode cX3_addCall 1 = .ok (.getfield 50, 3) := by decide +kernel
theorem dX3_addCall_4 : decode cX3_addCall 4 = .ok (.sipush 400, 3) := by decide +kernel
theorem dX3_addCall_7 : decode cX3_addCall 7 = .ok (.if_icmp .ge 12, 3) := by decide +kernel
theorem dX3_addCall_19 : decode cX3_addCall 19 = .ok (.iconst (-1), 1) := by decide +kernel
theorem dX3_addCall_20 : decode cX3_addCall 20 = .ok (.ireturn, 1) := by decide +kernel
theorem dX3_addCall_10 : decode cX3_addCall 10 = .ok (.aload_n 0, 1) := by decide +kernel
theorem dX3_addCall_11 : decode cX3_addCall 11 = .ok (.getfield 53, 3) := by decide +kernel
theorem dX3_addCall_14 : decode cX3_addCall 14 = .ok (.bipush 6, 2) := by decide +kernel
theorem dX3_addCall_16 : decode cX3_addCall 16 = .ok (.if_icmp .lt 5, 3) := by decide +kernel
theorem dX3_addCall_21 : decode cX3_addCall 21 = .ok (.aload_n 0, 1) := by decide +kernel
theorem dX3_addCall_22 : decode cX3_addCall 22 = .ok (.getfield 16, 3) := by decide +kernel
theorem dX3_addCall_25 : decode cX3_addCall 25 = .ok (.aload_n 0, 1) := by decide +kernel
theorem dX3_addCall_26 : decode cX3_addCall 26 = .ok (.getfield 50, 3) := by decide +kernel
theorem dX3_addCall_29 : decode cX3_addCall 29 = .ok (.aaload, 1) := by decide +kernel
theorem dX3_addCall_30 : decode cX3_addCall 30 = .ok (.iconst 0, 1) := by decide +kernel
theorem dX3_addCall_31 : decode cX3_addCall 31 = .ok (.iload_n 1, 1) := by decide +kernel
theorem dX3_addCall_32 : decode cX3_addCall 32 = .ok (.iastore, 1) := by decide +kernel
theorem dX3_addCall_33 : decode cX3_addCall 33 = .ok (.aload_n 0, 1) := by decide +kernel
theorem dX3_addCall_34 : decode cX3_addCall 34 = .ok (.getfield 16, 3) := by decide +kernel
theorem dX3_addCall_37 : decode cX3_addCall 37 = .ok (.aload_n 0, 1) := by decide +kernel
theorem dX3_addCall_38 : decode cX3_addCall 38 = .ok (.getfield 50, 3) := by decide +kernel
theorem dX3_addCall_41 : decode cX3_addCall 41 = .ok (.aaload, 1) := by decide +kernel
theorem dX3_addCall_42 : decode cX3_addCall 42 = .ok (.iconst 1, 1) := by decide +kernel
theorem dX3_addCall_43 : decode cX3_addCall 43 = .ok (.iload_n 2, 1) := by decide +kernel
theorem dX3_addCall_44 : decode cX3_addCall 44 = .ok (.iastore, 1) := by decide +kernel
theorem dX3_addCall_45 : decode cX3_addCall 45 = .ok (.aload_n 0, 1) := by decide +kernel
theorem dX3_addCall_46 : decode cX3_addCall 46 = .ok (.getfield 16, 3) := by decide +kernel
theorem dX3_addCall_49 : decode cX3_addCall 49 = .ok (.aload_n 0, 1) := by decide +kernel
theorem dX3_addCall_50 : decode cX3_addCall 50 = .ok (.getfield 50, 3) := by decide +kernel
theorem dX3_addCall_53 : decode cX3_addCall 53 = .ok (.aaload, 1) := by decide +kernel
theorem dX3_addCall_54 : decode cX3_addCall 54 = .ok (.iconst 2, 1) := by decide +kernel
theorem dX3_addCall_55 : decode cX3_addCall 55 = .ok (.iload_n 3, 1) := by decide +kernel
theorem dX3_addCall_56 : decode cX3_addCall 56 = .ok (.iastore, 1) := by decide +kernel
theorem dX3_addCall_57 : decode cX3_addCall 57 = .ok (.aload_n 0, 1) := by decide +kernel
theorem dX3_addCall_58 : decode cX3_addCall 58 = .ok (.getfield 23, 3) := by decide +kernel
theorem dX3_addCall_61 : decode cX3_addCall 61 = .ok (.aload_n 0, 1) := by decide +kernel
theorem dX3_addCall_62 : decode cX3_addCall 62 = .ok (.getfield 50, 3) := by decide +kernel
theorem dX3_addCall_65 : decode cX3_addCall 65 = .ok (.aaload, 1) := by decide +kernel
theorem dX3_addCall_66 : decode cX3_addCall 66 = .ok (.iconst (-1), 1) := by decide +kernel
theorem dX3_addCall_67 : decode cX3_addCall 67 = .ok (.invokestatic 56, 3) := by decide +kernel
theorem dX3_addCall_70 : decode cX3_addCall 70 = .ok (.aload_n 0, 1) := by decide +kernel
theorem dX3_addCall_71 : decode cX3_addCall 71 = .ok (.getfield 19, 3) := by decide +kernel
theorem dX3_addCall_74 : decode cX3_addCall 74 = .ok (.aload_n 0, 1) := by decide +kernel
theorem dX3_addCall_75 : decode cX3_addCall 75 = .ok (.getfield 53, 3) := by decide +kernel
theorem dX3_addCall_78 : decode cX3_addCall 78 = .ok (.aload_n 0, 1) := by decide +kernel
theorem dX3_addCall_79 : decode cX3_addCall 79 = .ok (.getfield 50, 3) := by decide +kernel
theorem dX3_addCall_82 : decode cX3_addCall 82 = .ok (.iastore, 1) := by decide +kernel
theorem dX3_addCall_83 : decode cX3_addCall 83 = .ok (.aload_n 0, 1) := by decide +kernel
theorem dX3_addCall_84 : decode cX3_addCall 84 = .ok (.dup, 1) := by decide +kernel
theorem dX3_addCall_85 : decode cX3_addCall 85 = .ok (.getfield 53, 3) := by decide +kernel
theorem dX3_addCall_88 : decode cX3_addCall 88 = .ok (.iconst 1, 1) := by decide +kernel
theorem dX3_addCall_89 : decode cX3_addCall 89 = .ok (.iadd, 1) := by decide +kernel
theorem dX3_addCall_90 : decode cX3_addCall 90 = .ok (.putfield 53, 3) := by decide +kernel
theorem dX3_addCall_93 : decode cX3_addCall 93 = .ok (.aload_n 0, 1) := by decide +kernel
theorem dX3_addCall_94 : decode cX3_addCall 94 = .ok (.dup, 1) := by decide +kernel
theorem dX3_addCall_95 : decode cX3_addCall 95 = .ok (.getfield 50, 3) := by decide +kernel
theorem dX3_addCall_98 : decode cX3_addCall 98 = .ok (.iconst 1, 1) := by decide +kernel
theorem dX3_addCall_99 : decode cX3_addCall 99 = .ok (.iadd, 1) := by decide +kernel
theorem dX3_addCall_100 : decode cX3_addCall 100 = .ok (.putfield 50, 3) := by decide +kernel
theorem dX3_addCall_103 : decode cX3_addCall 103 = .ok (.aload_n 0, 1) := by decide +kernel
theorem dX3_addCall_104 : decode cX3_addCall 104 = .ok (.getfield 50, 3) := by decide +kernel
theorem dX3_addCall_107 : decode cX3_addCall 107 = .ok (.iconst 1, 1) := by decide +kernel
theorem dX3_addCall_108 : decode cX3_addCall 108 = .ok (.isub, 1) := by decide +kernel
theorem dX3_addCall_109 : decode cX3_addCall 109 = .ok (.ireturn, 1) := by decide +kernel
theorem dX3_placeOfOpen_0 : decode cX3_placeOfOpen 0 = .ok (.iconst 0, 1) := by decide +kernel
theorem dX3_placeOfOpen_1 : decode cX3_placeOfOpen 1 = .ok (.istore_n 2, 1) := by decide +kernel
theorem dX3_placeOfOpen_2 : decode cX3_placeOfOpen 2 = .ok (.iload_n 2, 1) := by decide +kernel
theorem dX3_placeOfOpen_3 : decode cX3_placeOfOpen 3 = .ok (.aload_n 0, 1) := by decide +kernel
theorem dX3_placeOfOpen_4 : decode cX3_placeOfOpen 4 = .ok (.getfield 53, 3) := by decide +kernel
theorem dX3_placeOfOpen_7 : decode cX3_placeOfOpen 7 = .ok (.if_icmp .ge 21, 3) := by decide +kernel
theorem dX3_placeOfOpen_10 : decode cX3_placeOfOpen 10 = .ok (.aload_n 0, 1) := by decide +kernel
theorem dX3_placeOfOpen_11 : decode cX3_placeOfOpen 11 = .ok (.getfield 19, 3) := by decide +kernel
theorem dX3_placeOfOpen_14 : decode cX3_placeOfOpen 14 = .ok (.iload_n 2, 1) := by decide +kernel
theorem dX3_placeOfOpen_15 : decode cX3_placeOfOpen 15 = .ok (.iaload, 1) := by decide +kernel
theorem dX3_placeOfOpen_16 : decode cX3_placeOfOpen 16 = .ok (.iload_n 1, 1) := by decide +kernel
theorem dX3_placeOfOpen_17 : decode cX3_placeOfOpen 17 = .ok (.if_icmp .ne 5, 3) := by decide +kernel
theorem dX3_placeOfOpen_22 : decode cX3_placeOfOpen 22 = .ok (.iinc 2 1, 3) := by decide +kernel
theorem dX3_placeOfOpen_25 : decode cX3_placeOfOpen 25 = .ok (.goto (-23), 3) := by decide +kernel
theorem dX3_placeOfOpen_20 : decode cX3_placeOfOpen 20 = .ok (.iload_n 2, 1) := by decide +kernel
theorem dX3_placeOfOpen_21 : decode cX3_placeOfOpen 21 = .ok (.ireturn, 1) := by decide +kernel
theorem dX3_placeOfOpen_28 : decode cX3_placeOfOpen 28 = .ok (.iconst (-1), 1) := by decide +kernel
theorem dX3_placeOfOpen_29 : decode cX3_placeOfOpen 29 = .ok (.ireturn, 1) := by decide +kernel
theorem dX3_isOpenCall_0 : decode cX3_isOpenCall 0 = .ok (.aload_n 0, 1) := by decide +kernel
theorem dX3_isOpenCall_1 : decode cX3_isOpenCall 1 = .ok (.iload_n 1, 1) := by decide +kernel
theorem dX3_isOpenCall_2 : decode cX3_isOpenCall 2 = .ok (.invokevirtual 62, 3) := by decide +kernel
theorem dX3_isOpenCall_5 : decode cX3_isOpenCall 5 = .ok (.iconst (-1), 1) := by decide +kernel
theorem dX3_isOpenCall_6 : decode cX3_isOpenCall 6 = .ok (.if_icmp .eq 7, 3) := by decide +kernel
theorem dX3_isOpenCall_13 : decode cX3_isOpenCall 13 = .ok (.iconst 0, 1) := by decide +kernel
theorem dX3_isOpenCall_14 : decode cX3_isOpenCall 14 = .ok (.ireturn, 1) := by decide +kernel
theorem dX3_isOpenCall_9 : decode cX3_isOpenCall 9 = .ok (.iconst 1, 1) := by decide +kernel
theorem dX3_isOpenCall_10 : decode cX3_isOpenCall 10 = .ok (.goto 4, 3) := by decide +kernel
theorem dX3_isInSpan_0 : decode cX3_isInSpan 0 = .ok (.aload_n 0, 1) := by decide +kernel
theorem dX3_isInSpan_1 : decode cX3_isInSpan 1 = .ok (.getfield 16, 3) := by decide +kernel
theorem dX3_isInSpan_4 : decode cX3_isInSpan 4 = .ok (.iload_n 1, 1) := by decide +kernel
theorem dX3_isInSpan_5 : decode cX3_isInSpan 5 = .ok (.aaload, 1) := by decide +kernel
theorem dX3_isInSpan_6 : decode cX3_isInSpan 6 = .ok (.iconst 0, 1) := by decide +kernel
theorem dX3_isInSpan_7 : decode cX3_isInSpan 7 = .ok (.iaload, 1) := by decide +kernel
theorem dX3_isInSpan_8 : decode cX3_isInSpan 8 = .ok (.istore_n 3, 1) := by decide +kernel
theorem dX3_isInSpan_9 : decode cX3_isInSpan 9 = .ok (.aload_n 0, 1) := by decide +kernel
theorem dX3_isInSpan_10 : decode cX3_isInSpan 10 = .ok (.getfield 16, 3) := by decide +kernel
theorem dX3_isInSpan_13 : decode cX3_isInSpan 13 = .ok (.iload_n 1, 1) := by decide +kernel
theorem dX3_isInSpan_14 : decode cX3_isInSpan 14 = .ok (.aaload, 1) := by decide +kernel
theorem dX3_isInSpan_15 : decode cX3_isInSpan 15 = .ok (.iconst 1, 1) := by decide +kernel
theorem dX3_isInSpan_16 : decode cX3_isInSpan 16 = .ok (.iaload, 1) := by decide +kernel
theorem dX3_isInSpan_17 : decode cX3_isInSpan 17 = .ok (.istore 4, 2) := by decide +kernel
theorem dX3_isInSpan_19 : decode cX3_isInSpan 19 = .ok (.iload_n 3, 1) := by decide +kernel
theorem dX3_isInSpan_20 : decode cX3_isInSpan 20 = .ok (.iload 4, 2) := by decide +kernel
theorem dX3_isInSpan_22 : decode cX3_isInSpan 22 = .ok (.invokestatic 74, 3) := by decide +kernel
theorem dX3_isInSpan_25 : decode cX3_isInSpan 25 = .ok (.aload_n 0, 1) := by decide +kernel
theorem dX3_isInSpan_26 : decode cX3_isInSpan 26 = .ok (.getfield 13, 3) := by decide +kernel
theorem dX3_isInSpan_29 : decode cX3_isInSpan 29 = .ok (.iload_n 2, 1) := by decide +kernel
theorem dX3_isInSpan_30 : decode cX3_isInSpan 30 = .ok (.aaload, 1) := by decide +kernel
theorem dX3_isInSpan_31 : decode cX3_isInSpan 31 = .ok (.iconst 3, 1) := by decide +kernel
theorem dX3_isInSpan_32 : decode cX3_isInSpan 32 = .ok (.iaload, 1) := by decide +kernel
theorem dX3_isInSpan_33 : decode cX3_isInSpan 33 = .ok (.if_icmp .lt 24, 3) := by decide +kernel
theorem dX3_isInSpan_57 : decode cX3_isInSpan 57 = .ok (.iconst 0, 1) := by decide +kernel
theorem dX3_isInSpan_58 : decode cX3_isInSpan 58 = .ok (.ireturn, 1) := by decide +kernel
theorem dX3_isInSpan_36 : decode cX3_isInSpan 36 = .ok (.iload_n 3, 1) := by decide +kernel
theorem dX3_isInSpan_37 : decode cX3_isInSpan 37 = .ok (.iload 4, 2) := by decide +kernel
theorem dX3_isInSpan_39 : decode cX3_isInSpan 39 = .ok (.invokestatic 80, 3) := by decide +kernel
theorem dX3_isInSpan_42 : decode cX3_isInSpan 42 = .ok (.aload_n 0, 1) := by decide +kernel
theorem dX3_isInSpan_43 : decode cX3_isInSpan 43 = .ok (.getfield 13, 3) := by decide +kernel
theorem dX3_isInSpan_46 : decode cX3_isInSpan 46 = .ok (.iload_n 2, 1) := by decide +kernel
theorem dX3_isInSpan_47 : decode cX3_isInSpan 47 = .ok (.aaload, 1) := by decide +kernel
theorem dX3_isInSpan_48 : decode cX3_isInSpan 48 = .ok (.iconst 4, 1) := by decide +kernel
theorem dX3_isInSpan_49 : decode cX3_isInSpan 49 = .ok (.iaload, 1) := by decide +kernel
theorem dX3_isInSpan_50 : decode cX3_isInSpan 50 = .ok (.if_icmp .gt 7, 3) := by decide +kernel
theorem dX3_isInSpan_53 : decode cX3_isInSpan 53 = .ok (.iconst 1, 1) := by decide +kernel
theorem dX3_isInSpan_54 : decode cX3_isInSpan 54 = .ok (.goto 4, 3) := by decide +kernel
theorem dX3_endBeginning_0 : decode cX3_endBeginning 0 = .ok (.iconst 0, 1) := by decide +kernel
theorem dX3_endBeginning_1 : decode cX3_endBeginning 1 = .ok (.istore_n 2, 1) := by decide +kernel
theorem dX3_endBeginning_2 : decode cX3_endBeginning 2 = .ok (.iload_n 2, 1) := by decide +kernel
theorem dX3_endBeginning_3 : decode cX3_endBeginning 3 = .ok (.aload_n 0, 1) := by decide +kernel
theorem dX3_endBeginning_4 : decode cX3_endBeginning 4 = .ok (.getfield 46, 3) := by decide +kernel
theorem dX3_endBeginning_7 : decode cX3_endBeginning 7 = .ok (.if_icmp .ge 30, 3) := by decide +kernel
theorem dX3_endBeginning_10 : decode cX3_endBeginning 10 = .ok (.aload_n 0, 1) := by decide +kernel
theorem dX3_endBeginning_11 : decode cX3_endBeginning 11 = .ok (.getfield 13, 3) := by decide +kernel
theorem dX3_endBeginning_14 : decode cX3_endBeginning 14 = .ok (.iload_n 2, 1) := by decide +kernel
theorem dX3_endBeginning_15 : decode cX3_endBeginning 15 = .ok (.aaload, 1) := by decide +kernel
theorem dX3_endBeginning_16 : decode cX3_endBeginning 16 = .ok (.iconst 5, 1) := by decide +kernel
theorem dX3_endBeginning_17 : decode cX3_endBeginning 17 = .ok (.iaload, 1) := by decide +kernel
theorem dX3_endBeginning_18 : decode cX3_endBeginning 18 = .ok (.iload_n 1, 1) := by decide +kernel
theorem dX3_endBeginning_19 : decode cX3_endBeginning 19 = .ok (.if_icmp .ne 12, 3) := by decide +kernel
theorem dX3_endBeginning_31 : decode cX3_endBeginning 31 = .ok (.iinc 2 1, 3) := by decide +kernel
theorem dX3_endBeginning_34 : decode cX3_endBeginning 34 = .ok (.goto (-32), 3) := by decide +kernel
theorem dX3_endBeginning_22 : decode cX3_endBeginning 22 = .ok (.aload_n 0, 1) := by decide +kernel
theorem dX3_endBeginning_23 : decode cX3_endBeginning 23 = .ok (.getfield 13, 3) := by decide +kernel
theorem dX3_endBeginning_26 : decode cX3_endBeginning 26 = .ok (.iload_n 2, 1) := by decide +kernel
theorem dX3_endBeginning_27 : decode cX3_endBeginning 27 = .ok (.aaload, 1) := by decide +kernel
theorem dX3_endBeginning_28 : decode cX3_endBeginning 28 = .ok (.iconst 5, 1) := by decide +kernel
theorem dX3_endBeginning_29 : decode cX3_endBeginning 29 = .ok (.iconst (-1), 1) := by decide +kernel
theorem dX3_endBeginning_30 : decode cX3_endBeginning 30 = .ok (.iastore, 1) := by decide +kernel
theorem dX3_endBeginning_37 : decode cX3_endBeginning 37 = .ok (.return_, 1) := by decide +kernel
theorem dX3_setBegun_0 : decode cX3_setBegun 0 = .ok (.iload_n 2, 1) := by decide +kernel
theorem dX3_setBegun_1 : decode cX3_setBegun 1 = .ok (.iconst (-1), 1) := by decide +kernel
theorem dX3_setBegun_2 : decode cX3_setBegun 2 = .ok (.if_icmp .eq 33, 3) := by decide +kernel
theorem dX3_setBegun_35 : decode cX3_setBegun 35 = .ok (.aload_n 0, 1) := by decide +kernel
theorem dX3_setBegun_36 : decode cX3_setBegun 36 = .ok (.iload_n 1, 1) := by decide +kernel
theorem dX3_setBegun_37 : decode cX3_setBegun 37 = .ok (.invokevirtual 70, 3) := by decide +kernel
theorem dX3_setBegun_40 : decode cX3_setBegun 40 = .ok (.iload_n 2, 1) := by decide +kernel
theorem dX3_setBegun_41 : decode cX3_setBegun 41 = .ok (.iconst (-1), 1) := by decide +kernel
theorem dX3_setBegun_42 : decode cX3_setBegun 42 = .ok (.if_icmp .eq 12, 3) := by decide +kernel
theorem dX3_setBegun_54 : decode cX3_setBegun 54 = .ok (.iconst 1, 1) := by decide +kernel
theorem dX3_setBegun_55 : decode cX3_setBegun 55 = .ok (.ireturn, 1) := by decide +kernel
theorem dX3_setBegun_45 : decode cX3_setBegun 45 = .ok (.aload_n 0, 1) := by decide +kernel
theorem dX3_setBegun_46 : decode cX3_setBegun 46 = .ok (.getfield 13, 3) := by decide +kernel
theorem dX3_setBegun_49 : decode cX3_setBegun 49 = .ok (.iload_n 2, 1) := by decide +kernel
theorem dX3_setBegun_50 : decode cX3_setBegun 50 = .ok (.aaload, 1) := by decide +kernel
theorem dX3_setBegun_51 : decode cX3_setBegun 51 = .ok (.iconst 5, 1) := by decide +kernel
theorem dX3_setBegun_52 : decode cX3_setBegun 52 = .ok (.iload_n 1, 1) := by decide +kernel
theorem dX3_setBegun_53 : decode cX3_setBegun 53 = .ok (.iastore, 1) := by decide +kernel
theorem dX3_setBegun_5 : decode cX3_setBegun 5 = .ok (.aload_n 0, 1) := by decide +kernel
theorem dX3_setBegun_6 : decode cX3_setBegun 6 = .ok (.getfield 13, 3) := by decide +kernel
theorem dX3_setBegun_9 : decode cX3_setBegun 9 = .ok (.iload_n 2, 1) := by decide +kernel
theorem dX3_setBegun_10 : decode cX3_setBegun 10 = .ok (.aaload, 1) := by decide +kernel
theorem dX3_setBegun_11 : decode cX3_setBegun 11 = .ok (.iconst 5, 1) := by decide +kernel
theorem dX3_setBegun_12 : decode cX3_setBegun 12 = .ok (.iaload, 1) := by decide +kernel
theorem dX3_setBegun_13 : decode cX3_setBegun 13 = .ok (.istore_n 3, 1) := by decide +kernel
theorem dX3_setBegun_14 : decode cX3_setBegun 14 = .ok (.aload_n 0, 1) := by decide +kernel
theorem dX3_setBegun_15 : decode cX3_setBegun 15 = .ok (.iload_n 1, 1) := by decide +kernel
theorem dX3_setBegun_16 : decode cX3_setBegun 16 = .ok (.iload_n 2, 1) := by decide +kernel
theorem dX3_setBegun_17 : decode cX3_setBegun 17 = .ok (.invokevirtual 66, 3) := by decide +kernel
theorem dX3_setBegun_20 : decode cX3_setBegun 20 = .ok (.ifCond .eq 13, 3) := by decide +kernel
theorem dX3_setBegun_33 : decode cX3_setBegun 33 = .ok (.iconst 0, 1) := by decide +kernel
theorem dX3_setBegun_34 : decode cX3_setBegun 34 = .ok (.ireturn, 1) := by decide +kernel
theorem dX3_setBegun_23 : decode cX3_setBegun 23 = .ok (.iload_n 3, 1) := by decide +kernel
theorem dX3_setBegun_24 : decode cX3_setBegun 24 = .ok (.iconst (-1), 1) := by decide +kernel
theorem dX3_setBegun_25 : decode cX3_setBegun 25 = .ok (.if_icmp .eq 10, 3) := by decide +kernel
theorem dX3_setBegun_28 : decode cX3_setBegun 28 = .ok (.iload_n 3, 1) := by decide +kernel
theorem dX3_setBegun_29 : decode cX3_setBegun 29 = .ok (.iload_n 1, 1) := by decide +kernel
theorem dX3_setBegun_30 : decode cX3_setBegun 30 = .ok (.if_icmp .eq 5, 3) := by decide +kernel
theorem dX3_carsThatMayTake_0 : decode cX3_carsThatMayTake 0 = .ok (.iconst 0, 1) := by decide +kernel
theorem dX3_carsThatMayTake_1 : decode cX3_carsThatMayTake 1 = .ok (.istore_n 2, 1) := by decide +kernel
theorem dX3_carsThatMayTake_2 : decode cX3_carsThatMayTake 2 = .ok (.iconst (-1), 1) := by decide +kernel
theorem dX3_carsThatMayTake_3 : decode cX3_carsThatMayTake 3 = .ok (.istore_n 3, 1) := by decide +kernel
theorem dX3_carsThatMayTake_4 : decode cX3_carsThatMayTake 4 = .ok (.iconst 0, 1) := by decide +kernel
theorem dX3_carsThatMayTake_5 : decode cX3_carsThatMayTake 5 = .ok (.istore 4, 2) := by decide +kernel
theorem dX3_carsThatMayTake_7 : decode cX3_carsThatMayTake 7 = .ok (.iload 4, 2) := by decide +kernel
theorem dX3_carsThatMayTake_9 : decode cX3_carsThatMayTake 9 = .ok (.aload_n 0, 1) := by decide +kernel
theorem dX3_carsThatMayTake_10 : decode cX3_carsThatMayTake 10 = .ok (.getfield 46, 3) := by decide +kernel
theorem dX3_carsThatMayTake_13 : decode cX3_carsThatMayTake 13 = .ok (.if_icmp .ge 50, 3) := by decide +kernel
theorem dX3_carsThatMayTake_16 : decode cX3_carsThatMayTake 16 = .ok (.aload_n 0, 1) := by decide +kernel
theorem dX3_carsThatMayTake_17 : decode cX3_carsThatMayTake 17 = .ok (.iload_n 1, 1) := by decide +kernel
theorem dX3_carsThatMayTake_18 : decode cX3_carsThatMayTake 18 = .ok (.iload 4, 2) := by decide +kernel
theorem dX3_carsThatMayTake_20 : decode cX3_carsThatMayTake 20 = .ok (.invokevirtual 66, 3) := by decide +kernel
theorem dX3_carsThatMayTake_23 : decode cX3_carsThatMayTake 23 = .ok (.ifCond .eq 12, 3) := by decide +kernel
theorem dX3_carsThatMayTake_35 : decode cX3_carsThatMayTake 35 = .ok (.iload_n 2, 1) := by decide +kernel
theorem dX3_carsThatMayTake_36 : decode cX3_carsThatMayTake 36 = .ok (.istore_n 2, 1) := by decide +kernel
theorem dX3_carsThatMayTake_37 : decode cX3_carsThatMayTake 37 = .ok (.aload_n 0, 1) := by decide +kernel
theorem dX3_carsThatMayTake_38 : decode cX3_carsThatMayTake 38 = .ok (.getfield 13, 3) := by decide +kernel
theorem dX3_carsThatMayTake_41 : decode cX3_carsThatMayTake 41 = .ok (.iload 4, 2) := by decide +kernel
theorem dX3_carsThatMayTake_43 : decode cX3_carsThatMayTake 43 = .ok (.aaload, 1) := by decide +kernel
theorem dX3_carsThatMayTake_44 : decode cX3_carsThatMayTake 44 = .ok (.iconst 5, 1) := by decide +kernel
theorem dX3_carsThatMayTake_45 : decode cX3_carsThatMayTake 45 = .ok (.iaload, 1) := by decide +kernel
theorem dX3_carsThatMayTake_46 : decode cX3_carsThatMayTake 46 = .ok (.iload_n 1, 1) := by decide +kernel
theorem dX3_carsThatMayTake_47 : decode cX3_carsThatMayTake 47 = .ok (.if_icmp .ne 8, 3) := by decide +kernel
theorem dX3_carsThatMayTake_55 : decode cX3_carsThatMayTake 55 = .ok (.iload_n 3, 1) := by decide +kernel
theorem dX3_carsThatMayTake_56 : decode cX3_carsThatMayTake 56 = .ok (.istore_n 3, 1) := by decide +kernel
theorem dX3_carsThatMayTake_57 : decode cX3_carsThatMayTake 57 = .ok (.iinc 4 1, 3) := by decide +kernel
theorem dX3_carsThatMayTake_60 : decode cX3_carsThatMayTake 60 = .ok (.goto (-53), 3) := by decide +kernel
theorem dX3_carsThatMayTake_50 : decode cX3_carsThatMayTake 50 = .ok (.iload 4, 2) := by decide +kernel
theorem dX3_carsThatMayTake_52 : decode cX3_carsThatMayTake 52 = .ok (.goto 4, 3) := by decide +kernel
theorem dX3_carsThatMayTake_26 : decode cX3_carsThatMayTake 26 = .ok (.iload_n 2, 1) := by decide +kernel
theorem dX3_carsThatMayTake_27 : decode cX3_carsThatMayTake 27 = .ok (.iconst 1, 1) := by decide +kernel
theorem dX3_carsThatMayTake_28 : decode cX3_carsThatMayTake 28 = .ok (.iload 4, 2) := by decide +kernel
theorem dX3_carsThatMayTake_30 : decode cX3_carsThatMayTake 30 = .ok (.ishl, 1) := by decide +kernel
theorem dX3_carsThatMayTake_31 : decode cX3_carsThatMayTake 31 = .ok (.ior, 1) := by decide +kernel
theorem dX3_carsThatMayTake_32 : decode cX3_carsThatMayTake 32 = .ok (.goto 4, 3) := by decide +kernel
theorem dX3_carsThatMayTake_63 : decode cX3_carsThatMayTake 63 = .ok (.iload_n 3, 1) := by decide +kernel
theorem dX3_carsThatMayTake_64 : decode cX3_carsThatMayTake 64 = .ok (.iconst (-1), 1) := by decide +kernel
theorem dX3_carsThatMayTake_65 : decode cX3_carsThatMayTake 65 = .ok (.if_icmp .ne 7, 3) := by decide +kernel
theorem dX3_carsThatMayTake_72 : decode cX3_carsThatMayTake 72 = .ok (.iload_n 2, 1) := by decide +kernel
theorem dX3_carsThatMayTake_73 : decode cX3_carsThatMayTake 73 = .ok (.iconst 1, 1) := by decide +kernel
theorem dX3_carsThatMayTake_74 : decode cX3_carsThatMayTake 74 = .ok (.iload_n 3, 1) := by decide +kernel
theorem dX3_carsThatMayTake_75 : decode cX3_carsThatMayTake 75 = .ok (.ishl, 1) := by decide +kernel
theorem dX3_carsThatMayTake_76 : decode cX3_carsThatMayTake 76 = .ok (.iand, 1) := by decide +kernel
theorem dX3_carsThatMayTake_77 : decode cX3_carsThatMayTake 77 = .ok (.ireturn, 1) := by decide +kernel
theorem dX3_carsThatMayTake_68 : decode cX3_carsThatMayTake 68 = .ok (.iload_n 2, 1) := by decide +kernel
theorem dX3_carsThatMayTake_69 : decode cX3_carsThatMayTake 69 = .ok (.goto 8, 3) := by decide +kernel
theorem dX3_mayTakeAll_0 : decode cX3_mayTakeAll 0 = .ok (.iconst 0, 1) := by decide +kernel
theorem dX3_mayTakeAll_1 : decode cX3_mayTakeAll 1 = .ok (.istore_n 3, 1) := by decide +kernel
theorem dX3_mayTakeAll_2 : decode cX3_mayTakeAll 2 = .ok (.iload_n 3, 1) := by decide +kernel
theorem dX3_mayTakeAll_3 : decode cX3_mayTakeAll 3 = .ok (.aload_n 0, 1) := by decide +kernel
theorem dX3_mayTakeAll_4 : decode cX3_mayTakeAll 4 = .ok (.getfield 53, 3) := by decide +kernel
theorem dX3_mayTakeAll_7 : decode cX3_mayTakeAll 7 = .ok (.if_icmp .ge 32, 3) := by decide +kernel
theorem dX3_mayTakeAll_10 : decode cX3_mayTakeAll 10 = .ok (.iload_n 2, 1) := by decide +kernel
theorem dX3_mayTakeAll_11 : decode cX3_mayTakeAll 11 = .ok (.iload_n 3, 1) := by decide +kernel
theorem dX3_mayTakeAll_12 : decode cX3_mayTakeAll 12 = .ok (.ishr, 1) := by decide +kernel
theorem dX3_mayTakeAll_13 : decode cX3_mayTakeAll 13 = .ok (.iconst 1, 1) := by decide +kernel
theorem dX3_mayTakeAll_14 : decode cX3_mayTakeAll 14 = .ok (.iand, 1) := by decide +kernel
theorem dX3_mayTakeAll_15 : decode cX3_mayTakeAll 15 = .ok (.ifCond .eq 18, 3) := by decide +kernel
theorem dX3_mayTakeAll_33 : decode cX3_mayTakeAll 33 = .ok (.iinc 3 1, 3) := by decide +kernel
theorem dX3_mayTakeAll_36 : decode cX3_mayTakeAll 36 = .ok (.goto (-34), 3) := by decide +kernel
theorem dX3_mayTakeAll_18 : decode cX3_mayTakeAll 18 = .ok (.aload_n 0, 1) := by decide +kernel
theorem dX3_mayTakeAll_19 : decode cX3_mayTakeAll 19 = .ok (.getfield 26, 3) := by decide +kernel
theorem dX3_mayTakeAll_22 : decode cX3_mayTakeAll 22 = .ok (.iload_n 3, 1) := by decide +kernel
theorem dX3_mayTakeAll_23 : decode cX3_mayTakeAll 23 = .ok (.iaload, 1) := by decide +kernel
theorem dX3_mayTakeAll_24 : decode cX3_mayTakeAll 24 = .ok (.iload_n 1, 1) := by decide +kernel
theorem dX3_mayTakeAll_25 : decode cX3_mayTakeAll 25 = .ok (.ishr, 1) := by decide +kernel
theorem dX3_mayTakeAll_26 : decode cX3_mayTakeAll 26 = .ok (.iconst 1, 1) := by decide +kernel
theorem dX3_mayTakeAll_27 : decode cX3_mayTakeAll 27 = .ok (.iand, 1) := by decide +kernel
theorem dX3_mayTakeAll_28 : decode cX3_mayTakeAll 28 = .ok (.ifCond .ne 5, 3) := by decide +kernel
theorem dX3_mayTakeAll_31 : decode cX3_mayTakeAll 31 = .ok (.iconst 0, 1) := by decide +kernel
theorem dX3_mayTakeAll_32 : decode cX3_mayTakeAll 32 = .ok (.ireturn, 1) := by decide +kernel
theorem dX3_mayTakeAll_39 : decode cX3_mayTakeAll 39 = .ok (.iconst 1, 1) := by decide +kernel
theorem dX3_mayTakeAll_40 : decode cX3_mayTakeAll 40 = .ok (.ireturn, 1) := by decide +kernel
theorem dX3_mayComeNext_0 : decode cX3_mayComeNext 0 = .ok (.aload_n 0, 1) := by decide +kernel
theorem dX3_mayComeNext_1 : decode cX3_mayComeNext 1 = .ok (.aload_n 0, 1) := by decide +kernel
theorem dX3_mayComeNext_2 : decode cX3_mayComeNext 2 = .ok (.getfield 13, 3) := by decide +kernel
theorem dX3_mayComeNext_5 : decode cX3_mayComeNext 5 = .ok (.iload_n 1, 1) := by decide +kernel
theorem dX3_mayComeNext_6 : decode cX3_mayComeNext 6 = .ok (.aaload, 1) := by decide +kernel
theorem dX3_mayComeNext_7 : decode cX3_mayComeNext 7 = .ok (.iconst 5, 1) := by decide +kernel
theorem dX3_mayComeNext_8 : decode cX3_mayComeNext 8 = .ok (.iaload, 1) := by decide +kernel
theorem dX3_mayComeNext_9 : decode cX3_mayComeNext 9 = .ok (.invokevirtual 62, 3) := by decide +kernel
theorem dX3_mayComeNext_12 : decode cX3_mayComeNext 12 = .ok (.istore 5, 2) := by decide +kernel
theorem dX3_mayComeNext_14 : decode cX3_mayComeNext 14 = .ok (.iload 4, 2) := by decide +kernel
theorem dX3_mayComeNext_16 : decode cX3_mayComeNext 16 = .ok (.ifCond .gt 24, 3) := by decide +kernel
theorem dX3_mayComeNext_40 : decode cX3_mayComeNext 40 = .ok (.iconst 1, 1) := by decide +kernel
theorem dX3_mayComeNext_41 : decode cX3_mayComeNext 41 = .ok (.goto 4, 3) := by decide +kernel
theorem dX3_mayComeNext_45 : decode cX3_mayComeNext 45 = .ok (.ireturn, 1) := by decide +kernel
theorem dX3_mayComeNext_19 : decode cX3_mayComeNext 19 = .ok (.iload 5, 2) := by decide +kernel
theorem dX3_mayComeNext_21 : decode cX3_mayComeNext 21 = .ok (.iconst (-1), 1) := by decide +kernel
theorem dX3_mayComeNext_22 : decode cX3_mayComeNext 22 = .ok (.if_icmp .eq 18, 3) := by decide +kernel
theorem dX3_mayComeNext_25 : decode cX3_mayComeNext 25 = .ok (.iload 5, 2) := by decide +kernel
theorem dX3_mayComeNext_27 : decode cX3_mayComeNext 27 = .ok (.iload_n 2, 1) := by decide +kernel
theorem dX3_mayComeNext_28 : decode cX3_mayComeNext 28 = .ok (.if_icmp .eq 12, 3) := by decide +kernel
theorem dX3_mayComeNext_31 : decode cX3_mayComeNext 31 = .ok (.iload_n 3, 1) := by decide +kernel
theorem dX3_mayComeNext_32 : decode cX3_mayComeNext 32 = .ok (.iload 5, 2) := by decide +kernel
theorem dX3_mayComeNext_34 : decode cX3_mayComeNext 34 = .ok (.ishr, 1) := by decide +kernel
theorem dX3_mayComeNext_35 : decode cX3_mayComeNext 35 = .ok (.iconst 1, 1) := by decide +kernel
theorem dX3_mayComeNext_36 : decode cX3_mayComeNext 36 = .ok (.iand, 1) := by decide +kernel
theorem dX3_mayComeNext_37 : decode cX3_mayComeNext 37 = .ok (.ifCond .ne 7, 3) := by decide +kernel
theorem dX3_mayComeNext_44 : decode cX3_mayComeNext 44 = .ok (.iconst 0, 1) := by decide +kernel
theorem dJ9_abs_0f7a4_0 : decode cJ9_abs_0f7a4 0 = .ok (.iload_n 0, 1) := by decide +kernel
theorem dJ9_abs_0f7a4_1 : decode cJ9_abs_0f7a4 1 = .ok (.ifCond .ge 8, 3) := by decide +kernel
theorem dJ9_abs_0f7a4_9 : decode cJ9_abs_0f7a4 9 = .ok (.iload_n 0, 1) := by decide +kernel
theorem dJ9_abs_0f7a4_10 : decode cJ9_abs_0f7a4 10 = .ok (.ireturn, 1) := by decide +kernel
theorem dJ9_abs_0f7a4_4 : decode cJ9_abs_0f7a4 4 = .ok (.iload_n 0, 1) := by decide +kernel
theorem dJ9_abs_0f7a4_5 : decode cJ9_abs_0f7a4 5 = .ok (.ineg, 1) := by decide +kernel
theorem dJ9_abs_0f7a4_6 : decode cJ9_abs_0f7a4 6 = .ok (.goto 4, 3) := by decide +kernel
theorem dX3_weightOf_0 : decode cX3_weightOf 0 = .ok (.iconst 1, 1) := by decide +kernel
theorem dX3_weightOf_1 : decode cX3_weightOf 1 = .ok (.aload_n 0, 1) := by decide +kernel
theorem dX3_weightOf_2 : decode cX3_weightOf 2 = .ok (.getfield 89, 3) := by decide +kernel
theorem dX3_weightOf_5 : decode cX3_weightOf 5 = .ok (.aload_n 1, 1) := by decide +kernel
theorem dX3_weightOf_6 : decode cX3_weightOf 6 = .ok (.iconst 2, 1) := by decide +kernel
theorem dX3_weightOf_7 : decode cX3_weightOf 7 = .ok (.iaload, 1) := by decide +kernel
theorem dX3_weightOf_8 : decode cX3_weightOf 8 = .ok (.isub, 1) := by decide +kernel
theorem dX3_weightOf_9 : decode cX3_weightOf 9 = .ok (.bipush 30, 2) := by decide +kernel
theorem dX3_weightOf_11 : decode cX3_weightOf 11 = .ok (.idiv, 1) := by decide +kernel
theorem dX3_weightOf_12 : decode cX3_weightOf 12 = .ok (.iadd, 1) := by decide +kernel
theorem dX3_weightOf_13 : decode cX3_weightOf 13 = .ok (.i2l, 1) := by decide +kernel
theorem dX3_weightOf_14 : decode cX3_weightOf 14 = .ok (.lreturn, 1) := by decide +kernel
theorem dX4_sortActs_0 : decode cX4_sortActs 0 = .ok (.iconst 0, 1) := by decide +kernel
theorem dX4_sortActs_1 : decode cX4_sortActs 1 = .ok (.istore_n 1, 1) := by decide +kernel
theorem dX4_sortActs_2 : decode cX4_sortActs 2 = .ok (.iload_n 1, 1) := by decide +kernel
theorem dX4_sortActs_3 : decode cX4_sortActs 3 = .ok (.aload_n 0, 1) := by decide +kernel
theorem dX4_sortActs_4 : decode cX4_sortActs 4 = .ok (.getfield 35, 3) := by decide +kernel
theorem dX4_sortActs_7 : decode cX4_sortActs 7 = .ok (.arraylength, 1) := by decide +kernel
theorem dX4_sortActs_8 : decode cX4_sortActs 8 = .ok (.if_icmp .ge 68, 3) := by decide +kernel
theorem dX4_sortActs_11 : decode cX4_sortActs 11 = .ok (.iload_n 1, 1) := by decide +kernel
theorem dX4_sortActs_12 : decode cX4_sortActs 12 = .ok (.istore_n 2, 1) := by decide +kernel
theorem dX4_sortActs_13 : decode cX4_sortActs 13 = .ok (.iload_n 2, 1) := by decide +kernel
theorem dX4_sortActs_14 : decode cX4_sortActs 14 = .ok (.ifCond .le 49, 3) := by decide +kernel
theorem dX4_sortActs_17 : decode cX4_sortActs 17 = .ok (.aload_n 0, 1) := by decide +kernel
theorem dX4_sortActs_18 : decode cX4_sortActs 18 = .ok (.getfield 29, 3) := by decide +kernel
theorem dX4_sortActs_21 : decode cX4_sortActs 21 = .ok (.aload_n 0, 1) := by decide +kernel
theorem dX4_sortActs_22 : decode cX4_sortActs 22 = .ok (.getfield 35, 3) := by decide +kernel
theorem dX4_sortActs_25 : decode cX4_sortActs 25 = .ok (.iload_n 2, 1) := by decide +kernel
theorem dX4_sortActs_26 : decode cX4_sortActs 26 = .ok (.iconst 1, 1) := by decide +kernel
theorem dX4_sortActs_27 : decode cX4_sortActs 27 = .ok (.isub, 1) := by decide +kernel
theorem dX4_sortActs_28 : decode cX4_sortActs 28 = .ok (.iaload, 1) := by decide +kernel
theorem dX4_sortActs_29 : decode cX4_sortActs 29 = .ok (.aaload, 1) := by decide +kernel
theorem dX4_sortActs_30 : decode cX4_sortActs 30 = .ok (.iconst 2, 1) := by decide +kernel
theorem dX4_sortActs_31 : decode cX4_sortActs 31 = .ok (.iaload, 1) := by decide +kernel
theorem dX4_sortActs_32 : decode cX4_sortActs 32 = .ok (.aload_n 0, 1) := by decide +kernel
theorem dX4_sortActs_33 : decode cX4_sortActs 33 = .ok (.getfield 29, 3) := by decide +kernel
theorem dX4_sortActs_36 : decode cX4_sortActs 36 = .ok (.iload_n 1, 1) := by decide +kernel
theorem dX4_sortActs_37 : decode cX4_sortActs 37 = .ok (.aaload, 1) := by decide +kernel
theorem dX4_sortActs_38 : decode cX4_sortActs 38 = .ok (.iconst 2, 1) := by decide +kernel
theorem dX4_sortActs_39 : decode cX4_sortActs 39 = .ok (.iaload, 1) := by decide +kernel
theorem dX4_sortActs_40 : decode cX4_sortActs 40 = .ok (.if_icmp .ge 23, 3) := by decide +kernel
theorem dX4_sortActs_43 : decode cX4_sortActs 43 = .ok (.aload_n 0, 1) := by decide +kernel
theorem dX4_sortActs_44 : decode cX4_sortActs 44 = .ok (.getfield 35, 3) := by decide +kernel
theorem dX4_sortActs_47 : decode cX4_sortActs 47 = .ok (.iload_n 2, 1) := by decide +kernel
theorem dX4_sortActs_48 : decode cX4_sortActs 48 = .ok (.aload_n 0, 1) := by decide +kernel
theorem dX4_sortActs_49 : decode cX4_sortActs 49 = .ok (.getfield 35, 3) := by decide +kernel
theorem dX4_sortActs_52 : decode cX4_sortActs 52 = .ok (.iload_n 2, 1) := by decide +kernel
theorem dX4_sortActs_53 : decode cX4_sortActs 53 = .ok (.iconst 1, 1) := by decide +kernel
theorem dX4_sortActs_54 : decode cX4_sortActs 54 = .ok (.isub, 1) := by decide +kernel
theorem dX4_sortActs_55 : decode cX4_sortActs 55 = .ok (.iaload, 1) := by decide +kernel
theorem dX4_sortActs_56 : decode cX4_sortActs 56 = .ok (.iastore, 1) := by decide +kernel
theorem dX4_sortActs_57 : decode cX4_sortActs 57 = .ok (.iinc 2 (-1), 3) := by decide +kernel
theorem dX4_sortActs_60 : decode cX4_sortActs 60 = .ok (.goto (-47), 3) := by decide +kernel
theorem dX4_sortActs_63 : decode cX4_sortActs 63 = .ok (.aload_n 0, 1) := by decide +kernel
theorem dX4_sortActs_64 : decode cX4_sortActs 64 = .ok (.getfield 35, 3) := by decide +kernel
theorem dX4_sortActs_67 : decode cX4_sortActs 67 = .ok (.iload_n 2, 1) := by decide +kernel
theorem dX4_sortActs_68 : decode cX4_sortActs 68 = .ok (.iload_n 1, 1) := by decide +kernel
theorem dX4_sortActs_69 : decode cX4_sortActs 69 = .ok (.iastore, 1) := by decide +kernel
theorem dX4_sortActs_70 : decode cX4_sortActs 70 = .ok (.iinc 1 1, 3) := by decide +kernel
theorem dX4_sortActs_73 : decode cX4_sortActs 73 = .ok (.goto (-71), 3) := by decide +kernel
theorem dX4_sortActs_76 : decode cX4_sortActs 76 = .ok (.return_, 1) := by decide +kernel
theorem dX4_isZone_0 : decode cX4_isZone 0 = .ok (.iload_n 1, 1) := by decide +kernel
theorem dX4_isZone_1 : decode cX4_isZone 1 = .ok (.ifCond .lt 27, 3) := by decide +kernel
theorem dX4_isZone_28 : decode cX4_isZone 28 = .ok (.iconst 0, 1) := by decide +kernel
theorem dX4_isZone_29 : decode cX4_isZone 29 = .ok (.ireturn, 1) := by decide +kernel
theorem dX4_isZone_4 : decode cX4_isZone 4 = .ok (.iload_n 1, 1) := by decide +kernel
theorem dX4_isZone_5 : decode cX4_isZone 5 = .ok (.aload_n 0, 1) := by decide +kernel
theorem dX4_isZone_6 : decode cX4_isZone 6 = .ok (.getfield 26, 3) := by decide +kernel
theorem dX4_isZone_9 : decode cX4_isZone 9 = .ok (.arraylength, 1) := by decide +kernel
theorem dX4_isZone_10 : decode cX4_isZone 10 = .ok (.if_icmp .ge 18, 3) := by decide +kernel
theorem dX4_isZone_13 : decode cX4_isZone 13 = .ok (.aload_n 0, 1) := by decide +kernel
theorem dX4_isZone_14 : decode cX4_isZone 14 = .ok (.getfield 26, 3) := by decide +kernel
theorem dX4_isZone_17 : decode cX4_isZone 17 = .ok (.iload_n 1, 1) := by decide +kernel
theorem dX4_isZone_18 : decode cX4_isZone 18 = .ok (.aaload, 1) := by decide +kernel
theorem dX4_isZone_19 : decode cX4_isZone 19 = .ok (.iconst 0, 1) := by decide +kernel
theorem dX4_isZone_20 : decode cX4_isZone 20 = .ok (.iaload, 1) := by decide +kernel
theorem dX4_isZone_21 : decode cX4_isZone 21 = .ok (.ifCond .eq 7, 3) := by decide +kernel
theorem dX4_isZone_24 : decode cX4_isZone 24 = .ok (.iconst 1, 1) := by decide +kernel
theorem dX4_isZone_25 : decode cX4_isZone 25 = .ok (.goto 4, 3) := by decide +kernel
theorem dX4_isAct_0 : decode cX4_isAct 0 = .ok (.iload_n 1, 1) := by decide +kernel
theorem dX4_isAct_1 : decode cX4_isAct 1 = .ok (.ifCond .lt 27, 3) := by decide +kernel
theorem dX4_isAct_28 : decode cX4_isAct 28 = .ok (.iconst 0, 1) := by decide +kernel
theorem dX4_isAct_29 : decode cX4_isAct 29 = .ok (.ireturn, 1) := by decide +kernel
theorem dX4_isAct_4 : decode cX4_isAct 4 = .ok (.iload_n 1, 1) := by decide +kernel
theorem dX4_isAct_5 : decode cX4_isAct 5 = .ok (.aload_n 0, 1) := by decide +kernel
theorem dX4_isAct_6 : decode cX4_isAct 6 = .ok (.getfield 29, 3) := by decide +kernel
theorem dX4_isAct_9 : decode cX4_isAct 9 = .ok (.arraylength, 1) := by decide +kernel
theorem dX4_isAct_10 : decode cX4_isAct 10 = .ok (.if_icmp .ge 18, 3) := by decide +kernel
theorem dX4_isAct_13 : decode cX4_isAct 13 = .ok (.aload_n 0, 1) := by decide +kernel
theorem dX4_isAct_14 : decode cX4_isAct 14 = .ok (.getfield 29, 3) := by decide +kernel
theorem dX4_isAct_17 : decode cX4_isAct 17 = .ok (.iload_n 1, 1) := by decide +kernel
theorem dX4_isAct_18 : decode cX4_isAct 18 = .ok (.aaload, 1) := by decide +kernel
theorem dX4_isAct_19 : decode cX4_isAct 19 = .ok (.iconst 0, 1) := by decide +kernel
theorem dX4_isAct_20 : decode cX4_isAct 20 = .ok (.iaload, 1) := by decide +kernel
theorem dX4_isAct_21 : decode cX4_isAct 21 = .ok (.ifCond .eq 7, 3) := by decide +kernel
theorem dX4_isAct_24 : decode cX4_isAct 24 = .ok (.iconst 1, 1) := by decide +kernel
theorem dX4_isAct_25 : decode cX4_isAct 25 = .ok (.goto 4, 3) := by decide +kernel
theorem dX4_setSwitch_0 : decode cX4_setSwitch 0 = .ok (.aload_n 0, 1) := by decide +kernel
theorem dX4_setSwitch_1 : decode cX4_setSwitch 1 = .ok (.getfield 84, 3) := by decide +kernel
theorem dX4_setSwitch_4 : decode cX4_setSwitch 4 = .ok (.bipush 10, 2) := by decide +kernel
theorem dX4_setSwitch_6 : decode cX4_setSwitch 6 = .ok (.isub, 1) := by decide +kernel
theorem dX4_setSwitch_7 : decode cX4_setSwitch 7 = .ok (.iload_n 1, 1) := by decide +kernel
theorem dX4_setSwitch_8 : decode cX4_setSwitch 8 = .ok (.iadd, 1) := by decide +kernel
theorem dX4_setSwitch_9 : decode cX4_setSwitch 9 = .ok (.istore_n 3, 1) := by decide +kernel
theorem dX4_setSwitch_10 : decode cX4_setSwitch 10 = .ok (.iload_n 1, 1) := by decide +kernel
theorem dX4_setSwitch_11 : decode cX4_setSwitch 11 = .ok (.iconst (-1), 1) := by decide +kernel
theorem dX4_setSwitch_12 : decode cX4_setSwitch 12 = .ok (.if_icmp .eq 31, 3) := by decide +kernel
theorem dX4_setSwitch_43 : decode cX4_setSwitch 43 = .ok (.return_, 1) := by decide +kernel
theorem dX4_setSwitch_15 : decode cX4_setSwitch 15 = .ok (.iload_n 3, 1) := by decide +kernel
theorem dX4_setSwitch_16 : decode cX4_setSwitch 16 = .ok (.ifCond .lt 27, 3) := by decide +kernel
theorem dX4_setSwitch_19 : decode cX4_setSwitch 19 = .ok (.iload_n 3, 1) := by decide +kernel
theorem dX4_setSwitch_20 : decode cX4_setSwitch 20 = .ok (.aload_n 0, 1) := by decide +kernel
theorem dX4_setSwitch_21 : decode cX4_setSwitch 21 = .ok (.getfield 84, 3) := by decide +kernel
theorem dX4_setSwitch_24 : decode cX4_setSwitch 24 = .ok (.if_icmp .ge 19, 3) := by decide +kernel
theorem dX4_setSwitch_27 : decode cX4_setSwitch 27 = .ok (.aload_n 0, 1) := by decide +kernel
theorem dX4_setSwitch_28 : decode cX4_setSwitch 28 = .ok (.getfield 11, 3) := by decide +kernel
theorem dX4_setSwitch_31 : decode cX4_setSwitch 31 = .ok (.iload_n 3, 1) := by decide +kernel
theorem dX4_setSwitch_32 : decode cX4_setSwitch 32 = .ok (.iconst 0, 1) := by decide +kernel
theorem dX4_setSwitch_33 : decode cX4_setSwitch 33 = .ok (.iload_n 2, 1) := by decide +kernel
theorem dX4_setSwitch_34 : decode cX4_setSwitch 34 = .ok (.bipush 100, 2) := by decide +kernel
theorem dX4_setSwitch_36 : decode cX4_setSwitch 36 = .ok (.invokestatic 87, 3) := by decide +kernel
theorem dX4_setSwitch_39 : decode cX4_setSwitch 39 = .ok (.invokestatic 93, 3) := by decide +kernel
theorem dX4_setSwitch_42 : decode cX4_setSwitch 42 = .ok (.iastore, 1) := by decide +kernel
theorem dX4_isAsked_0 : decode cX4_isAsked 0 = .ok (.aload_n 0, 1) := by decide +kernel
theorem dX4_isAsked_1 : decode cX4_isAsked 1 = .ok (.getfield 15, 3) := by decide +kernel
theorem dX4_isAsked_4 : decode cX4_isAsked 4 = .ok (.iload_n 1, 1) := by decide +kernel
theorem dX4_isAsked_5 : decode cX4_isAsked 5 = .ok (.baload, 1) := by decide +kernel
theorem dX4_isAsked_6 : decode cX4_isAsked 6 = .ok (.ifCond .ne 17, 3) := by decide +kernel
theorem dX4_isAsked_23 : decode cX4_isAsked 23 = .ok (.iconst 0, 1) := by decide +kernel
theorem dX4_isAsked_24 : decode cX4_isAsked 24 = .ok (.ireturn, 1) := by decide +kernel
theorem dX4_isAsked_9 : decode cX4_isAsked 9 = .ok (.iload_n 2, 1) := by decide +kernel
theorem dX4_isAsked_10 : decode cX4_isAsked 10 = .ok (.aload_n 0, 1) := by decide +kernel
theorem dX4_isAsked_11 : decode cX4_isAsked 11 = .ok (.getfield 19, 3) := by decide +kernel
theorem dX4_isAsked_14 : decode cX4_isAsked 14 = .ok (.iload_n 1, 1) := by decide +kernel
theorem dX4_isAsked_15 : decode cX4_isAsked 15 = .ok (.iaload, 1) := by decide +kernel
theorem dX4_isAsked_16 : decode cX4_isAsked 16 = .ok (.if_icmp .lt 7, 3) := by decide +kernel
theorem dX4_isAsked_19 : decode cX4_isAsked 19 = .ok (.iconst 1, 1) := by decide +kernel
theorem dX4_isAsked_20 : decode cX4_isAsked 20 = .ok (.goto 4, 3) := by decide +kernel
theorem dX4_isOn_0 : decode cX4_isOn 0 = .ok (.aload_n 0, 1) := by decide +kernel
theorem dX4_isOn_1 : decode cX4_isOn 1 = .ok (.getfield 11, 3) := by decide +kernel
theorem dX4_isOn_4 : decode cX4_isOn 4 = .ok (.iload_n 1, 1) := by decide +kernel
theorem dX4_isOn_5 : decode cX4_isOn 5 = .ok (.iaload, 1) := by decide +kernel
theorem dX4_isOn_6 : decode cX4_isOn 6 = .ok (.bipush 50, 2) := by decide +kernel
theorem dX4_isOn_8 : decode cX4_isOn 8 = .ok (.if_icmp .lt 16, 3) := by decide +kernel
theorem dX4_isOn_24 : decode cX4_isOn 24 = .ok (.iconst 0, 1) := by decide +kernel
theorem dX4_isOn_25 : decode cX4_isOn 25 = .ok (.ireturn, 1) := by decide +kernel
theorem dX4_isOn_11 : decode cX4_isOn 11 = .ok (.aload_n 0, 1) := by decide +kernel
theorem dX4_isOn_12 : decode cX4_isOn 12 = .ok (.iload_n 1, 1) := by decide +kernel
theorem dX4_isOn_13 : decode cX4_isOn 13 = .ok (.iload_n 2, 1) := by decide +kernel
theorem dX4_isOn_14 : decode cX4_isOn 14 = .ok (.invokevirtual 96, 3) := by decide +kernel
theorem dX4_isOn_17 : decode cX4_isOn 17 = .ok (.ifCond .eq 7, 3) := by decide +kernel
theorem dX4_isOn_20 : decode cX4_isOn 20 = .ok (.iconst 1, 1) := by decide +kernel
theorem dX4_isOn_21 : decode cX4_isOn 21 = .ok (.goto 4, 3) := by decide +kernel
theorem dX4_countOn_0 : decode cX4_countOn 0 = .ok (.iconst 0, 1) := by decide +kernel
theorem dX4_countOn_1 : decode cX4_countOn 1 = .ok (.istore_n 3, 1) := by decide +kernel
theorem dX4_countOn_2 : decode cX4_countOn 2 = .ok (.iconst 0, 1) := by decide +kernel
theorem dX4_countOn_3 : decode cX4_countOn 3 = .ok (.istore 4, 2) := by decide +kernel
theorem dX4_countOn_5 : decode cX4_countOn 5 = .ok (.iload 4, 2) := by decide +kernel
theorem dX4_countOn_7 : decode cX4_countOn 7 = .ok (.aload_n 0, 1) := by decide +kernel
theorem dX4_countOn_8 : decode cX4_countOn 8 = .ok (.getfield 26, 3) := by decide +kernel
theorem dX4_countOn_11 : decode cX4_countOn 11 = .ok (.iload_n 1, 1) := by decide +kernel
theorem dX4_countOn_12 : decode cX4_countOn 12 = .ok (.aaload, 1) := by decide +kernel
theorem dX4_countOn_13 : decode cX4_countOn 13 = .ok (.iconst 1, 1) := by decide +kernel
theorem dX4_countOn_14 : decode cX4_countOn 14 = .ok (.iaload, 1) := by decide +kernel
theorem dX4_countOn_15 : decode cX4_countOn 15 = .ok (.if_icmp .ge 36, 3) := by decide +kernel
theorem dX4_countOn_18 : decode cX4_countOn 18 = .ok (.iload_n 3, 1) := by decide +kernel
theorem dX4_countOn_19 : decode cX4_countOn 19 = .ok (.aload_n 0, 1) := by decide +kernel
theorem dX4_countOn_20 : decode cX4_countOn 20 = .ok (.aload_n 0, 1) := by decide +kernel
theorem dX4_countOn_21 : decode cX4_countOn 21 = .ok (.getfield 26, 3) := by decide +kernel
theorem dX4_countOn_24 : decode cX4_countOn 24 = .ok (.iload_n 1, 1) := by decide +kernel
theorem dX4_countOn_25 : decode cX4_countOn 25 = .ok (.aaload, 1) := by decide +kernel
theorem dX4_countOn_26 : decode cX4_countOn 26 = .ok (.iconst 2, 1) := by decide +kernel
theorem dX4_countOn_27 : decode cX4_countOn 27 = .ok (.iload 4, 2) := by decide +kernel
theorem dX4_countOn_29 : decode cX4_countOn 29 = .ok (.iadd, 1) := by decide +kernel
theorem dX4_countOn_30 : decode cX4_countOn 30 = .ok (.iaload, 1) := by decide +kernel
theorem dX4_countOn_31 : decode cX4_countOn 31 = .ok (.iload_n 2, 1) := by decide +kernel
theorem dX4_countOn_32 : decode cX4_countOn 32 = .ok (.invokevirtual 100, 3) := by decide +kernel
theorem dX4_countOn_35 : decode cX4_countOn 35 = .ok (.ifCond .eq 7, 3) := by decide +kernel
theorem dX4_countOn_42 : decode cX4_countOn 42 = .ok (.iconst 0, 1) := by decide +kernel
theorem dX4_countOn_43 : decode cX4_countOn 43 = .ok (.iadd, 1) := by decide +kernel
theorem dX4_countOn_44 : decode cX4_countOn 44 = .ok (.istore_n 3, 1) := by decide +kernel
theorem dX4_countOn_45 : decode cX4_countOn 45 = .ok (.iinc 4 1, 3) := by decide +kernel
theorem dX4_countOn_48 : decode cX4_countOn 48 = .ok (.goto (-43), 3) := by decide +kernel
theorem dX4_countOn_38 : decode cX4_countOn 38 = .ok (.iconst 1, 1) := by decide +kernel
theorem dX4_countOn_39 : decode cX4_countOn 39 = .ok (.goto 4, 3) := by decide +kernel
theorem dX4_countOn_51 : decode cX4_countOn 51 = .ok (.iload_n 3, 1) := by decide +kernel
theorem dX4_countOn_52 : decode cX4_countOn 52 = .ok (.ireturn, 1) := by decide +kernel
theorem dX4_countAsked_0 : decode cX4_countAsked 0 = .ok (.iconst 0, 1) := by decide +kernel
theorem dX4_countAsked_1 : decode cX4_countAsked 1 = .ok (.istore_n 3, 1) := by decide +kernel
theorem dX4_countAsked_2 : decode cX4_countAsked 2 = .ok (.iconst 0, 1) := by decide +kernel
theorem dX4_countAsked_3 : decode cX4_countAsked 3 = .ok (.istore 4, 2) := by decide +kernel
theorem dX4_countAsked_5 : decode cX4_countAsked 5 = .ok (.iload 4, 2) := by decide +kernel
theorem dX4_countAsked_7 : decode cX4_countAsked 7 = .ok (.aload_n 0, 1) := by decide +kernel
theorem dX4_countAsked_8 : decode cX4_countAsked 8 = .ok (.getfield 26, 3) := by decide +kernel
theorem dX4_countAsked_11 : decode cX4_countAsked 11 = .ok (.iload_n 1, 1) := by decide +kernel
theorem dX4_countAsked_12 : decode cX4_countAsked 12 = .ok (.aaload, 1) := by decide +kernel
theorem dX4_countAsked_13 : decode cX4_countAsked 13 = .ok (.iconst 1, 1) := by decide +kernel
theorem dX4_countAsked_14 : decode cX4_countAsked 14 = .ok (.iaload, 1) := by decide +kernel
theorem dX4_countAsked_15 : decode cX4_countAsked 15 = .ok (.if_icmp .ge 36, 3) := by decide +kernel
theorem dX4_countAsked_18 : decode cX4_countAsked 18 = .ok (.iload_n 3, 1) := by decide +kernel
theorem dX4_countAsked_19 : decode cX4_countAsked 19 = .ok (.aload_n 0, 1) := by decide +kernel
theorem dX4_countAsked_20 : decode cX4_countAsked 20 = .ok (.aload_n 0, 1) := by decide +kernel
theorem dX4_countAsked_21 : decode cX4_countAsked 21 = .ok (.getfield 26, 3) := by decide +kernel
theorem dX4_countAsked_24 : decode cX4_countAsked 24 = .ok (.iload_n 1, 1) := by decide +kernel
theorem dX4_countAsked_25 : decode cX4_countAsked 25 = .ok (.aaload, 1) := by decide +kernel
theorem dX4_countAsked_26 : decode cX4_countAsked 26 = .ok (.iconst 2, 1) := by decide +kernel
theorem dX4_countAsked_27 : decode cX4_countAsked 27 = .ok (.iload 4, 2) := by decide +kernel
theorem dX4_countAsked_29 : decode cX4_countAsked 29 = .ok (.iadd, 1) := by decide +kernel
theorem dX4_countAsked_30 : decode cX4_countAsked 30 = .ok (.iaload, 1) := by decide +kernel
theorem dX4_countAsked_31 : decode cX4_countAsked 31 = .ok (.iload_n 2, 1) := by decide +kernel
theorem dX4_countAsked_32 : decode cX4_countAsked 32 = .ok (.invokevirtual 96, 3) := by decide +kernel
theorem dX4_countAsked_35 : decode cX4_countAsked 35 = .ok (.ifCond .eq 7, 3) := by decide +kernel
theorem dX4_countAsked_42 : decode cX4_countAsked 42 = .ok (.iconst 0, 1) := by decide +kernel
theorem dX4_countAsked_43 : decode cX4_countAsked 43 = .ok (.iadd, 1) := by decide +kernel
theorem dX4_countAsked_44 : decode cX4_countAsked 44 = .ok (.istore_n 3, 1) := by decide +kernel
theorem dX4_countAsked_45 : decode cX4_countAsked 45 = .ok (.iinc 4 1, 3) := by decide +kernel
theorem dX4_countAsked_48 : decode cX4_countAsked 48 = .ok (.goto (-43), 3) := by decide +kernel
theorem dX4_countAsked_38 : decode cX4_countAsked 38 = .ok (.iconst 1, 1) := by decide +kernel
theorem dX4_countAsked_39 : decode cX4_countAsked 39 = .ok (.goto 4, 3) := by decide +kernel
theorem dX4_countAsked_51 : decode cX4_countAsked 51 = .ok (.iload_n 3, 1) := by decide +kernel
theorem dX4_countAsked_52 : decode cX4_countAsked 52 = .ok (.ireturn, 1) := by decide +kernel
theorem dX4_isSure_0 : decode cX4_isSure 0 = .ok (.iload_n 2, 1) := by decide +kernel
theorem dX4_isSure_1 : decode cX4_isSure 1 = .ok (.ifCond .le 12, 3) := by decide +kernel
theorem dX4_isSure_13 : decode cX4_isSure 13 = .ok (.iconst 0, 1) := by decide +kernel
theorem dX4_isSure_14 : decode cX4_isSure 14 = .ok (.ireturn, 1) := by decide +kernel
theorem dX4_isSure_4 : decode cX4_isSure 4 = .ok (.iload_n 1, 1) := by decide +kernel
theorem dX4_isSure_5 : decode cX4_isSure 5 = .ok (.iload_n 2, 1) := by decide +kernel
theorem dX4_isSure_6 : decode cX4_isSure 6 = .ok (.if_icmp .ne 7, 3) := by decide +kernel
theorem dX4_isSure_9 : decode cX4_isSure 9 = .ok (.iconst 1, 1) := by decide +kernel
theorem dX4_isSure_10 : decode cX4_isSure 10 = .ok (.goto 4, 3) := by decide +kernel
theorem dX4_lookAtZones_0 : decode cX4_lookAtZones 0 = .ok (.iconst 0, 1) := by decide +kernel
theorem dX4_lookAtZones_1 : decode cX4_lookAtZones 1 = .ok (.istore_n 2, 1) := by decide +kernel
theorem dX4_lookAtZones_2 : decode cX4_lookAtZones 2 = .ok (.iload_n 2, 1) := by decide +kernel
theorem dX4_lookAtZones_3 : decode cX4_lookAtZones 3 = .ok (.aload_n 0, 1) := by decide +kernel
theorem dX4_lookAtZones_4 : decode cX4_lookAtZones 4 = .ok (.getfield 26, 3) := by decide +kernel
theorem dX4_lookAtZones_7 : decode cX4_lookAtZones 7 = .ok (.arraylength, 1) := by decide +kernel
theorem dX4_lookAtZones_8 : decode cX4_lookAtZones 8 = .ok (.if_icmp .ge 64, 3) := by decide +kernel
theorem dX4_lookAtZones_11 : decode cX4_lookAtZones 11 = .ok (.aload_n 0, 1) := by decide +kernel
theorem dX4_lookAtZones_12 : decode cX4_lookAtZones 12 = .ok (.iload_n 2, 1) := by decide +kernel
theorem dX4_lookAtZones_13 : decode cX4_lookAtZones 13 = .ok (.iload_n 1, 1) := by decide +kernel
theorem dX4_lookAtZones_14 : decode cX4_lookAtZones 14 = .ok (.invokevirtual 103, 3) := by decide +kernel
theorem dX4_lookAtZones_17 : decode cX4_lookAtZones 17 = .ok (.istore_n 3, 1) := by decide +kernel
theorem dX4_lookAtZones_18 : decode cX4_lookAtZones 18 = .ok (.aload_n 0, 1) := by decide +kernel
theorem dX4_lookAtZones_19 : decode cX4_lookAtZones 19 = .ok (.getfield 50, 3) := by decide +kernel
theorem dX4_lookAtZones_22 : decode cX4_lookAtZones 22 = .ok (.iload_n 2, 1) := by decide +kernel
theorem dX4_lookAtZones_23 : decode cX4_lookAtZones 23 = .ok (.aload_n 0, 1) := by decide +kernel
theorem dX4_lookAtZones_24 : decode cX4_lookAtZones 24 = .ok (.iload_n 2, 1) := by decide +kernel
theorem dX4_lookAtZones_25 : decode cX4_lookAtZones 25 = .ok (.invokevirtual 106, 3) := by decide +kernel
theorem dX4_lookAtZones_28 : decode cX4_lookAtZones 28 = .ok (.ifCond .eq 19, 3) := by decide +kernel
theorem dX4_lookAtZones_47 : decode cX4_lookAtZones 47 = .ok (.iconst 0, 1) := by decide +kernel
theorem dX4_lookAtZones_48 : decode cX4_lookAtZones 48 = .ok (.bastore, 1) := by decide +kernel
theorem dX4_lookAtZones_49 : decode cX4_lookAtZones 49 = .ok (.aload_n 0, 1) := by decide +kernel
theorem dX4_lookAtZones_50 : decode cX4_lookAtZones 50 = .ok (.getfield 53, 3) := by decide +kernel
theorem dX4_lookAtZones_53 : decode cX4_lookAtZones 53 = .ok (.iload_n 2, 1) := by decide +kernel
theorem dX4_lookAtZones_54 : decode cX4_lookAtZones 54 = .ok (.aload_n 0, 1) := by decide +kernel
theorem dX4_lookAtZones_55 : decode cX4_lookAtZones 55 = .ok (.iload_n 3, 1) := by decide +kernel
theorem dX4_lookAtZones_56 : decode cX4_lookAtZones 56 = .ok (.aload_n 0, 1) := by decide +kernel
theorem dX4_lookAtZones_57 : decode cX4_lookAtZones 57 = .ok (.iload_n 2, 1) := by decide +kernel
theorem dX4_lookAtZones_58 : decode cX4_lookAtZones 58 = .ok (.iload_n 1, 1) := by decide +kernel
theorem dX4_lookAtZones_59 : decode cX4_lookAtZones 59 = .ok (.invokevirtual 110, 3) := by decide +kernel
theorem dX4_lookAtZones_62 : decode cX4_lookAtZones 62 = .ok (.invokevirtual 113, 3) := by decide +kernel
theorem dX4_lookAtZones_65 : decode cX4_lookAtZones 65 = .ok (.bastore, 1) := by decide +kernel
theorem dX4_lookAtZones_66 : decode cX4_lookAtZones 66 = .ok (.iinc 2 1, 3) := by decide +kernel
theorem dX4_lookAtZones_69 : decode cX4_lookAtZones 69 = .ok (.goto (-67), 3) := by decide +kernel
theorem dX4_lookAtZones_31 : decode cX4_lookAtZones 31 = .ok (.iload_n 3, 1) := by decide +kernel
theorem dX4_lookAtZones_32 : decode cX4_lookAtZones 32 = .ok (.aload_n 0, 1) := by decide +kernel
theorem dX4_lookAtZones_33 : decode cX4_lookAtZones 33 = .ok (.getfield 26, 3) := by decide +kernel
theorem dX4_lookAtZones_36 : decode cX4_lookAtZones 36 = .ok (.iload_n 2, 1) := by decide +kernel
theorem dX4_lookAtZones_37 : decode cX4_lookAtZones 37 = .ok (.aaload, 1) := by decide +kernel
theorem dX4_lookAtZones_38 : decode cX4_lookAtZones 38 = .ok (.iconst 0, 1) := by decide +kernel
theorem dX4_lookAtZones_39 : decode cX4_lookAtZones 39 = .ok (.iaload, 1) := by decide +kernel
theorem dX4_lookAtZones_40 : decode cX4_lookAtZones 40 = .ok (.if_icmp .lt 7, 3) := by decide +kernel
theorem dX4_lookAtZones_43 : decode cX4_lookAtZones 43 = .ok (.iconst 1, 1) := by decide +kernel
theorem dX4_lookAtZones_44 : decode cX4_lookAtZones 44 = .ok (.goto 4, 3) := by decide +kernel
theorem dX4_lookAtZones_72 : decode cX4_lookAtZones 72 = .ok (.return_, 1) := by decide +kernel
theorem dX4_isMet_0 : decode cX4_isMet 0 = .ok (.aload_n 0, 1) := by decide +kernel
theorem dX4_isMet_1 : decode cX4_isMet 1 = .ok (.getfield 50, 3) := by decide +kernel
theorem dX4_isMet_4 : decode cX4_isMet 4 = .ok (.aload_n 0, 1) := by decide +kernel
theorem dX4_isMet_5 : decode cX4_isMet 5 = .ok (.getfield 32, 3) := by decide +kernel
theorem dX4_isMet_8 : decode cX4_isMet 8 = .ok (.iload_n 1, 1) := by decide +kernel
theorem dX4_isMet_9 : decode cX4_isMet 9 = .ok (.aaload, 1) := by decide +kernel
theorem dX4_isMet_10 : decode cX4_isMet 10 = .ok (.iconst 0, 1) := by decide +kernel
theorem dX4_isMet_11 : decode cX4_isMet 11 = .ok (.iaload, 1) := by decide +kernel
theorem dX4_isMet_12 : decode cX4_isMet 12 = .ok (.baload, 1) := by decide +kernel
theorem dX4_isMet_13 : decode cX4_isMet 13 = .ok (.ifCond .eq 35, 3) := by decide +kernel
theorem dX4_isMet_48 : decode cX4_isMet 48 = .ok (.iconst 0, 1) := by decide +kernel
theorem dX4_isMet_49 : decode cX4_isMet 49 = .ok (.ireturn, 1) := by decide +kernel
theorem dX4_isMet_16 : decode cX4_isMet 16 = .ok (.aload_n 0, 1) := by decide +kernel
theorem dX4_isMet_17 : decode cX4_isMet 17 = .ok (.getfield 32, 3) := by decide +kernel
theorem dX4_isMet_20 : decode cX4_isMet 20 = .ok (.iload_n 1, 1) := by decide +kernel
theorem dX4_isMet_21 : decode cX4_isMet 21 = .ok (.aaload, 1) := by decide +kernel
theorem dX4_isMet_22 : decode cX4_isMet 22 = .ok (.iconst 1, 1) := by decide +kernel
theorem dX4_isMet_23 : decode cX4_isMet 23 = .ok (.iaload, 1) := by decide +kernel
theorem dX4_isMet_24 : decode cX4_isMet 24 = .ok (.iconst (-1), 1) := by decide +kernel
theorem dX4_isMet_25 : decode cX4_isMet 25 = .ok (.if_icmp .eq 19, 3) := by decide +kernel
theorem dX4_isMet_44 : decode cX4_isMet 44 = .ok (.iconst 1, 1) := by decide +kernel
theorem dX4_isMet_45 : decode cX4_isMet 45 = .ok (.goto 4, 3) := by decide +kernel
theorem dX4_isMet_28 : decode cX4_isMet 28 = .ok (.aload_n 0, 1) := by decide +kernel
theorem dX4_isMet_29 : decode cX4_isMet 29 = .ok (.getfield 50, 3) := by decide +kernel
theorem dX4_isMet_32 : decode cX4_isMet 32 = .ok (.aload_n 0, 1) := by decide +kernel
theorem dX4_isMet_33 : decode cX4_isMet 33 = .ok (.getfield 32, 3) := by decide +kernel
theorem dX4_isMet_36 : decode cX4_isMet 36 = .ok (.iload_n 1, 1) := by decide +kernel
theorem dX4_isMet_37 : decode cX4_isMet 37 = .ok (.aaload, 1) := by decide +kernel
theorem dX4_isMet_38 : decode cX4_isMet 38 = .ok (.iconst 1, 1) := by decide +kernel
theorem dX4_isMet_39 : decode cX4_isMet 39 = .ok (.iaload, 1) := by decide +kernel
theorem dX4_isMet_40 : decode cX4_isMet 40 = .ok (.baload, 1) := by decide +kernel
theorem dX4_isMet_41 : decode cX4_isMet 41 = .ok (.ifCond .eq 7, 3) := by decide +kernel
theorem dX4_isCalled_0 : decode cX4_isCalled 0 = .ok (.iconst 0, 1) := by decide +kernel
theorem dX4_isCalled_1 : decode cX4_isCalled 1 = .ok (.istore_n 2, 1) := by decide +kernel
theorem dX4_isCalled_2 : decode cX4_isCalled 2 = .ok (.iload_n 2, 1) := by decide +kernel
theorem dX4_isCalled_3 : decode cX4_isCalled 3 = .ok (.aload_n 0, 1) := by decide +kernel
theorem dX4_isCalled_4 : decode cX4_isCalled 4 = .ok (.getfield 80, 3) := by decide +kernel
theorem dX4_isCalled_7 : decode cX4_isCalled 7 = .ok (.if_icmp .ge 31, 3) := by decide +kernel
theorem dX4_isCalled_10 : decode cX4_isCalled 10 = .ok (.aload_n 0, 1) := by decide +kernel
theorem dX4_isCalled_11 : decode cX4_isCalled 11 = .ok (.getfield 32, 3) := by decide +kernel
theorem dX4_isCalled_14 : decode cX4_isCalled 14 = .ok (.iload_n 2, 1) := by decide +kernel
theorem dX4_isCalled_15 : decode cX4_isCalled 15 = .ok (.aaload, 1) := by decide +kernel
theorem dX4_isCalled_16 : decode cX4_isCalled 16 = .ok (.iconst 2, 1) := by decide +kernel
theorem dX4_isCalled_17 : decode cX4_isCalled 17 = .ok (.iaload, 1) := by decide +kernel
theorem dX4_isCalled_18 : decode cX4_isCalled 18 = .ok (.iload_n 1, 1) := by decide +kernel
theorem dX4_isCalled_19 : decode cX4_isCalled 19 = .ok (.if_icmp .ne 13, 3) := by decide +kernel
theorem dX4_isCalled_32 : decode cX4_isCalled 32 = .ok (.iinc 2 1, 3) := by decide +kernel
theorem dX4_isCalled_35 : decode cX4_isCalled 35 = .ok (.goto (-33), 3) := by decide +kernel
theorem dX4_isCalled_22 : decode cX4_isCalled 22 = .ok (.aload_n 0, 1) := by decide +kernel
theorem dX4_isCalled_23 : decode cX4_isCalled 23 = .ok (.iload_n 2, 1) := by decide +kernel
theorem dX4_isCalled_24 : decode cX4_isCalled 24 = .ok (.invokevirtual 116, 3) := by decide +kernel
theorem dX4_isCalled_27 : decode cX4_isCalled 27 = .ok (.ifCond .eq 5, 3) := by decide +kernel
theorem dX4_isCalled_30 : decode cX4_isCalled 30 = .ok (.iconst 1, 1) := by decide +kernel
theorem dX4_isCalled_31 : decode cX4_isCalled 31 = .ok (.ireturn, 1) := by decide +kernel
theorem dX4_isCalled_38 : decode cX4_isCalled 38 = .ok (.iconst 0, 1) := by decide +kernel
theorem dX4_isCalled_39 : decode cX4_isCalled 39 = .ok (.ireturn, 1) := by decide +kernel
theorem dX4_isSurelyCalled_0 : decode cX4_isSurelyCalled 0 = .ok (.iconst 0, 1) := by decide +kernel
theorem dX4_isSurelyCalled_1 : decode cX4_isSurelyCalled 1 = .ok (.istore_n 2, 1) := by decide +kernel
theorem dX4_isSurelyCalled_2 : decode cX4_isSurelyCalled 2 = .ok (.iload_n 2, 1) := by decide +kernel
theorem dX4_isSurelyCalled_3 : decode cX4_isSurelyCalled 3 = .ok (.aload_n 0, 1) := by decide +kernel
theorem dX4_isSurelyCalled_4 : decode cX4_isSurelyCalled 4 = .ok (.getfield 80, 3) := by decide +kernel
theorem dX4_isSurelyCalled_7 : decode cX4_isSurelyCalled 7 = .ok (.if_icmp .ge 85, 3) := by decide +kernel
theorem dX4_isSurelyCalled_10 : decode cX4_isSurelyCalled 10 = .ok (.aload_n 0, 1) := by decide +kernel
theorem dX4_isSurelyCalled_11 : decode cX4_isSurelyCalled 11 = .ok (.getfield 53, 3) := by decide +kernel
theorem dX4_isSurelyCalled_14 : decode cX4_isSurelyCalled 14 = .ok (.aload_n 0, 1) := by decide +kernel
theorem dX4_isSurelyCalled_15 : decode cX4_isSurelyCalled 15 = .ok (.getfield 32, 3) := by decide +kernel
theorem dX4_isSurelyCalled_18 : decode cX4_isSurelyCalled 18 = .ok (.iload_n 2, 1) := by decide +kernel
theorem dX4_isSurelyCalled_19 : decode cX4_isSurelyCalled 19 = .ok (.aaload, 1) := by decide +kernel
theorem dX4_isSurelyCalled_20 : decode cX4_isSurelyCalled 20 = .ok (.iconst 0, 1) := by decide +kernel
theorem dX4_isSurelyCalled_21 : decode cX4_isSurelyCalled 21 = .ok (.iaload, 1) := by decide +kernel
theorem dX4_isSurelyCalled_22 : decode cX4_isSurelyCalled 22 = .ok (.baload, 1) := by decide +kernel
theorem dX4_isSurelyCalled_23 : decode cX4_isSurelyCalled 23 = .ok (.ifCond .ne 31, 3) := by decide +kernel
theorem dX4_isSurelyCalled_54 : decode cX4_isSurelyCalled 54 = .ok (.iconst 1, 1) := by decide +kernel
theorem dX4_isSurelyCalled_55 : decode cX4_isSurelyCalled 55 = .ok (.goto 4, 3) := by decide +kernel
theorem dX4_isSurelyCalled_59 : decode cX4_isSurelyCalled 59 = .ok (.istore_n 3, 1) := by decide +kernel
theorem dX4_isSurelyCalled_60 : decode cX4_isSurelyCalled 60 = .ok (.aload_n 0, 1) := by decide +kernel
theorem dX4_isSurelyCalled_61 : decode cX4_isSurelyCalled 61 = .ok (.getfield 32, 3) := by decide +kernel
theorem dX4_isSurelyCalled_64 : decode cX4_isSurelyCalled 64 = .ok (.iload_n 2, 1) := by decide +kernel
theorem dX4_isSurelyCalled_65 : decode cX4_isSurelyCalled 65 = .ok (.aaload, 1) := by decide +kernel
theorem dX4_isSurelyCalled_66 : decode cX4_isSurelyCalled 66 = .ok (.iconst 2, 1) := by decide +kernel
theorem dX4_isSurelyCalled_67 : decode cX4_isSurelyCalled 67 = .ok (.iaload, 1) := by decide +kernel
theorem dX4_isSurelyCalled_68 : decode cX4_isSurelyCalled 68 = .ok (.iload_n 1, 1) := by decide +kernel
theorem dX4_isSurelyCalled_69 : decode cX4_isSurelyCalled 69 = .ok (.if_icmp .ne 17, 3) := by decide +kernel
theorem dX4_isSurelyCalled_86 : decode cX4_isSurelyCalled 86 = .ok (.iinc 2 1, 3) := by decide +kernel
theorem dX4_isSurelyCalled_89 : decode cX4_isSurelyCalled 89 = .ok (.goto (-87), 3) := by decide +kernel
theorem dX4_isSurelyCalled_72 : decode cX4_isSurelyCalled 72 = .ok (.aload_n 0, 1) := by decide +kernel
theorem dX4_isSurelyCalled_73 : decode cX4_isSurelyCalled 73 = .ok (.iload_n 2, 1) := by decide +kernel
theorem dX4_isSurelyCalled_74 : decode cX4_isSurelyCalled 74 = .ok (.invokevirtual 116, 3) := by decide +kernel
theorem dX4_isSurelyCalled_77 : decode cX4_isSurelyCalled 77 = .ok (.ifCond .eq 9, 3) := by decide +kernel
theorem dX4_isSurelyCalled_80 : decode cX4_isSurelyCalled 80 = .ok (.iload_n 3, 1) := by decide +kernel
theorem dX4_isSurelyCalled_81 : decode cX4_isSurelyCalled 81 = .ok (.ifCond .eq 5, 3) := by decide +kernel
theorem dX4_isSurelyCalled_84 : decode cX4_isSurelyCalled 84 = .ok (.iconst 1, 1) := by decide +kernel
theorem dX4_isSurelyCalled_85 : decode cX4_isSurelyCalled 85 = .ok (.ireturn, 1) := by decide +kernel
theorem dX4_isSurelyCalled_26 : decode cX4_isSurelyCalled 26 = .ok (.aload_n 0, 1) := by decide +kernel
theorem dX4_isSurelyCalled_27 : decode cX4_isSurelyCalled 27 = .ok (.getfield 32, 3) := by decide +kernel
theorem dX4_isSurelyCalled_30 : decode cX4_isSurelyCalled 30 = .ok (.iload_n 2, 1) := by decide +kernel
theorem dX4_isSurelyCalled_31 : decode cX4_isSurelyCalled 31 = .ok (.aaload, 1) := by decide +kernel
theorem dX4_isSurelyCalled_32 : decode cX4_isSurelyCalled 32 = .ok (.iconst 1, 1) := by decide +kernel
theorem dX4_isSurelyCalled_33 : decode cX4_isSurelyCalled 33 = .ok (.iaload, 1) := by decide +kernel
theorem dX4_isSurelyCalled_34 : decode cX4_isSurelyCalled 34 = .ok (.iconst (-1), 1) := by decide +kernel
theorem dX4_isSurelyCalled_35 : decode cX4_isSurelyCalled 35 = .ok (.if_icmp .eq 23, 3) := by decide +kernel
theorem dX4_isSurelyCalled_58 : decode cX4_isSurelyCalled 58 = .ok (.iconst 0, 1) := by decide +kernel
theorem dX4_isSurelyCalled_38 : decode cX4_isSurelyCalled 38 = .ok (.aload_n 0, 1) := by decide +kernel
theorem dX4_isSurelyCalled_39 : decode cX4_isSurelyCalled 39 = .ok (.getfield 53, 3) := by decide +kernel
theorem dX4_isSurelyCalled_42 : decode cX4_isSurelyCalled 42 = .ok (.aload_n 0, 1) := by decide +kernel
theorem dX4_isSurelyCalled_43 : decode cX4_isSurelyCalled 43 = .ok (.getfield 32, 3) := by decide +kernel
theorem dX4_isSurelyCalled_46 : decode cX4_isSurelyCalled 46 = .ok (.iload_n 2, 1) := by decide +kernel
theorem dX4_isSurelyCalled_47 : decode cX4_isSurelyCalled 47 = .ok (.aaload, 1) := by decide +kernel
theorem dX4_isSurelyCalled_48 : decode cX4_isSurelyCalled 48 = .ok (.iconst 1, 1) := by decide +kernel
theorem dX4_isSurelyCalled_49 : decode cX4_isSurelyCalled 49 = .ok (.iaload, 1) := by decide +kernel
theorem dX4_isSurelyCalled_50 : decode cX4_isSurelyCalled 50 = .ok (.baload, 1) := by decide +kernel
theorem dX4_isSurelyCalled_51 : decode cX4_isSurelyCalled 51 = .ok (.ifCond .eq 7, 3) := by decide +kernel
theorem dX4_isSurelyCalled_92 : decode cX4_isSurelyCalled 92 = .ok (.iconst 0, 1) := by decide +kernel
theorem dX4_isSurelyCalled_93 : decode cX4_isSurelyCalled 93 = .ok (.ireturn, 1) := by decide +kernel
theorem dX4_setDone_0 : decode cX4_setDone 0 = .ok (.aload_n 0, 1) := by decide +kernel
theorem dX4_setDone_1 : decode cX4_setDone 1 = .ok (.getfield 38, 3) := by decide +kernel
theorem dX4_setDone_4 : decode cX4_setDone 4 = .ok (.iload_n 1, 1) := by decide +kernel
theorem dX4_setDone_5 : decode cX4_setDone 5 = .ok (.iload_n 2, 1) := by decide +kernel
theorem dX4_setDone_6 : decode cX4_setDone 6 = .ok (.ifCond .eq 7, 3) := by decide +kernel
theorem dX4_setDone_13 : decode cX4_setDone 13 = .ok (.iconst 0, 1) := by decide +kernel
theorem dX4_setDone_14 : decode cX4_setDone 14 = .ok (.iastore, 1) := by decide +kernel
theorem dX4_setDone_15 : decode cX4_setDone 15 = .ok (.aload_n 0, 1) := by decide +kernel
theorem dX4_setDone_16 : decode cX4_setDone 16 = .ok (.getfield 56, 3) := by decide +kernel
theorem dX4_setDone_19 : decode cX4_setDone 19 = .ok (.aload_n 0, 1) := by decide +kernel
theorem dX4_setDone_20 : decode cX4_setDone 20 = .ok (.getfield 143, 3) := by decide +kernel
theorem dX4_setDone_23 : decode cX4_setDone 23 = .ok (.bipush 60, 2) := by decide +kernel
theorem dX4_setDone_25 : decode cX4_setDone 25 = .ok (.irem, 1) := by decide +kernel
theorem dX4_setDone_26 : decode cX4_setDone 26 = .ok (.aaload, 1) := by decide +kernel
theorem dX4_setDone_27 : decode cX4_setDone 27 = .ok (.astore 4, 2) := by decide +kernel
theorem dX4_setDone_29 : decode cX4_setDone 29 = .ok (.aload 4, 2) := by decide +kernel
theorem dX4_setDone_31 : decode cX4_setDone 31 = .ok (.iconst 0, 1) := by decide +kernel
theorem dX4_setDone_32 : decode cX4_setDone 32 = .ok (.iload_n 3, 1) := by decide +kernel
theorem dX4_setDone_33 : decode cX4_setDone 33 = .ok (.iastore, 1) := by decide +kernel
theorem dX4_setDone_34 : decode cX4_setDone 34 = .ok (.aload 4, 2) := by decide +kernel
theorem dX4_setDone_36 : decode cX4_setDone 36 = .ok (.iconst 1, 1) := by decide +kernel
theorem dX4_setDone_37 : decode cX4_setDone 37 = .ok (.iload_n 1, 1) := by decide +kernel
theorem dX4_setDone_38 : decode cX4_setDone 38 = .ok (.iastore, 1) := by decide +kernel
theorem dX4_setDone_39 : decode cX4_setDone 39 = .ok (.aload 4, 2) := by decide +kernel
theorem dX4_setDone_41 : decode cX4_setDone 41 = .ok (.iconst 2, 1) := by decide +kernel
theorem dX4_setDone_42 : decode cX4_setDone 42 = .ok (.iload_n 2, 1) := by decide +kernel
theorem dX4_setDone_43 : decode cX4_setDone 43 = .ok (.ifCond .eq 7, 3) := by decide +kernel
theorem dX4_setDone_50 : decode cX4_setDone 50 = .ok (.iconst 0, 1) := by decide +kernel
theorem dX4_setDone_51 : decode cX4_setDone 51 = .ok (.iastore, 1) := by decide +kernel
theorem dX4_setDone_52 : decode cX4_setDone 52 = .ok (.aload_n 0, 1) := by decide +kernel
theorem dX4_setDone_53 : decode cX4_setDone 53 = .ok (.dup, 1) := by decide +kernel
theorem dX4_setDone_54 : decode cX4_setDone 54 = .ok (.getfield 143, 3) := by decide +kernel
theorem dX4_setDone_57 : decode cX4_setDone 57 = .ok (.iconst 1, 1) := by decide +kernel
theorem dX4_setDone_58 : decode cX4_setDone 58 = .ok (.iadd, 1) := by decide +kernel
theorem dX4_setDone_59 : decode cX4_setDone 59 = .ok (.putfield 143, 3) := by decide +kernel
theorem dX4_setDone_62 : decode cX4_setDone 62 = .ok (.aload_n 0, 1) := by decide +kernel
theorem dX4_setDone_63 : decode cX4_setDone 63 = .ok (.getfield 29, 3) := by decide +kernel
theorem dX4_setDone_66 : decode cX4_setDone 66 = .ok (.iload_n 1, 1) := by decide +kernel
theorem dX4_setDone_67 : decode cX4_setDone 67 = .ok (.aaload, 1) := by decide +kernel
theorem dX4_setDone_68 : decode cX4_setDone 68 = .ok (.iconst 1, 1) := by decide +kernel
theorem dX4_setDone_69 : decode cX4_setDone 69 = .ok (.iaload, 1) := by decide +kernel
theorem dX4_setDone_70 : decode cX4_setDone 70 = .ok (.iconst 2, 1) := by decide +kernel
theorem dX4_setDone_71 : decode cX4_setDone 71 = .ok (.if_icmp .ne 33, 3) := by decide +kernel
theorem dX4_setDone_104 : decode cX4_setDone 104 = .ok (.aload_n 0, 1) := by decide +kernel
theorem dX4_setDone_105 : decode cX4_setDone 105 = .ok (.getfield 29, 3) := by decide +kernel
theorem dX4_setDone_108 : decode cX4_setDone 108 = .ok (.iload_n 1, 1) := by decide +kernel
theorem dX4_setDone_109 : decode cX4_setDone 109 = .ok (.aaload, 1) := by decide +kernel
theorem dX4_setDone_110 : decode cX4_setDone 110 = .ok (.iconst 1, 1) := by decide +kernel
theorem dX4_setDone_111 : decode cX4_setDone 111 = .ok (.iaload, 1) := by decide +kernel
theorem dX4_setDone_112 : decode cX4_setDone 112 = .ok (.iconst 3, 1) := by decide +kernel
theorem dX4_setDone_113 : decode cX4_setDone 113 = .ok (.if_icmp .ne 21, 3) := by decide +kernel
theorem dX4_setDone_134 : decode cX4_setDone 134 = .ok (.return_, 1) := by decide +kernel
theorem dX4_setDone_116 : decode cX4_setDone 116 = .ok (.aload_n 0, 1) := by decide +kernel
theorem dX4_setDone_117 : decode cX4_setDone 117 = .ok (.getfield 59, 3) := by decide +kernel
theorem dX4_setDone_120 : decode cX4_setDone 120 = .ok (.getfield 155, 3) := by decide +kernel
theorem dX4_setDone_123 : decode cX4_setDone 123 = .ok (.iconst 4, 1) := by decide +kernel
theorem dX4_setDone_124 : decode cX4_setDone 124 = .ok (.iload_n 1, 1) := by decide +kernel
theorem dX4_setDone_125 : decode cX4_setDone 125 = .ok (.bipush 6, 2) := by decide +kernel
theorem dX4_setDone_127 : decode cX4_setDone 127 = .ok (.irem, 1) := by decide +kernel
theorem dX4_setDone_128 : decode cX4_setDone 128 = .ok (.iadd, 1) := by decide +kernel
theorem dX4_setDone_129 : decode cX4_setDone 129 = .ok (.aload 4, 2) := by decide +kernel
theorem dX4_setDone_131 : decode cX4_setDone 131 = .ok (.iconst 2, 1) := by decide +kernel
theorem dX4_setDone_132 : decode cX4_setDone 132 = .ok (.iaload, 1) := by decide +kernel
theorem dX4_setDone_133 : decode cX4_setDone 133 = .ok (.iastore, 1) := by decide +kernel
theorem dX4_setDone_74 : decode cX4_setDone 74 = .ok (.aload_n 0, 1) := by decide +kernel
theorem dX4_setDone_75 : decode cX4_setDone 75 = .ok (.getfield 63, 3) := by decide +kernel
theorem dX4_setDone_78 : decode cX4_setDone 78 = .ok (.bipush 7, 2) := by decide +kernel
theorem dX4_setDone_80 : decode cX4_setDone 80 = .ok (.invokevirtual 146, 3) := by decide +kernel
theorem dX4_setDone_83 : decode cX4_setDone 83 = .ok (.ifCond .eq 21, 3) := by decide +kernel
theorem dX4_setDone_86 : decode cX4_setDone 86 = .ok (.aload_n 0, 1) := by decide +kernel
theorem dX4_setDone_87 : decode cX4_setDone 87 = .ok (.getfield 63, 3) := by decide +kernel
theorem dX4_setDone_90 : decode cX4_setDone 90 = .ok (.bipush 7, 2) := by decide +kernel
theorem dX4_setDone_92 : decode cX4_setDone 92 = .ok (.iconst 0, 1) := by decide +kernel
theorem dX4_setDone_93 : decode cX4_setDone 93 = .ok (.iload_n 1, 1) := by decide +kernel
theorem dX4_setDone_94 : decode cX4_setDone 94 = .ok (.iconst 1, 1) := by decide +kernel
theorem dX4_setDone_95 : decode cX4_setDone 95 = .ok (.iconst 2, 1) := by decide +kernel
theorem dX4_setDone_96 : decode cX4_setDone 96 = .ok (.aload 4, 2) := by decide +kernel
theorem dX4_setDone_98 : decode cX4_setDone 98 = .ok (.iconst 2, 1) := by decide +kernel
theorem dX4_setDone_99 : decode cX4_setDone 99 = .ok (.iaload, 1) := by decide +kernel
theorem dX4_setDone_100 : decode cX4_setDone 100 = .ok (.invokevirtual 151, 3) := by decide +kernel
theorem dX4_setDone_103 : decode cX4_setDone 103 = .ok (.pop, 1) := by decide +kernel
theorem dX4_setDone_46 : decode cX4_setDone 46 = .ok (.iconst 1, 1) := by decide +kernel
theorem dX4_setDone_47 : decode cX4_setDone 47 = .ok (.goto 4, 3) := by decide +kernel
theorem dX4_setDone_9 : decode cX4_setDone 9 = .ok (.iconst 2, 1) := by decide +kernel
theorem dX4_setDone_10 : decode cX4_setDone 10 = .ok (.goto 4, 3) := by decide +kernel
theorem dX4_isDue_0 : decode cX4_isDue 0 = .ok (.aload_n 0, 1) := by decide +kernel
theorem dX4_isDue_1 : decode cX4_isDue 1 = .ok (.getfield 47, 3) := by decide +kernel
theorem dX4_isDue_4 : decode cX4_isDue 4 = .ok (.iload_n 1, 1) := by decide +kernel
theorem dX4_isDue_5 : decode cX4_isDue 5 = .ok (.baload, 1) := by decide +kernel
theorem dX4_isDue_6 : decode cX4_isDue 6 = .ok (.ifCond .ne 30, 3) := by decide +kernel
theorem dX4_isDue_36 : decode cX4_isDue 36 = .ok (.iconst 1, 1) := by decide +kernel
theorem dX4_isDue_37 : decode cX4_isDue 37 = .ok (.goto 4, 3) := by decide +kernel
theorem dX4_isDue_41 : decode cX4_isDue 41 = .ok (.ireturn, 1) := by decide +kernel
theorem dX4_isDue_9 : decode cX4_isDue 9 = .ok (.iload_n 2, 1) := by decide +kernel
theorem dX4_isDue_10 : decode cX4_isDue 10 = .ok (.aload_n 0, 1) := by decide +kernel
theorem dX4_isDue_11 : decode cX4_isDue 11 = .ok (.getfield 41, 3) := by decide +kernel
theorem dX4_isDue_14 : decode cX4_isDue 14 = .ok (.iload_n 1, 1) := by decide +kernel
theorem dX4_isDue_15 : decode cX4_isDue 15 = .ok (.iaload, 1) := by decide +kernel
theorem dX4_isDue_16 : decode cX4_isDue 16 = .ok (.aload_n 0, 1) := by decide +kernel
theorem dX4_isDue_17 : decode cX4_isDue 17 = .ok (.getfield 29, 3) := by decide +kernel
theorem dX4_isDue_20 : decode cX4_isDue 20 = .ok (.iload_n 1, 1) := by decide +kernel
theorem dX4_isDue_21 : decode cX4_isDue 21 = .ok (.aaload, 1) := by decide +kernel
theorem dX4_isDue_22 : decode cX4_isDue 22 = .ok (.iconst 3, 1) := by decide +kernel
theorem dX4_isDue_23 : decode cX4_isDue 23 = .ok (.iaload, 1) := by decide +kernel
theorem dX4_isDue_24 : decode cX4_isDue 24 = .ok (.iadd, 1) := by decide +kernel
theorem dX4_isDue_25 : decode cX4_isDue 25 = .ok (.if_icmp .ge 11, 3) := by decide +kernel
theorem dX4_isDue_28 : decode cX4_isDue 28 = .ok (.aload_n 0, 1) := by decide +kernel
theorem dX4_isDue_29 : decode cX4_isDue 29 = .ok (.iload_n 1, 1) := by decide +kernel
theorem dX4_isDue_30 : decode cX4_isDue 30 = .ok (.invokevirtual 140, 3) := by decide +kernel
theorem dX4_isDue_33 : decode cX4_isDue 33 = .ok (.ifCond .eq 7, 3) := by decide +kernel
theorem dX4_isDue_40 : decode cX4_isDue 40 = .ok (.iconst 0, 1) := by decide +kernel
theorem dX4_runAct_0 : decode cX4_runAct 0 = .ok (.aload_n 0, 1) := by decide +kernel
theorem dX4_runAct_1 : decode cX4_runAct 1 = .ok (.iload_n 1, 1) := by decide +kernel
theorem dX4_runAct_2 : decode cX4_runAct 2 = .ok (.invokevirtual 130, 3) := by decide +kernel
theorem dX4_runAct_5 : decode cX4_runAct 5 = .ok (.istore_n 3, 1) := by decide +kernel
theorem dX4_runAct_6 : decode cX4_runAct 6 = .ok (.aload_n 0, 1) := by decide +kernel
theorem dX4_runAct_7 : decode cX4_runAct 7 = .ok (.getfield 38, 3) := by decide +kernel
theorem dX4_runAct_10 : decode cX4_runAct 10 = .ok (.iload_n 1, 1) := by decide +kernel
theorem dX4_runAct_11 : decode cX4_runAct 11 = .ok (.iaload, 1) := by decide +kernel
theorem dX4_runAct_12 : decode cX4_runAct 12 = .ok (.ifCond .ne 38, 3) := by decide +kernel
theorem dX4_runAct_50 : decode cX4_runAct 50 = .ok (.aload_n 0, 1) := by decide +kernel
theorem dX4_runAct_51 : decode cX4_runAct 51 = .ok (.getfield 38, 3) := by decide +kernel
theorem dX4_runAct_54 : decode cX4_runAct 54 = .ok (.iload_n 1, 1) := by decide +kernel
theorem dX4_runAct_55 : decode cX4_runAct 55 = .ok (.iaload, 1) := by decide +kernel
theorem dX4_runAct_56 : decode cX4_runAct 56 = .ok (.iconst 1, 1) := by decide +kernel
theorem dX4_runAct_57 : decode cX4_runAct 57 = .ok (.if_icmp .ne 17, 3) := by decide +kernel
theorem dX4_runAct_74 : decode cX4_runAct 74 = .ok (.aload_n 0, 1) := by decide +kernel
theorem dX4_runAct_75 : decode cX4_runAct 75 = .ok (.getfield 38, 3) := by decide +kernel
theorem dX4_runAct_78 : decode cX4_runAct 78 = .ok (.iload_n 1, 1) := by decide +kernel
theorem dX4_runAct_79 : decode cX4_runAct 79 = .ok (.iaload, 1) := by decide +kernel
theorem dX4_runAct_80 : decode cX4_runAct 80 = .ok (.iconst 2, 1) := by decide +kernel
theorem dX4_runAct_81 : decode cX4_runAct 81 = .ok (.if_icmp .ne 25, 3) := by decide +kernel
theorem dX4_runAct_106 : decode cX4_runAct 106 = .ok (.aload_n 0, 1) := by decide +kernel
theorem dX4_runAct_107 : decode cX4_runAct 107 = .ok (.getfield 38, 3) := by decide +kernel
theorem dX4_runAct_110 : decode cX4_runAct 110 = .ok (.iload_n 1, 1) := by decide +kernel
theorem dX4_runAct_111 : decode cX4_runAct 111 = .ok (.iaload, 1) := by decide +kernel
theorem dX4_runAct_112 : decode cX4_runAct 112 = .ok (.iconst 1, 1) := by decide +kernel
theorem dX4_runAct_113 : decode cX4_runAct 113 = .ok (.if_icmp .ne 19, 3) := by decide +kernel
theorem dX4_runAct_132 : decode cX4_runAct 132 = .ok (.return_, 1) := by decide +kernel
theorem dX4_runAct_116 : decode cX4_runAct 116 = .ok (.aload_n 0, 1) := by decide +kernel
theorem dX4_runAct_117 : decode cX4_runAct 117 = .ok (.iload_n 1, 1) := by decide +kernel
theorem dX4_runAct_118 : decode cX4_runAct 118 = .ok (.iload_n 2, 1) := by decide +kernel
theorem dX4_runAct_119 : decode cX4_runAct 119 = .ok (.invokevirtual 137, 3) := by decide +kernel
theorem dX4_runAct_122 : decode cX4_runAct 122 = .ok (.ifCond .eq 10, 3) := by decide +kernel
theorem dX4_runAct_125 : decode cX4_runAct 125 = .ok (.aload_n 0, 1) := by decide +kernel
theorem dX4_runAct_126 : decode cX4_runAct 126 = .ok (.iload_n 1, 1) := by decide +kernel
theorem dX4_runAct_127 : decode cX4_runAct 127 = .ok (.iconst 1, 1) := by decide +kernel
theorem dX4_runAct_128 : decode cX4_runAct 128 = .ok (.iload_n 2, 1) := by decide +kernel
theorem dX4_runAct_129 : decode cX4_runAct 129 = .ok (.invokevirtual 133, 3) := by decide +kernel
theorem dX4_runAct_84 : decode cX4_runAct 84 = .ok (.iload_n 3, 1) := by decide +kernel
theorem dX4_runAct_85 : decode cX4_runAct 85 = .ok (.ifCond .ne 21, 3) := by decide +kernel
theorem dX4_runAct_88 : decode cX4_runAct 88 = .ok (.aload_n 0, 1) := by decide +kernel
theorem dX4_runAct_89 : decode cX4_runAct 89 = .ok (.getfield 29, 3) := by decide +kernel
theorem dX4_runAct_92 : decode cX4_runAct 92 = .ok (.iload_n 1, 1) := by decide +kernel
theorem dX4_runAct_93 : decode cX4_runAct 93 = .ok (.aaload, 1) := by decide +kernel
theorem dX4_runAct_94 : decode cX4_runAct 94 = .ok (.iconst 4, 1) := by decide +kernel
theorem dX4_runAct_95 : decode cX4_runAct 95 = .ok (.iaload, 1) := by decide +kernel
theorem dX4_runAct_96 : decode cX4_runAct 96 = .ok (.ifCond .ne 10, 3) := by decide +kernel
theorem dX4_runAct_99 : decode cX4_runAct 99 = .ok (.aload_n 0, 1) := by decide +kernel
theorem dX4_runAct_100 : decode cX4_runAct 100 = .ok (.iload_n 1, 1) := by decide +kernel
theorem dX4_runAct_101 : decode cX4_runAct 101 = .ok (.iconst 0, 1) := by decide +kernel
theorem dX4_runAct_102 : decode cX4_runAct 102 = .ok (.iload_n 2, 1) := by decide +kernel
theorem dX4_runAct_103 : decode cX4_runAct 103 = .ok (.invokevirtual 133, 3) := by decide +kernel
theorem dX4_runAct_60 : decode cX4_runAct 60 = .ok (.iload_n 3, 1) := by decide +kernel
theorem dX4_runAct_61 : decode cX4_runAct 61 = .ok (.ifCond .ne 13, 3) := by decide +kernel
theorem dX4_runAct_64 : decode cX4_runAct 64 = .ok (.aload_n 0, 1) := by decide +kernel
theorem dX4_runAct_65 : decode cX4_runAct 65 = .ok (.getfield 38, 3) := by decide +kernel
theorem dX4_runAct_68 : decode cX4_runAct 68 = .ok (.iload_n 1, 1) := by decide +kernel
theorem dX4_runAct_69 : decode cX4_runAct 69 = .ok (.iconst 0, 1) := by decide +kernel
theorem dX4_runAct_70 : decode cX4_runAct 70 = .ok (.iastore, 1) := by decide +kernel
theorem dX4_runAct_71 : decode cX4_runAct 71 = .ok (.goto 35, 3) := by decide +kernel
theorem dX4_runAct_15 : decode cX4_runAct 15 = .ok (.iload_n 3, 1) := by decide +kernel
theorem dX4_runAct_16 : decode cX4_runAct 16 = .ok (.ifCond .eq 34, 3) := by decide +kernel
theorem dX4_runAct_19 : decode cX4_runAct 19 = .ok (.aload_n 0, 1) := by decide +kernel
theorem dX4_runAct_20 : decode cX4_runAct 20 = .ok (.getfield 38, 3) := by decide +kernel
theorem dX4_runAct_23 : decode cX4_runAct 23 = .ok (.iload_n 1, 1) := by decide +kernel
theorem dX4_runAct_24 : decode cX4_runAct 24 = .ok (.iconst 1, 1) := by decide +kernel
theorem dX4_runAct_25 : decode cX4_runAct 25 = .ok (.iastore, 1) := by decide +kernel
theorem dX4_runAct_26 : decode cX4_runAct 26 = .ok (.aload_n 0, 1) := by decide +kernel
theorem dX4_runAct_27 : decode cX4_runAct 27 = .ok (.getfield 41, 3) := by decide +kernel
theorem dX4_runAct_30 : decode cX4_runAct 30 = .ok (.iload_n 1, 1) := by decide +kernel
theorem dX4_runAct_31 : decode cX4_runAct 31 = .ok (.iload_n 2, 1) := by decide +kernel
theorem dX4_runAct_32 : decode cX4_runAct 32 = .ok (.iastore, 1) := by decide +kernel
theorem dX4_runAct_33 : decode cX4_runAct 33 = .ok (.aload_n 0, 1) := by decide +kernel
theorem dX4_runAct_34 : decode cX4_runAct 34 = .ok (.getfield 44, 3) := by decide +kernel
theorem dX4_runAct_37 : decode cX4_runAct 37 = .ok (.iload_n 1, 1) := by decide +kernel
theorem dX4_runAct_38 : decode cX4_runAct 38 = .ok (.iconst 0, 1) := by decide +kernel
theorem dX4_runAct_39 : decode cX4_runAct 39 = .ok (.bastore, 1) := by decide +kernel
theorem dX4_runAct_40 : decode cX4_runAct 40 = .ok (.aload_n 0, 1) := by decide +kernel
theorem dX4_runAct_41 : decode cX4_runAct 41 = .ok (.getfield 47, 3) := by decide +kernel
theorem dX4_runAct_44 : decode cX4_runAct 44 = .ok (.iload_n 1, 1) := by decide +kernel
theorem dX4_runAct_45 : decode cX4_runAct 45 = .ok (.iconst 0, 1) := by decide +kernel
theorem dX4_runAct_46 : decode cX4_runAct 46 = .ok (.bastore, 1) := by decide +kernel
theorem dX4_runAct_47 : decode cX4_runAct 47 = .ok (.goto 59, 3) := by decide +kernel
theorem dX4_runActs_0 : decode cX4_runActs 0 = .ok (.aload_n 0, 1) := by decide +kernel
theorem dX4_runActs_1 : decode cX4_runActs 1 = .ok (.iload_n 1, 1) := by decide +kernel
theorem dX4_runActs_2 : decode cX4_runActs 2 = .ok (.invokevirtual 119, 3) := by decide +kernel
theorem dX4_runActs_5 : decode cX4_runActs 5 = .ok (.iconst 0, 1) := by decide +kernel
theorem dX4_runActs_6 : decode cX4_runActs 6 = .ok (.istore_n 2, 1) := by decide +kernel
theorem dX4_runActs_7 : decode cX4_runActs 7 = .ok (.iload_n 2, 1) := by decide +kernel
theorem dX4_runActs_8 : decode cX4_runActs 8 = .ok (.aload_n 0, 1) := by decide +kernel
theorem dX4_runActs_9 : decode cX4_runActs 9 = .ok (.getfield 35, 3) := by decide +kernel
theorem dX4_runActs_12 : decode cX4_runActs 12 = .ok (.arraylength, 1) := by decide +kernel
theorem dX4_runActs_13 : decode cX4_runActs 13 = .ok (.if_icmp .ge 33, 3) := by decide +kernel
theorem dX4_runActs_16 : decode cX4_runActs 16 = .ok (.aload_n 0, 1) := by decide +kernel
theorem dX4_runActs_17 : decode cX4_runActs 17 = .ok (.aload_n 0, 1) := by decide +kernel
theorem dX4_runActs_18 : decode cX4_runActs 18 = .ok (.getfield 35, 3) := by decide +kernel
theorem dX4_runActs_21 : decode cX4_runActs 21 = .ok (.iload_n 2, 1) := by decide +kernel
theorem dX4_runActs_22 : decode cX4_runActs 22 = .ok (.iaload, 1) := by decide +kernel
theorem dX4_runActs_23 : decode cX4_runActs 23 = .ok (.invokevirtual 123, 3) := by decide +kernel
theorem dX4_runActs_26 : decode cX4_runActs 26 = .ok (.ifCond .eq 14, 3) := by decide +kernel
theorem dX4_runActs_40 : decode cX4_runActs 40 = .ok (.iinc 2 1, 3) := by decide +kernel
theorem dX4_runActs_43 : decode cX4_runActs 43 = .ok (.goto (-36), 3) := by decide +kernel
theorem dX4_runActs_29 : decode cX4_runActs 29 = .ok (.aload_n 0, 1) := by decide +kernel
theorem dX4_runActs_30 : decode cX4_runActs 30 = .ok (.aload_n 0, 1) := by decide +kernel
theorem dX4_runActs_31 : decode cX4_runActs 31 = .ok (.getfield 35, 3) := by decide +kernel
theorem dX4_runActs_34 : decode cX4_runActs 34 = .ok (.iload_n 2, 1) := by decide +kernel
theorem dX4_runActs_35 : decode cX4_runActs 35 = .ok (.iaload, 1) := by decide +kernel
theorem dX4_runActs_36 : decode cX4_runActs 36 = .ok (.iload_n 1, 1) := by decide +kernel
theorem dX4_runActs_37 : decode cX4_runActs 37 = .ok (.invokevirtual 126, 3) := by decide +kernel
theorem dX4_runActs_46 : decode cX4_runActs 46 = .ok (.return_, 1) := by decide +kernel
theorem dX4_lookAtActs_0 : decode cX4_lookAtActs 0 = .ok (.iconst 0, 1) := by decide +kernel
theorem dX4_lookAtActs_1 : decode cX4_lookAtActs 1 = .ok (.istore_n 2, 1) := by decide +kernel
theorem dX4_lookAtActs_2 : decode cX4_lookAtActs 2 = .ok (.iconst 0, 1) := by decide +kernel
theorem dX4_lookAtActs_3 : decode cX4_lookAtActs 3 = .ok (.istore_n 3, 1) := by decide +kernel
theorem dX4_lookAtActs_4 : decode cX4_lookAtActs 4 = .ok (.iload_n 3, 1) := by decide +kernel
theorem dX4_lookAtActs_5 : decode cX4_lookAtActs 5 = .ok (.aload_n 0, 1) := by decide +kernel
theorem dX4_lookAtActs_6 : decode cX4_lookAtActs 6 = .ok (.getfield 38, 3) := by decide +kernel
theorem dX4_lookAtActs_9 : decode cX4_lookAtActs 9 = .ok (.arraylength, 1) := by decide +kernel
theorem dX4_lookAtActs_10 : decode cX4_lookAtActs 10 = .ok (.if_icmp .ge 45, 3) := by decide +kernel
theorem dX4_lookAtActs_13 : decode cX4_lookAtActs 13 = .ok (.aload_n 0, 1) := by decide +kernel
theorem dX4_lookAtActs_14 : decode cX4_lookAtActs 14 = .ok (.getfield 38, 3) := by decide +kernel
theorem dX4_lookAtActs_17 : decode cX4_lookAtActs 17 = .ok (.iload_n 3, 1) := by decide +kernel
theorem dX4_lookAtActs_18 : decode cX4_lookAtActs 18 = .ok (.iaload, 1) := by decide +kernel
theorem dX4_lookAtActs_19 : decode cX4_lookAtActs 19 = .ok (.iconst 1, 1) := by decide +kernel
theorem dX4_lookAtActs_20 : decode cX4_lookAtActs 20 = .ok (.if_icmp .ne 29, 3) := by decide +kernel
theorem dX4_lookAtActs_49 : decode cX4_lookAtActs 49 = .ok (.iinc 3 1, 3) := by decide +kernel
theorem dX4_lookAtActs_52 : decode cX4_lookAtActs 52 = .ok (.goto (-48), 3) := by decide +kernel
theorem dX4_lookAtActs_23 : decode cX4_lookAtActs 23 = .ok (.aload_n 0, 1) := by decide +kernel
theorem dX4_lookAtActs_24 : decode cX4_lookAtActs 24 = .ok (.getfield 44, 3) := by decide +kernel
theorem dX4_lookAtActs_27 : decode cX4_lookAtActs 27 = .ok (.iload_n 3, 1) := by decide +kernel
theorem dX4_lookAtActs_28 : decode cX4_lookAtActs 28 = .ok (.baload, 1) := by decide +kernel
theorem dX4_lookAtActs_29 : decode cX4_lookAtActs 29 = .ok (.ifCond .ne 20, 3) := by decide +kernel
theorem dX4_lookAtActs_32 : decode cX4_lookAtActs 32 = .ok (.aload_n 0, 1) := by decide +kernel
theorem dX4_lookAtActs_33 : decode cX4_lookAtActs 33 = .ok (.getfield 44, 3) := by decide +kernel
theorem dX4_lookAtActs_36 : decode cX4_lookAtActs 36 = .ok (.iload_n 3, 1) := by decide +kernel
theorem dX4_lookAtActs_37 : decode cX4_lookAtActs 37 = .ok (.iconst 1, 1) := by decide +kernel
theorem dX4_lookAtActs_38 : decode cX4_lookAtActs 38 = .ok (.bastore, 1) := by decide +kernel
theorem dX4_lookAtActs_39 : decode cX4_lookAtActs 39 = .ok (.aload_n 0, 1) := by decide +kernel
theorem dX4_lookAtActs_40 : decode cX4_lookAtActs 40 = .ok (.getfield 41, 3) := by decide +kernel
theorem dX4_lookAtActs_43 : decode cX4_lookAtActs 43 = .ok (.iload_n 3, 1) := by decide +kernel
theorem dX4_lookAtActs_44 : decode cX4_lookAtActs 44 = .ok (.iload_n 1, 1) := by decide +kernel
theorem dX4_lookAtActs_45 : decode cX4_lookAtActs 45 = .ok (.iastore, 1) := by decide +kernel
theorem dX4_lookAtActs_46 : decode cX4_lookAtActs 46 = .ok (.iinc 2 1, 3) := by decide +kernel
theorem dX4_lookAtActs_55 : decode cX4_lookAtActs 55 = .ok (.iload_n 2, 1) := by decide +kernel
theorem dX4_lookAtActs_56 : decode cX4_lookAtActs 56 = .ok (.ireturn, 1) := by decide +kernel
theorem dX4_confirmActs_0 : decode cX4_confirmActs 0 = .ok (.iconst 0, 1) := by decide +kernel
theorem dX4_confirmActs_1 : decode cX4_confirmActs 1 = .ok (.istore_n 1, 1) := by decide +kernel
theorem dX4_confirmActs_2 : decode cX4_confirmActs 2 = .ok (.iconst 0, 1) := by decide +kernel
theorem dX4_confirmActs_3 : decode cX4_confirmActs 3 = .ok (.istore_n 2, 1) := by decide +kernel
theorem dX4_confirmActs_4 : decode cX4_confirmActs 4 = .ok (.iload_n 2, 1) := by decide +kernel
theorem dX4_confirmActs_5 : decode cX4_confirmActs 5 = .ok (.aload_n 0, 1) := by decide +kernel
theorem dX4_confirmActs_6 : decode cX4_confirmActs 6 = .ok (.getfield 38, 3) := by decide +kernel
theorem dX4_confirmActs_9 : decode cX4_confirmActs 9 = .ok (.arraylength, 1) := by decide +kernel
theorem dX4_confirmActs_10 : decode cX4_confirmActs 10 = .ok (.if_icmp .ge 38, 3) := by decide +kernel
theorem dX4_confirmActs_13 : decode cX4_confirmActs 13 = .ok (.aload_n 0, 1) := by decide +kernel
theorem dX4_confirmActs_14 : decode cX4_confirmActs 14 = .ok (.getfield 38, 3) := by decide +kernel
theorem dX4_confirmActs_17 : decode cX4_confirmActs 17 = .ok (.iload_n 2, 1) := by decide +kernel
theorem dX4_confirmActs_18 : decode cX4_confirmActs 18 = .ok (.iaload, 1) := by decide +kernel
theorem dX4_confirmActs_19 : decode cX4_confirmActs 19 = .ok (.iconst 1, 1) := by decide +kernel
theorem dX4_confirmActs_20 : decode cX4_confirmActs 20 = .ok (.if_icmp .ne 22, 3) := by decide +kernel
theorem dX4_confirmActs_42 : decode cX4_confirmActs 42 = .ok (.iinc 2 1, 3) := by decide +kernel
theorem dX4_confirmActs_45 : decode cX4_confirmActs 45 = .ok (.goto (-41), 3) := by decide +kernel
theorem dX4_confirmActs_23 : decode cX4_confirmActs 23 = .ok (.aload_n 0, 1) := by decide +kernel
theorem dX4_confirmActs_24 : decode cX4_confirmActs 24 = .ok (.getfield 47, 3) := by decide +kernel
theorem dX4_confirmActs_27 : decode cX4_confirmActs 27 = .ok (.iload_n 2, 1) := by decide +kernel
theorem dX4_confirmActs_28 : decode cX4_confirmActs 28 = .ok (.baload, 1) := by decide +kernel
theorem dX4_confirmActs_29 : decode cX4_confirmActs 29 = .ok (.ifCond .ne 13, 3) := by decide +kernel
theorem dX4_confirmActs_32 : decode cX4_confirmActs 32 = .ok (.aload_n 0, 1) := by decide +kernel
theorem dX4_confirmActs_33 : decode cX4_confirmActs 33 = .ok (.getfield 47, 3) := by decide +kernel
theorem dX4_confirmActs_36 : decode cX4_confirmActs 36 = .ok (.iload_n 2, 1) := by decide +kernel
theorem dX4_confirmActs_37 : decode cX4_confirmActs 37 = .ok (.iconst 1, 1) := by decide +kernel
theorem dX4_confirmActs_38 : decode cX4_confirmActs 38 = .ok (.bastore, 1) := by decide +kernel
theorem dX4_confirmActs_39 : decode cX4_confirmActs 39 = .ok (.iinc 1 1, 3) := by decide +kernel
theorem dX4_confirmActs_48 : decode cX4_confirmActs 48 = .ok (.iload_n 1, 1) := by decide +kernel
theorem dX4_confirmActs_49 : decode cX4_confirmActs 49 = .ok (.ireturn, 1) := by decide +kernel
theorem dX4_resetLatched_0 : decode cX4_resetLatched 0 = .ok (.iconst 0, 1) := by decide +kernel
theorem dX4_resetLatched_1 : decode cX4_resetLatched 1 = .ok (.istore_n 2, 1) := by decide +kernel
theorem dX4_resetLatched_2 : decode cX4_resetLatched 2 = .ok (.aload_n 0, 1) := by decide +kernel
theorem dX4_resetLatched_3 : decode cX4_resetLatched 3 = .ok (.iload_n 1, 1) := by decide +kernel
theorem dX4_resetLatched_4 : decode cX4_resetLatched 4 = .ok (.invokevirtual 119, 3) := by decide +kernel
theorem dX4_resetLatched_7 : decode cX4_resetLatched 7 = .ok (.iconst 0, 1) := by decide +kernel
theorem dX4_resetLatched_8 : decode cX4_resetLatched 8 = .ok (.istore_n 3, 1) := by decide +kernel
theorem dX4_resetLatched_9 : decode cX4_resetLatched 9 = .ok (.iload_n 3, 1) := by decide +kernel
theorem dX4_resetLatched_10 : decode cX4_resetLatched 10 = .ok (.aload_n 0, 1) := by decide +kernel
theorem dX4_resetLatched_11 : decode cX4_resetLatched 11 = .ok (.getfield 35, 3) := by decide +kernel
theorem dX4_resetLatched_14 : decode cX4_resetLatched 14 = .ok (.arraylength, 1) := by decide +kernel
theorem dX4_resetLatched_15 : decode cX4_resetLatched 15 = .ok (.if_icmp .ge 60, 3) := by decide +kernel
theorem dX4_resetLatched_18 : decode cX4_resetLatched 18 = .ok (.aload_n 0, 1) := by decide +kernel
theorem dX4_resetLatched_19 : decode cX4_resetLatched 19 = .ok (.getfield 35, 3) := by decide +kernel
theorem dX4_resetLatched_22 : decode cX4_resetLatched 22 = .ok (.iload_n 3, 1) := by decide +kernel
theorem dX4_resetLatched_23 : decode cX4_resetLatched 23 = .ok (.iaload, 1) := by decide +kernel
theorem dX4_resetLatched_24 : decode cX4_resetLatched 24 = .ok (.istore 4, 2) := by decide +kernel
theorem dX4_resetLatched_26 : decode cX4_resetLatched 26 = .ok (.aload_n 0, 1) := by decide +kernel
theorem dX4_resetLatched_27 : decode cX4_resetLatched 27 = .ok (.getfield 38, 3) := by decide +kernel
theorem dX4_resetLatched_30 : decode cX4_resetLatched 30 = .ok (.iload 4, 2) := by decide +kernel
theorem dX4_resetLatched_32 : decode cX4_resetLatched 32 = .ok (.iaload, 1) := by decide +kernel
theorem dX4_resetLatched_33 : decode cX4_resetLatched 33 = .ok (.iconst 2, 1) := by decide +kernel
theorem dX4_resetLatched_34 : decode cX4_resetLatched 34 = .ok (.if_icmp .ne 35, 3) := by decide +kernel
theorem dX4_resetLatched_69 : decode cX4_resetLatched 69 = .ok (.iinc 3 1, 3) := by decide +kernel
theorem dX4_resetLatched_72 : decode cX4_resetLatched 72 = .ok (.goto (-63), 3) := by decide +kernel
theorem dX4_resetLatched_37 : decode cX4_resetLatched 37 = .ok (.aload_n 0, 1) := by decide +kernel
theorem dX4_resetLatched_38 : decode cX4_resetLatched 38 = .ok (.getfield 29, 3) := by decide +kernel
theorem dX4_resetLatched_41 : decode cX4_resetLatched 41 = .ok (.iload 4, 2) := by decide +kernel
theorem dX4_resetLatched_43 : decode cX4_resetLatched 43 = .ok (.aaload, 1) := by decide +kernel
theorem dX4_resetLatched_44 : decode cX4_resetLatched 44 = .ok (.iconst 4, 1) := by decide +kernel
theorem dX4_resetLatched_45 : decode cX4_resetLatched 45 = .ok (.iaload, 1) := by decide +kernel
theorem dX4_resetLatched_46 : decode cX4_resetLatched 46 = .ok (.ifCond .eq 23, 3) := by decide +kernel
theorem dX4_resetLatched_49 : decode cX4_resetLatched 49 = .ok (.aload_n 0, 1) := by decide +kernel
theorem dX4_resetLatched_50 : decode cX4_resetLatched 50 = .ok (.iload 4, 2) := by decide +kernel
theorem dX4_resetLatched_52 : decode cX4_resetLatched 52 = .ok (.invokevirtual 130, 3) := by decide +kernel
theorem dX4_resetLatched_55 : decode cX4_resetLatched 55 = .ok (.ifCond .ne 14, 3) := by decide +kernel
theorem dX4_resetLatched_58 : decode cX4_resetLatched 58 = .ok (.aload_n 0, 1) := by decide +kernel
theorem dX4_resetLatched_59 : decode cX4_resetLatched 59 = .ok (.iload 4, 2) := by decide +kernel
theorem dX4_resetLatched_61 : decode cX4_resetLatched 61 = .ok (.iconst 0, 1) := by decide +kernel
theorem dX4_resetLatched_62 : decode cX4_resetLatched 62 = .ok (.iload_n 1, 1) := by decide +kernel
theorem dX4_resetLatched_63 : decode cX4_resetLatched 63 = .ok (.invokevirtual 133, 3) := by decide +kernel
theorem dX4_resetLatched_66 : decode cX4_resetLatched 66 = .ok (.iinc 2 1, 3) := by decide +kernel
theorem dX4_resetLatched_75 : decode cX4_resetLatched 75 = .ok (.iload_n 2, 1) := by decide +kernel
theorem dX4_resetLatched_76 : decode cX4_resetLatched 76 = .ok (.ireturn, 1) := by decide +kernel
theorem dX4_isKindDone_0 : decode cX4_isKindDone 0 = .ok (.iconst 0, 1) := by decide +kernel
theorem dX4_isKindDone_1 : decode cX4_isKindDone 1 = .ok (.istore_n 2, 1) := by decide +kernel
theorem dX4_isKindDone_2 : decode cX4_isKindDone 2 = .ok (.iload_n 2, 1) := by decide +kernel
theorem dX4_isKindDone_3 : decode cX4_isKindDone 3 = .ok (.aload_n 0, 1) := by decide +kernel
theorem dX4_isKindDone_4 : decode cX4_isKindDone 4 = .ok (.getfield 38, 3) := by decide +kernel
theorem dX4_isKindDone_7 : decode cX4_isKindDone 7 = .ok (.arraylength, 1) := by decide +kernel
theorem dX4_isKindDone_8 : decode cX4_isKindDone 8 = .ok (.if_icmp .ge 33, 3) := by decide +kernel
theorem dX4_isKindDone_11 : decode cX4_isKindDone 11 = .ok (.aload_n 0, 1) := by decide +kernel
theorem dX4_isKindDone_12 : decode cX4_isKindDone 12 = .ok (.getfield 38, 3) := by decide +kernel
theorem dX4_isKindDone_15 : decode cX4_isKindDone 15 = .ok (.iload_n 2, 1) := by decide +kernel
theorem dX4_isKindDone_16 : decode cX4_isKindDone 16 = .ok (.iaload, 1) := by decide +kernel
theorem dX4_isKindDone_17 : decode cX4_isKindDone 17 = .ok (.iconst 2, 1) := by decide +kernel
theorem dX4_isKindDone_18 : decode cX4_isKindDone 18 = .ok (.if_icmp .ne 17, 3) := by decide +kernel
theorem dX4_isKindDone_35 : decode cX4_isKindDone 35 = .ok (.iinc 2 1, 3) := by decide +kernel
theorem dX4_isKindDone_38 : decode cX4_isKindDone 38 = .ok (.goto (-36), 3) := by decide +kernel
theorem dX4_isKindDone_21 : decode cX4_isKindDone 21 = .ok (.aload_n 0, 1) := by decide +kernel
theorem dX4_isKindDone_22 : decode cX4_isKindDone 22 = .ok (.getfield 29, 3) := by decide +kernel
theorem dX4_isKindDone_25 : decode cX4_isKindDone 25 = .ok (.iload_n 2, 1) := by decide +kernel
theorem dX4_isKindDone_26 : decode cX4_isKindDone 26 = .ok (.aaload, 1) := by decide +kernel
theorem dX4_isKindDone_27 : decode cX4_isKindDone 27 = .ok (.iconst 1, 1) := by decide +kernel
theorem dX4_isKindDone_28 : decode cX4_isKindDone 28 = .ok (.iaload, 1) := by decide +kernel
theorem dX4_isKindDone_29 : decode cX4_isKindDone 29 = .ok (.iload_n 1, 1) := by decide +kernel
theorem dX4_isKindDone_30 : decode cX4_isKindDone 30 = .ok (.if_icmp .ne 5, 3) := by decide +kernel
theorem dX4_isKindDone_33 : decode cX4_isKindDone 33 = .ok (.iconst 1, 1) := by decide +kernel
theorem dX4_isKindDone_34 : decode cX4_isKindDone 34 = .ok (.ireturn, 1) := by decide +kernel
theorem dX4_isKindDone_41 : decode cX4_isKindDone 41 = .ok (.iconst 0, 1) := by decide +kernel
theorem dX4_isKindDone_42 : decode cX4_isKindDone 42 = .ok (.ireturn, 1) := by decide +kernel
theorem dX4_countDone_0 : decode cX4_countDone 0 = .ok (.iconst 0, 1) := by decide +kernel
theorem dX4_countDone_1 : decode cX4_countDone 1 = .ok (.istore_n 1, 1) := by decide +kernel
theorem dX4_countDone_2 : decode cX4_countDone 2 = .ok (.iconst 0, 1) := by decide +kernel
theorem dX4_countDone_3 : decode cX4_countDone 3 = .ok (.istore_n 2, 1) := by decide +kernel
theorem dX4_countDone_4 : decode cX4_countDone 4 = .ok (.iload_n 2, 1) := by decide +kernel
theorem dX4_countDone_5 : decode cX4_countDone 5 = .ok (.aload_n 0, 1) := by decide +kernel
theorem dX4_countDone_6 : decode cX4_countDone 6 = .ok (.getfield 38, 3) := by decide +kernel
theorem dX4_countDone_9 : decode cX4_countDone 9 = .ok (.arraylength, 1) := by decide +kernel
theorem dX4_countDone_10 : decode cX4_countDone 10 = .ok (.if_icmp .ge 27, 3) := by decide +kernel
theorem dX4_countDone_13 : decode cX4_countDone 13 = .ok (.iload_n 1, 1) := by decide +kernel
theorem dX4_countDone_14 : decode cX4_countDone 14 = .ok (.aload_n 0, 1) := by decide +kernel
theorem dX4_countDone_15 : decode cX4_countDone 15 = .ok (.getfield 38, 3) := by decide +kernel
theorem dX4_countDone_18 : decode cX4_countDone 18 = .ok (.iload_n 2, 1) := by decide +kernel
theorem dX4_countDone_19 : decode cX4_countDone 19 = .ok (.iaload, 1) := by decide +kernel
theorem dX4_countDone_20 : decode cX4_countDone 20 = .ok (.iconst 2, 1) := by decide +kernel
theorem dX4_countDone_21 : decode cX4_countDone 21 = .ok (.if_icmp .ne 7, 3) := by decide +kernel
theorem dX4_countDone_28 : decode cX4_countDone 28 = .ok (.iconst 0, 1) := by decide +kernel
theorem dX4_countDone_29 : decode cX4_countDone 29 = .ok (.iadd, 1) := by decide +kernel
theorem dX4_countDone_30 : decode cX4_countDone 30 = .ok (.istore_n 1, 1) := by decide +kernel
theorem dX4_countDone_31 : decode cX4_countDone 31 = .ok (.iinc 2 1, 3) := by decide +kernel
theorem dX4_countDone_34 : decode cX4_countDone 34 = .ok (.goto (-30), 3) := by decide +kernel
theorem dX4_countDone_24 : decode cX4_countDone 24 = .ok (.iconst 1, 1) := by decide +kernel
theorem dX4_countDone_25 : decode cX4_countDone 25 = .ok (.goto 4, 3) := by decide +kernel
theorem dX4_countDone_37 : decode cX4_countDone 37 = .ok (.iload_n 1, 1) := by decide +kernel
theorem dX4_countDone_38 : decode cX4_countDone 38 = .ok (.ireturn, 1) := by decide +kernel
theorem dX4_actFact_0 : decode cX4_actFact 0 = .ok (.iload_n 2, 1) := by decide +kernel
theorem dX4_actFact_1 : decode cX4_actFact 1 = .ok (.tableswitch 90 0 4 #[35, 42, 63, 72, 81], 35) := by decide +kernel
theorem dX4_actFact_91 : decode cX4_actFact 91 = .ok (.aload_n 0, 1) := by decide +kernel
theorem dX4_actFact_92 : decode cX4_actFact 92 = .ok (.getfield 29, 3) := by decide +kernel
theorem dX4_actFact_95 : decode cX4_actFact 95 = .ok (.iload_n 1, 1) := by decide +kernel
theorem dX4_actFact_96 : decode cX4_actFact 96 = .ok (.aaload, 1) := by decide +kernel
theorem dX4_actFact_97 : decode cX4_actFact 97 = .ok (.iconst 4, 1) := by decide +kernel
theorem dX4_actFact_98 : decode cX4_actFact 98 = .ok (.iaload, 1) := by decide +kernel
theorem dX4_actFact_99 : decode cX4_actFact 99 = .ok (.ireturn, 1) := by decide +kernel
theorem dX4_actFact_36 : decode cX4_actFact 36 = .ok (.aload_n 0, 1) := by decide +kernel
theorem dX4_actFact_37 : decode cX4_actFact 37 = .ok (.getfield 38, 3) := by decide +kernel
theorem dX4_actFact_40 : decode cX4_actFact 40 = .ok (.iload_n 1, 1) := by decide +kernel
theorem dX4_actFact_41 : decode cX4_actFact 41 = .ok (.iaload, 1) := by decide +kernel
theorem dX4_actFact_42 : decode cX4_actFact 42 = .ok (.ireturn, 1) := by decide +kernel
theorem dX4_actFact_43 : decode cX4_actFact 43 = .ok (.aload_n 0, 1) := by decide +kernel
theorem dX4_actFact_44 : decode cX4_actFact 44 = .ok (.getfield 38, 3) := by decide +kernel
theorem dX4_actFact_47 : decode cX4_actFact 47 = .ok (.iload_n 1, 1) := by decide +kernel
theorem dX4_actFact_48 : decode cX4_actFact 48 = .ok (.iaload, 1) := by decide +kernel
theorem dX4_actFact_49 : decode cX4_actFact 49 = .ok (.iconst 1, 1) := by decide +kernel
theorem dX4_actFact_50 : decode cX4_actFact 50 = .ok (.if_icmp .ne 12, 3) := by decide +kernel
theorem dX4_actFact_62 : decode cX4_actFact 62 = .ok (.iconst (-1), 1) := by decide +kernel
theorem dX4_actFact_63 : decode cX4_actFact 63 = .ok (.ireturn, 1) := by decide +kernel
theorem dX4_actFact_53 : decode cX4_actFact 53 = .ok (.aload_n 0, 1) := by decide +kernel
theorem dX4_actFact_54 : decode cX4_actFact 54 = .ok (.getfield 41, 3) := by decide +kernel
theorem dX4_actFact_57 : decode cX4_actFact 57 = .ok (.iload_n 1, 1) := by decide +kernel
theorem dX4_actFact_58 : decode cX4_actFact 58 = .ok (.iaload, 1) := by decide +kernel
theorem dX4_actFact_59 : decode cX4_actFact 59 = .ok (.goto 4, 3) := by decide +kernel
theorem dX4_actFact_64 : decode cX4_actFact 64 = .ok (.aload_n 0, 1) := by decide +kernel
theorem dX4_actFact_65 : decode cX4_actFact 65 = .ok (.getfield 29, 3) := by decide +kernel
theorem dX4_actFact_68 : decode cX4_actFact 68 = .ok (.iload_n 1, 1) := by decide +kernel
theorem dX4_actFact_69 : decode cX4_actFact 69 = .ok (.aaload, 1) := by decide +kernel
theorem dX4_actFact_70 : decode cX4_actFact 70 = .ok (.iconst 1, 1) := by decide +kernel
theorem dX4_actFact_71 : decode cX4_actFact 71 = .ok (.iaload, 1) := by decide +kernel
theorem dX4_actFact_72 : decode cX4_actFact 72 = .ok (.ireturn, 1) := by decide +kernel
theorem dX4_actFact_73 : decode cX4_actFact 73 = .ok (.aload_n 0, 1) := by decide +kernel
theorem dX4_actFact_74 : decode cX4_actFact 74 = .ok (.getfield 29, 3) := by decide +kernel
theorem dX4_actFact_77 : decode cX4_actFact 77 = .ok (.iload_n 1, 1) := by decide +kernel
theorem dX4_actFact_78 : decode cX4_actFact 78 = .ok (.aaload, 1) := by decide +kernel
theorem dX4_actFact_79 : decode cX4_actFact 79 = .ok (.iconst 2, 1) := by decide +kernel
theorem dX4_actFact_80 : decode cX4_actFact 80 = .ok (.iaload, 1) := by decide +kernel
theorem dX4_actFact_81 : decode cX4_actFact 81 = .ok (.ireturn, 1) := by decide +kernel
theorem dX4_actFact_82 : decode cX4_actFact 82 = .ok (.aload_n 0, 1) := by decide +kernel
theorem dX4_actFact_83 : decode cX4_actFact 83 = .ok (.getfield 29, 3) := by decide +kernel
theorem dX4_actFact_86 : decode cX4_actFact 86 = .ok (.iload_n 1, 1) := by decide +kernel
theorem dX4_actFact_87 : decode cX4_actFact 87 = .ok (.aaload, 1) := by decide +kernel
theorem dX4_actFact_88 : decode cX4_actFact 88 = .ok (.iconst 3, 1) := by decide +kernel
theorem dX4_actFact_89 : decode cX4_actFact 89 = .ok (.iaload, 1) := by decide +kernel
theorem dX4_actFact_90 : decode cX4_actFact 90 = .ok (.ireturn, 1) := by decide +kernel
theorem dX4_zoneFact_0 : decode cX4_zoneFact 0 = .ok (.aload_n 0, 1) := by decide +kernel
theorem dX4_zoneFact_1 : decode cX4_zoneFact 1 = .ok (.iload_n 1, 1) := by decide +kernel
theorem dX4_zoneFact_2 : decode cX4_zoneFact 2 = .ok (.iload_n 3, 1) := by decide +kernel
theorem dX4_zoneFact_3 : decode cX4_zoneFact 3 = .ok (.invokevirtual 103, 3) := by decide +kernel
theorem dX4_zoneFact_6 : decode cX4_zoneFact 6 = .ok (.istore 4, 2) := by decide +kernel
theorem dX4_zoneFact_8 : decode cX4_zoneFact 8 = .ok (.iload_n 2, 1) := by decide +kernel
theorem dX4_zoneFact_9 : decode cX4_zoneFact 9 = .ok (.tableswitch 76 0 2 #[27, 46, 67], 27) := by decide +kernel
theorem dX4_zoneFact_85 : decode cX4_zoneFact 85 = .ok (.iload 4, 2) := by decide +kernel
theorem dX4_zoneFact_87 : decode cX4_zoneFact 87 = .ok (.ireturn, 1) := by decide +kernel
theorem dX4_zoneFact_36 : decode cX4_zoneFact 36 = .ok (.iload 4, 2) := by decide +kernel
theorem dX4_zoneFact_38 : decode cX4_zoneFact 38 = .ok (.aload_n 0, 1) := by decide +kernel
theorem dX4_zoneFact_39 : decode cX4_zoneFact 39 = .ok (.getfield 26, 3) := by decide +kernel
theorem dX4_zoneFact_42 : decode cX4_zoneFact 42 = .ok (.iload_n 1, 1) := by decide +kernel
theorem dX4_zoneFact_43 : decode cX4_zoneFact 43 = .ok (.aaload, 1) := by decide +kernel
theorem dX4_zoneFact_44 : decode cX4_zoneFact 44 = .ok (.iconst 0, 1) := by decide +kernel
theorem dX4_zoneFact_45 : decode cX4_zoneFact 45 = .ok (.iaload, 1) := by decide +kernel
theorem dX4_zoneFact_46 : decode cX4_zoneFact 46 = .ok (.if_icmp .lt 7, 3) := by decide +kernel
theorem dX4_zoneFact_53 : decode cX4_zoneFact 53 = .ok (.iconst 0, 1) := by decide +kernel
theorem dX4_zoneFact_54 : decode cX4_zoneFact 54 = .ok (.ireturn, 1) := by decide +kernel
theorem dX4_zoneFact_49 : decode cX4_zoneFact 49 = .ok (.iconst 1, 1) := by decide +kernel
theorem dX4_zoneFact_50 : decode cX4_zoneFact 50 = .ok (.goto 4, 3) := by decide +kernel
theorem dX4_zoneFact_55 : decode cX4_zoneFact 55 = .ok (.aload_n 0, 1) := by decide +kernel
theorem dX4_zoneFact_56 : decode cX4_zoneFact 56 = .ok (.iload 4, 2) := by decide +kernel
theorem dX4_zoneFact_58 : decode cX4_zoneFact 58 = .ok (.aload_n 0, 1) := by decide +kernel
theorem dX4_zoneFact_59 : decode cX4_zoneFact 59 = .ok (.iload_n 1, 1) := by decide +kernel
theorem dX4_zoneFact_60 : decode cX4_zoneFact 60 = .ok (.iload_n 3, 1) := by decide +kernel
theorem dX4_zoneFact_61 : decode cX4_zoneFact 61 = .ok (.invokevirtual 110, 3) := by decide +kernel
theorem dX4_zoneFact_64 : decode cX4_zoneFact 64 = .ok (.invokevirtual 113, 3) := by decide +kernel
theorem dX4_zoneFact_67 : decode cX4_zoneFact 67 = .ok (.ifCond .eq 7, 3) := by decide +kernel
theorem dX4_zoneFact_74 : decode cX4_zoneFact 74 = .ok (.iconst 0, 1) := by decide +kernel
theorem dX4_zoneFact_75 : decode cX4_zoneFact 75 = .ok (.ireturn, 1) := by decide +kernel
theorem dX4_zoneFact_70 : decode cX4_zoneFact 70 = .ok (.iconst 1, 1) := by decide +kernel
theorem dX4_zoneFact_71 : decode cX4_zoneFact 71 = .ok (.goto 4, 3) := by decide +kernel
theorem dX4_zoneFact_76 : decode cX4_zoneFact 76 = .ok (.aload_n 0, 1) := by decide +kernel
theorem dX4_zoneFact_77 : decode cX4_zoneFact 77 = .ok (.getfield 26, 3) := by decide +kernel
theorem dX4_zoneFact_80 : decode cX4_zoneFact 80 = .ok (.iload_n 1, 1) := by decide +kernel
theorem dX4_zoneFact_81 : decode cX4_zoneFact 81 = .ok (.aaload, 1) := by decide +kernel
theorem dX4_zoneFact_82 : decode cX4_zoneFact 82 = .ok (.iconst 0, 1) := by decide +kernel
theorem dX4_zoneFact_83 : decode cX4_zoneFact 83 = .ok (.iaload, 1) := by decide +kernel
theorem dX4_zoneFact_84 : decode cX4_zoneFact 84 = .ok (.ireturn, 1) := by decide +kernel
theorem zl_X3_46 : zm_F zk_E RX3 46 3 0 := ⟨RX3, TX3, 16, rfl, zk_i3, by decide, zk_b3 173 (by decide +kernel) rfl⟩
theorem zl_X3_13 : zm_F zk_E RX3 13 3 1 := ⟨RX3, TX3, 16, rfl, zk_i3, by decide, zk_b3 175 (by decide +kernel) rfl⟩
theorem zt_3_0 : zm_T zk_E RX3 3 0 .int false := ⟨RX3, TX3, 16, tyX3, rfl, tyX3_ok, nmX3, rfl, rfl, rfl⟩
theorem zl_X3_50 : zm_F zk_E RX3 50 3 2 := ⟨RX3, TX3, 16, rfl, zk_i3, by decide, zk_b3 176 (by decide +kernel) rfl⟩
theorem zl_X3_53 : zm_F zk_E RX3 53 3 4 := ⟨RX3, TX3, 16, rfl, zk_i3, by decide, zk_b3 179 (by decide +kernel) rfl⟩
theorem zl_X3_16 : zm_F zk_E RX3 16 3 3 := ⟨RX3, TX3, 16, rfl, zk_i3, by decide, zk_b3 178 (by decide +kernel) rfl⟩
theorem zl_X3_23 : zm_F zk_E RX3 23 3 6 := ⟨RX3, TX3, 16, rfl, zk_i3, by decide, zk_b3 182 (by decide +kernel) rfl⟩
theorem zl_X3_56 : zm_L zk_E RX3 56 yJ7_fill_53178 (.code yJ7_fill_53178 cJ7_fill_53178 4 none) 2 ∧ Cond.static yJ7_fill_53178 ∈ zk_E.2.2.1 := ⟨⟨zk_b5 43 (by decide +kernel) rfl, zk_b1 26 (by decide +kernel) rfl, zk_b11 150 (by decide +kernel) rfl, by decide +kernel, by decide +kernel, by decide +kernel⟩, zk_b5 42 (by decide +kernel) rfl⟩
theorem zl_X3_19 : zm_F zk_E RX3 19 3 5 := ⟨RX3, TX3, 16, rfl, zk_i3, by decide, zk_b3 181 (by decide +kernel) rfl⟩
theorem zt_3_4 : zm_T zk_E RX3 3 4 .int false := ⟨RX3, TX3, 16, tyX3, rfl, tyX3_ok, nmX3, rfl, rfl, rfl⟩
theorem zt_3_2 : zm_T zk_E RX3 3 2 .int false := ⟨RX3, TX3, 16, tyX3, rfl, tyX3_ok, nmX3, rfl, rfl, rfl⟩
theorem zl_X3_62 : zm_L zk_E RX3 62 yX3_placeOfOpen (.code yX3_placeOfOpen cX3_placeOfOpen 3 (some .int)) 1 ∧ Cond.instanceMethod yX3_placeOfOpen ∈ zk_E.2.2.1 ∧ Cond.selects yX3_placeOfOpen.cls yX3_placeOfOpen yX3_placeOfOpen ∈ zk_E.2.2.1 := ⟨⟨zk_b11 165 (by decide +kernel) rfl, zk_b1 12 (by decide +kernel) rfl, zk_b11 162 (by decide +kernel) rfl, by decide +kernel, by decide +kernel, by decide +kernel⟩, zk_b11 164 (by decide +kernel) rfl, zk_s8 (q := (yX3_placeOfOpen, 16)) 1 (by decide +kernel)⟩
theorem zl_X3_74 : zm_L zk_E RX3 74 yJ9_min_7cf53 (.code yJ9_min_7cf53 cJ9_min_7cf53 2 (some .int)) 2 ∧ Cond.static yJ9_min_7cf53 ∈ zk_E.2.2.1 := ⟨⟨zk_b4 215 (by decide +kernel) rfl, zk_b1 25 (by decide +kernel) rfl, zk_b11 174 (by decide +kernel) rfl, by decide +kernel, by decide +kernel, by decide +kernel⟩, zk_b4 214 (by decide +kernel) rfl⟩
theorem zl_X3_80 : zm_L zk_E RX3 80 yJ9_max_7cf53 (.code yJ9_max_7cf53 cJ9_max_7cf53 2 (some .int)) 2 ∧ Cond.static yJ9_max_7cf53 ∈ zk_E.2.2.1 := ⟨⟨zk_b4 218 (by decide +kernel) rfl, zk_b1 25 (by decide +kernel) rfl, zk_b11 175 (by decide +kernel) rfl, by decide +kernel, by decide +kernel, by decide +kernel⟩, zk_b4 217 (by decide +kernel) rfl⟩
theorem zl_X3_70 : zm_L zk_E RX3 70 yX3_endBeginning (.code yX3_endBeginning cX3_endBeginning 3 none) 1 ∧ Cond.instanceMethod yX3_endBeginning ∈ zk_E.2.2.1 ∧ Cond.selects yX3_endBeginning.cls yX3_endBeginning yX3_endBeginning ∈ zk_E.2.2.1 := ⟨⟨zk_b11 179 (by decide +kernel) rfl, zk_b1 12 (by decide +kernel) rfl, zk_b11 176 (by decide +kernel) rfl, by decide +kernel, by decide +kernel, by decide +kernel⟩, zk_b11 178 (by decide +kernel) rfl, zk_s8 (q := (yX3_endBeginning, 16)) 3 (by decide +kernel)⟩
theorem zl_X3_66 : zm_L zk_E RX3 66 yX3_isInSpan (.code yX3_isInSpan cX3_isInSpan 5 (some .boolean)) 2 ∧ Cond.instanceMethod yX3_isInSpan ∈ zk_E.2.2.1 ∧ Cond.selects yX3_isInSpan.cls yX3_isInSpan yX3_isInSpan ∈ zk_E.2.2.1 := ⟨⟨zk_b11 173 (by decide +kernel) rfl, zk_b1 12 (by decide +kernel) rfl, zk_b11 170 (by decide +kernel) rfl, by decide +kernel, by decide +kernel, by decide +kernel⟩, zk_b11 172 (by decide +kernel) rfl, zk_s8 (q := (yX3_isInSpan, 16)) 2 (by decide +kernel)⟩
theorem zl_X3_26 : zm_F zk_E RX3 26 3 8 := ⟨RX3, TX3, 16, rfl, zk_i3, by decide, zk_b3 185 (by decide +kernel) rfl⟩
theorem zl_X3_89 : zm_F zk_E RX3 89 3 7 := ⟨RX3, TX3, 16, rfl, zk_i3, by decide, zk_b3 184 (by decide +kernel) rfl⟩
theorem zl_X4_35 : zm_F zk_E RX4 35 4 10 := ⟨RX4, TX4, 19, rfl, zk_i4, by decide, zk_b3 117 (by decide +kernel) rfl⟩
theorem zl_X4_29 : zm_F zk_E RX4 29 4 7 := ⟨RX4, TX4, 19, rfl, zk_i4, by decide, zk_b3 113 (by decide +kernel) rfl⟩
theorem zl_X4_26 : zm_F zk_E RX4 26 4 6 := ⟨RX4, TX4, 19, rfl, zk_i4, by decide, zk_b3 112 (by decide +kernel) rfl⟩
theorem zl_X4_84 : zm_F zk_E RX4 84 4 2 := ⟨RX4, TX4, 19, rfl, zk_i4, by decide, zk_b3 104 (by decide +kernel) rfl⟩
theorem zl_X4_11 : zm_F zk_E RX4 11 4 3 := ⟨RX4, TX4, 19, rfl, zk_i4, by decide, zk_b3 106 (by decide +kernel) rfl⟩
theorem zl_X4_87 : zm_L zk_E RX4 87 yJ9_min_7cf53 (.code yJ9_min_7cf53 cJ9_min_7cf53 2 (some .int)) 2 ∧ Cond.static yJ9_min_7cf53 ∈ zk_E.2.2.1 := ⟨⟨zk_b4 215 (by decide +kernel) rfl, zk_b1 25 (by decide +kernel) rfl, zk_b10 131 (by decide +kernel) rfl, by decide +kernel, by decide +kernel, by decide +kernel⟩, zk_b4 214 (by decide +kernel) rfl⟩
theorem zl_X4_93 : zm_L zk_E RX4 93 yJ9_max_7cf53 (.code yJ9_max_7cf53 cJ9_max_7cf53 2 (some .int)) 2 ∧ Cond.static yJ9_max_7cf53 ∈ zk_E.2.2.1 := ⟨⟨zk_b4 218 (by decide +kernel) rfl, zk_b1 25 (by decide +kernel) rfl, zk_b12 78 (by decide +kernel) rfl, by decide +kernel, by decide +kernel, by decide +kernel⟩, zk_b4 217 (by decide +kernel) rfl⟩
theorem zl_X4_15 : zm_F zk_E RX4 15 4 4 := ⟨RX4, TX4, 19, rfl, zk_i4, by decide, zk_b3 108 (by decide +kernel) rfl⟩
theorem zl_X4_19 : zm_F zk_E RX4 19 4 5 := ⟨RX4, TX4, 19, rfl, zk_i4, by decide, zk_b3 110 (by decide +kernel) rfl⟩
theorem zl_X4_96 : zm_L zk_E RX4 96 yX4_isAsked (.code yX4_isAsked cX4_isAsked 3 (some .boolean)) 2 ∧ Cond.instanceMethod yX4_isAsked ∈ zk_E.2.2.1 ∧ Cond.selects yX4_isAsked.cls yX4_isAsked yX4_isAsked ∈ zk_E.2.2.1 := ⟨⟨zk_b10 59 (by decide +kernel) rfl, zk_b1 11 (by decide +kernel) rfl, zk_b10 56 (by decide +kernel) rfl, by decide +kernel, by decide +kernel, by decide +kernel⟩, zk_b10 58 (by decide +kernel) rfl, zk_s7 (q := (yX4_isAsked, 19)) 6 (by decide +kernel)⟩
theorem zl_X4_100 : zm_L zk_E RX4 100 yX4_isOn (.code yX4_isOn cX4_isOn 3 (some .boolean)) 2 ∧ Cond.instanceMethod yX4_isOn ∈ zk_E.2.2.1 ∧ Cond.selects yX4_isOn.cls yX4_isOn yX4_isOn ∈ zk_E.2.2.1 := ⟨⟨zk_b10 55 (by decide +kernel) rfl, zk_b1 11 (by decide +kernel) rfl, zk_b10 52 (by decide +kernel) rfl, by decide +kernel, by decide +kernel, by decide +kernel⟩, zk_b10 54 (by decide +kernel) rfl, zk_s7 (q := (yX4_isOn, 19)) 5 (by decide +kernel)⟩
theorem zl_X4_103 : zm_L zk_E RX4 103 yX4_countOn (.code yX4_countOn cX4_countOn 5 (some .int)) 2 ∧ Cond.instanceMethod yX4_countOn ∈ zk_E.2.2.1 ∧ Cond.selects yX4_countOn.cls yX4_countOn yX4_countOn ∈ zk_E.2.2.1 := ⟨⟨zk_b10 51 (by decide +kernel) rfl, zk_b1 11 (by decide +kernel) rfl, zk_b10 48 (by decide +kernel) rfl, by decide +kernel, by decide +kernel, by decide +kernel⟩, zk_b10 50 (by decide +kernel) rfl, zk_s7 (q := (yX4_countOn, 19)) 4 (by decide +kernel)⟩
theorem zl_X4_50 : zm_F zk_E RX4 50 4 15 := ⟨RX4, TX4, 19, rfl, zk_i4, by decide, zk_b3 122 (by decide +kernel) rfl⟩
theorem zl_X4_106 : zm_L zk_E RX4 106 yX4_isZone (.code yX4_isZone cX4_isZone 2 (some .boolean)) 1 ∧ Cond.instanceMethod yX4_isZone ∈ zk_E.2.2.1 ∧ Cond.selects yX4_isZone.cls yX4_isZone yX4_isZone ∈ zk_E.2.2.1 := ⟨⟨zk_b10 63 (by decide +kernel) rfl, zk_b1 11 (by decide +kernel) rfl, zk_b10 60 (by decide +kernel) rfl, by decide +kernel, by decide +kernel, by decide +kernel⟩, zk_b10 61 (by decide +kernel) rfl, zk_b10 62 (by decide +kernel) rfl⟩
theorem zl_X4_53 : zm_F zk_E RX4 53 4 16 := ⟨RX4, TX4, 19, rfl, zk_i4, by decide, zk_b3 123 (by decide +kernel) rfl⟩
theorem zl_X4_110 : zm_L zk_E RX4 110 yX4_countAsked (.code yX4_countAsked cX4_countAsked 5 (some .int)) 2 ∧ Cond.instanceMethod yX4_countAsked ∈ zk_E.2.2.1 ∧ Cond.selects yX4_countAsked.cls yX4_countAsked yX4_countAsked ∈ zk_E.2.2.1 := ⟨⟨zk_b10 67 (by decide +kernel) rfl, zk_b1 11 (by decide +kernel) rfl, zk_b10 64 (by decide +kernel) rfl, by decide +kernel, by decide +kernel, by decide +kernel⟩, zk_b10 66 (by decide +kernel) rfl, zk_s7 (q := (yX4_countAsked, 19)) 7 (by decide +kernel)⟩
theorem zl_X4_113 : zm_L zk_E RX4 113 yX4_isSure (.code yX4_isSure cX4_isSure 3 (some .boolean)) 2 ∧ Cond.instanceMethod yX4_isSure ∈ zk_E.2.2.1 ∧ Cond.selects yX4_isSure.cls yX4_isSure yX4_isSure ∈ zk_E.2.2.1 := ⟨⟨zk_b10 71 (by decide +kernel) rfl, zk_b1 11 (by decide +kernel) rfl, zk_b10 68 (by decide +kernel) rfl, by decide +kernel, by decide +kernel, by decide +kernel⟩, zk_b10 70 (by decide +kernel) rfl, zk_s7 (q := (yX4_isSure, 19)) 8 (by decide +kernel)⟩
theorem zl_X4_32 : zm_F zk_E RX4 32 4 8 := ⟨RX4, TX4, 19, rfl, zk_i4, by decide, zk_b3 114 (by decide +kernel) rfl⟩
theorem zl_X4_80 : zm_F zk_E RX4 80 4 9 := ⟨RX4, TX4, 19, rfl, zk_i4, by decide, zk_b3 115 (by decide +kernel) rfl⟩
theorem zl_X4_116 : zm_L zk_E RX4 116 yX4_isMet (.code yX4_isMet cX4_isMet 2 (some .boolean)) 1 ∧ Cond.instanceMethod yX4_isMet ∈ zk_E.2.2.1 ∧ Cond.selects yX4_isMet.cls yX4_isMet yX4_isMet ∈ zk_E.2.2.1 := ⟨⟨zk_b10 79 (by decide +kernel) rfl, zk_b1 11 (by decide +kernel) rfl, zk_b10 76 (by decide +kernel) rfl, by decide +kernel, by decide +kernel, by decide +kernel⟩, zk_b10 78 (by decide +kernel) rfl, zk_s7 (q := (yX4_isMet, 19)) 10 (by decide +kernel)⟩
theorem zl_X4_38 : zm_F zk_E RX4 38 4 11 := ⟨RX4, TX4, 19, rfl, zk_i4, by decide, zk_b3 118 (by decide +kernel) rfl⟩
theorem zl_X4_56 : zm_F zk_E RX4 56 4 18 := ⟨RX4, TX4, 19, rfl, zk_i4, by decide, zk_b3 125 (by decide +kernel) rfl⟩
theorem zl_X4_143 : zm_F zk_E RX4 143 4 17 := ⟨RX4, TX4, 19, rfl, zk_i4, by decide, zk_b3 124 (by decide +kernel) rfl⟩
theorem zt_4_17 : zm_T zk_E RX4 4 17 .int false := ⟨RX4, TX4, 19, tyX4, rfl, tyX4_ok, nmX4, rfl, rfl, rfl⟩
theorem zl_X4_59 : zm_F zk_E RX4 59 4 0 := ⟨RX4, TX4, 19, rfl, zk_i4, by decide, zk_b3 102 (by decide +kernel) rfl⟩
theorem zl_X4_155 : zm_FN zk_E RX4 155 9 12 := ⟨RX9, TX9, 20, "TowerHouse", rfl, zk_i9, by decide, zk_n2 209 (by decide +kernel) rfl⟩
theorem zl_X4_63 : zm_F zk_E RX4 63 4 1 := ⟨RX4, TX4, 19, rfl, zk_i4, by decide, zk_b3 103 (by decide +kernel) rfl⟩
theorem zl_X4_146 : zm_L zk_E RX4 146 yX1_hasRoomInQueue (.code yX1_hasRoomInQueue cX1_hasRoomInQueue 2 (some .boolean)) 1 ∧ Cond.instanceMethod yX1_hasRoomInQueue ∈ zk_E.2.2.1 ∧ Cond.selects yX1_hasRoomInQueue.cls yX1_hasRoomInQueue yX1_hasRoomInQueue ∈ zk_E.2.2.1 := ⟨⟨zk_b10 87 (by decide +kernel) rfl, zk_b1 10 (by decide +kernel) rfl, zk_b10 84 (by decide +kernel) rfl, by decide +kernel, by decide +kernel, by decide +kernel⟩, zk_b10 85 (by decide +kernel) rfl, zk_b10 86 (by decide +kernel) rfl⟩
theorem zl_X4_151 : zm_L zk_E RX4 151 yX1_enqueue (.code yX1_enqueue cX1_enqueue 10 (some .int)) 6 ∧ Cond.instanceMethod yX1_enqueue ∈ zk_E.2.2.1 ∧ Cond.selects yX1_enqueue.cls yX1_enqueue yX1_enqueue ∈ zk_E.2.2.1 := ⟨⟨zk_b10 91 (by decide +kernel) rfl, zk_b1 10 (by decide +kernel) rfl, zk_b10 88 (by decide +kernel) rfl, by decide +kernel, by decide +kernel, by decide +kernel⟩, zk_b10 89 (by decide +kernel) rfl, zk_b10 90 (by decide +kernel) rfl⟩
theorem zl_X4_47 : zm_F zk_E RX4 47 4 14 := ⟨RX4, TX4, 19, rfl, zk_i4, by decide, zk_b3 121 (by decide +kernel) rfl⟩
theorem zl_X4_41 : zm_F zk_E RX4 41 4 12 := ⟨RX4, TX4, 19, rfl, zk_i4, by decide, zk_b3 119 (by decide +kernel) rfl⟩
theorem zl_X4_140 : zm_L zk_E RX4 140 yX4_isSurelyCalled (.code yX4_isSurelyCalled cX4_isSurelyCalled 4 (some .boolean)) 1 ∧ Cond.instanceMethod yX4_isSurelyCalled ∈ zk_E.2.2.1 ∧ Cond.selects yX4_isSurelyCalled.cls yX4_isSurelyCalled yX4_isSurelyCalled ∈ zk_E.2.2.1 := ⟨⟨zk_b12 95 (by decide +kernel) rfl, zk_b1 11 (by decide +kernel) rfl, zk_b12 92 (by decide +kernel) rfl, by decide +kernel, by decide +kernel, by decide +kernel⟩, zk_b12 94 (by decide +kernel) rfl, zk_s9 (q := (yX4_isSurelyCalled, 19)) 4 (by decide +kernel)⟩
theorem zl_X4_130 : zm_L zk_E RX4 130 yX4_isCalled (.code yX4_isCalled cX4_isCalled 3 (some .boolean)) 1 ∧ Cond.instanceMethod yX4_isCalled ∈ zk_E.2.2.1 ∧ Cond.selects yX4_isCalled.cls yX4_isCalled yX4_isCalled ∈ zk_E.2.2.1 := ⟨⟨zk_b10 75 (by decide +kernel) rfl, zk_b1 11 (by decide +kernel) rfl, zk_b10 72 (by decide +kernel) rfl, by decide +kernel, by decide +kernel, by decide +kernel⟩, zk_b10 74 (by decide +kernel) rfl, zk_s7 (q := (yX4_isCalled, 19)) 9 (by decide +kernel)⟩
theorem zl_X4_137 : zm_L zk_E RX4 137 yX4_isDue (.code yX4_isDue cX4_isDue 3 (some .boolean)) 2 ∧ Cond.instanceMethod yX4_isDue ∈ zk_E.2.2.1 ∧ Cond.selects yX4_isDue.cls yX4_isDue yX4_isDue ∈ zk_E.2.2.1 := ⟨⟨zk_b12 91 (by decide +kernel) rfl, zk_b1 11 (by decide +kernel) rfl, zk_b12 88 (by decide +kernel) rfl, by decide +kernel, by decide +kernel, by decide +kernel⟩, zk_b12 90 (by decide +kernel) rfl, zk_s9 (q := (yX4_isDue, 19)) 3 (by decide +kernel)⟩
theorem zl_X4_133 : zm_L zk_E RX4 133 yX4_setDone (.code yX4_setDone cX4_setDone 5 none) 3 ∧ Cond.instanceMethod yX4_setDone ∈ zk_E.2.2.1 ∧ Cond.selects yX4_setDone.cls yX4_setDone yX4_setDone ∈ zk_E.2.2.1 := ⟨⟨zk_b10 83 (by decide +kernel) rfl, zk_b1 11 (by decide +kernel) rfl, zk_b10 80 (by decide +kernel) rfl, by decide +kernel, by decide +kernel, by decide +kernel⟩, zk_b10 82 (by decide +kernel) rfl, zk_s7 (q := (yX4_setDone, 19)) 11 (by decide +kernel)⟩
theorem zl_X4_44 : zm_F zk_E RX4 44 4 13 := ⟨RX4, TX4, 19, rfl, zk_i4, by decide, zk_b3 120 (by decide +kernel) rfl⟩
theorem zl_X4_119 : zm_L zk_E RX4 119 yX4_lookAtZones (.code yX4_lookAtZones cX4_lookAtZones 4 none) 1 ∧ Cond.instanceMethod yX4_lookAtZones ∈ zk_E.2.2.1 ∧ Cond.selects yX4_lookAtZones.cls yX4_lookAtZones yX4_lookAtZones ∈ zk_E.2.2.1 := ⟨⟨zk_b10 47 (by decide +kernel) rfl, zk_b1 11 (by decide +kernel) rfl, zk_b10 44 (by decide +kernel) rfl, by decide +kernel, by decide +kernel, by decide +kernel⟩, zk_b10 46 (by decide +kernel) rfl, zk_s7 (q := (yX4_lookAtZones, 19)) 3 (by decide +kernel)⟩
theorem zl_X4_123 : zm_L zk_E RX4 123 yX4_isAct (.code yX4_isAct cX4_isAct 2 (some .boolean)) 1 ∧ Cond.instanceMethod yX4_isAct ∈ zk_E.2.2.1 ∧ Cond.selects yX4_isAct.cls yX4_isAct yX4_isAct ∈ zk_E.2.2.1 := ⟨⟨zk_b10 103 (by decide +kernel) rfl, zk_b1 11 (by decide +kernel) rfl, zk_b12 83 (by decide +kernel) rfl, by decide +kernel, by decide +kernel, by decide +kernel⟩, zk_b10 101 (by decide +kernel) rfl, zk_b10 102 (by decide +kernel) rfl⟩
theorem zl_X4_126 : zm_L zk_E RX4 126 yX4_runAct (.code yX4_runAct cX4_runAct 4 none) 2 ∧ Cond.instanceMethod yX4_runAct ∈ zk_E.2.2.1 ∧ Cond.selects yX4_runAct.cls yX4_runAct yX4_runAct ∈ zk_E.2.2.1 := ⟨⟨zk_b12 87 (by decide +kernel) rfl, zk_b1 11 (by decide +kernel) rfl, zk_b12 84 (by decide +kernel) rfl, by decide +kernel, by decide +kernel, by decide +kernel⟩, zk_b12 86 (by decide +kernel) rfl, zk_s9 (q := (yX4_runAct, 19)) 2 (by decide +kernel)⟩
def zf_X3_addCar (N : Nat) (a0 : Nat) (i1 : Int32) (i2 : Int32) (S : zm_S) : Option (Int32 × zm_S) := (zg_i S a0 3 0).bind (fun v1 => if v1 < (4 : Int32) then (zg_r S a0 3 1).bind (fun b2 => (zg_i S a0 3 0).bind (fun v3 => (za_r S b2 v3).bind (fun b4 => (zs_i S b4 (0 : Int32) i1).bind (fun S5 => (zs_i S5 b4 (1 : Int32) i2).bind (fun S6 => (zs_i S6 b4 (4 : Int32) (59 : Int32)).bind (fun S7 => (zs_i S7 b4 (5 : Int32) (-1 : Int32)).bind (fun S8 => (zg_i S8 a0 3 0).bind (fun v9 => (zp S8 a0 3 0 (.int (v9 + (1 : Int32)))).bind (fun S10 => (zg_i S10 a0 3 0).bind (fun v11 => some ((v11 - (1 : Int32)), S10))))))))))) else some ((-1 : Int32), S))
set_option maxHeartbeats 4000000 in
set_option maxRecDepth 100000 in
theorem zt_X3_addCar {l : Launch} {V : zm_V} {N : Nat} {S : zm_S} {out : (Int32 × zm_S)} {d : Nat} {a0 : Nat} {i1 : Int32} {i2 : Int32} (hd : 1 ≤ d) (h : zf_X3_addCar N a0 i1 i2 S = some out) : zm_Met l zk_E V yX3_addCar (.code yX3_addCar cX3_addCar 4 (some .int)) d [.ref a0, .int i1, .int i2] S 0 0 (zo_i out) zo_x := by
  refine zm_of (by decide +kernel) (Nat.le_of_ble_eq_true rfl) ?_
  intro p e R s m args below meth c hRR hX hr hxt
  have hR : R.frames = d ∧ R.locals = 64 * d := by rw [hRR]; exact ⟨rfl, rfl⟩
  have hX : zm_X p R s m args meth c RX3 "addCar" cX3_addCar 4 zk_E V 0 0 := hX
  unfold zf_X3_addCar at h
  refine zw_sub (lv' := [(0, .ref a0), (1, .int i1), (2, .int i2)]) (List.forall_mem_cons.mpr ⟨rfl, (List.forall_mem_cons.mpr ⟨rfl, (List.forall_mem_cons.mpr ⟨rfl, zs_nil⟩)⟩)⟩) ?_
  refine zw_aload_n hX dX3_addCar_0 rfl ?_
  obtain ⟨v1, g, h⟩ := zb_some h
  refine zw_geti hX zl_X3_46 dX3_addCar_1 g ?_
  refine zw_iconst (v := (4 : Int32)) hX dX3_addCar_4 (by decide) ?_
  refine zw_icmp_lt (tgt := 10) hX dX3_addCar_5 (by decide) (fun c5 => ?_) (fun c5 => ?_)
  · rw [if_pos c5] at h
    refine zw_aload_n hX dX3_addCar_10 rfl ?_
    obtain ⟨b2, g, h⟩ := zb_some h
    refine zw_getr hX zl_X3_13 dX3_addCar_11 g ?_
    refine zw_aload_n hX dX3_addCar_14 rfl ?_
    obtain ⟨v3, g, h⟩ := zb_some h
    refine zw_geti hX zl_X3_46 dX3_addCar_15 g ?_
    obtain ⟨b4, g, h⟩ := zb_some h
    refine zw_xr hX dX3_addCar_18 g ?_
    refine zw_astore_n hX dX3_addCar_19 (by decide) ?_
    refine zw_aload_n hX dX3_addCar_20 rfl ?_
    refine zw_iconst (v := (0 : Int32)) hX dX3_addCar_21 (by decide) ?_
    refine zw_iload_n hX dX3_addCar_22 rfl ?_
    obtain ⟨S5, g, h⟩ := zb_some h
    refine zw_si hX dX3_addCar_23 g ?_
    refine zw_aload_n hX dX3_addCar_24 rfl ?_
    refine zw_iconst (v := (1 : Int32)) hX dX3_addCar_25 (by decide) ?_
    refine zw_iload_n hX dX3_addCar_26 rfl ?_
    obtain ⟨S6, g, h⟩ := zb_some h
    refine zw_si hX dX3_addCar_27 g ?_
    refine zw_aload_n hX dX3_addCar_28 rfl ?_
    refine zw_iconst (v := (4 : Int32)) hX dX3_addCar_29 (by decide) ?_
    refine zw_bipush (v := (59 : Int32)) hX dX3_addCar_30 (by decide) ?_
    obtain ⟨S7, g, h⟩ := zb_some h
    refine zw_si hX dX3_addCar_32 g ?_
    refine zw_aload_n hX dX3_addCar_33 rfl ?_
    refine zw_iconst (v := (5 : Int32)) hX dX3_addCar_34 (by decide) ?_
    refine zw_iconst (v := (-1 : Int32)) hX dX3_addCar_35 (by decide) ?_
    obtain ⟨S8, g, h⟩ := zb_some h
    refine zw_si hX dX3_addCar_36 g ?_
    refine zw_aload_n hX dX3_addCar_37 rfl ?_
    refine zw_dup hX dX3_addCar_38 rfl ?_
    obtain ⟨v9, g, h⟩ := zb_some h
    refine zw_geti hX zl_X3_46 dX3_addCar_39 g ?_
    refine zw_iconst (v := (1 : Int32)) hX dX3_addCar_42 (by decide) ?_
    refine zw_iadd hX dX3_addCar_43 ?_
    obtain ⟨S10, g, h⟩ := zb_some h
    refine zw_putv hX zl_X3_46 zt_3_0 dX3_addCar_44 rfl rfl g ?_
    refine zw_aload_n hX dX3_addCar_47 rfl ?_
    obtain ⟨v11, g, h⟩ := zb_some h
    refine zw_geti hX zl_X3_46 dX3_addCar_48 g ?_
    refine zw_iconst (v := (1 : Int32)) hX dX3_addCar_51 (by decide) ?_
    refine zw_isub hX dX3_addCar_52 ?_
    obtain rfl := Option.some.inj h
    exact zw_iret hX hr dX3_addCar_53 rfl ⟨rfl, rfl⟩
  · rw [if_neg c5] at h
    refine zw_iconst (v := (-1 : Int32)) hX dX3_addCar_8 (by decide) ?_
    obtain rfl := Option.some.inj h
    exact zw_iret hX hr dX3_addCar_9 rfl ⟨rfl, rfl⟩
def zf_X3_setFree (N : Nat) (a0 : Nat) (i1 : Int32) (i2 : Int32) (i3 : Int32) (S : zm_S) : Option (Unit × zm_S) := (zg_r S a0 3 1).bind (fun b1 => (za_r S b1 i1).bind (fun b2 => (zs_i S b2 (0 : Int32) i2).bind (fun S3 => (zg_r S3 a0 3 1).bind (fun b4 => (za_r S3 b4 i1).bind (fun b5 => (zs_i S3 b5 (2 : Int32) i3).bind (fun S6 => some ((), S6)))))))
set_option maxHeartbeats 4000000 in
set_option maxRecDepth 100000 in
theorem zt_X3_setFree {l : Launch} {V : zm_V} {N : Nat} {S : zm_S} {out : (Unit × zm_S)} {d : Nat} {a0 : Nat} {i1 : Int32} {i2 : Int32} {i3 : Int32} (hd : 1 ≤ d) (h : zf_X3_setFree N a0 i1 i2 i3 S = some out) : zm_Met l zk_E V yX3_setFree (.code yX3_setFree cX3_setFree 4 none) d [.ref a0, .int i1, .int i2, .int i3] S 0 0 (zo_v out) zo_x := by
  refine zm_of (by decide +kernel) (Nat.le_of_ble_eq_true rfl) ?_
  intro p e R s m args below meth c hRR hX hr hxt
  have hR : R.frames = d ∧ R.locals = 64 * d := by rw [hRR]; exact ⟨rfl, rfl⟩
  have hX : zm_X p R s m args meth c RX3 "setFree" cX3_setFree 4 zk_E V 0 0 := hX
  unfold zf_X3_setFree at h
  refine zw_sub (lv' := [(0, .ref a0), (1, .int i1), (2, .int i2), (3, .int i3)]) (List.forall_mem_cons.mpr ⟨rfl, (List.forall_mem_cons.mpr ⟨rfl, (List.forall_mem_cons.mpr ⟨rfl, (List.forall_mem_cons.mpr ⟨rfl, zs_nil⟩)⟩)⟩)⟩) ?_
  refine zw_aload_n hX dX3_setFree_0 rfl ?_
  obtain ⟨b1, g, h⟩ := zb_some h
  refine zw_getr hX zl_X3_13 dX3_setFree_1 g ?_
  refine zw_iload_n hX dX3_setFree_4 rfl ?_
  obtain ⟨b2, g, h⟩ := zb_some h
  refine zw_xr hX dX3_setFree_5 g ?_
  refine zw_iconst (v := (0 : Int32)) hX dX3_setFree_6 (by decide) ?_
  refine zw_iload_n hX dX3_setFree_7 rfl ?_
  obtain ⟨S3, g, h⟩ := zb_some h
  refine zw_si hX dX3_setFree_8 g ?_
  refine zw_aload_n hX dX3_setFree_9 rfl ?_
  obtain ⟨b4, g, h⟩ := zb_some h
  refine zw_getr hX zl_X3_13 dX3_setFree_10 g ?_
  refine zw_iload_n hX dX3_setFree_13 rfl ?_
  obtain ⟨b5, g, h⟩ := zb_some h
  refine zw_xr hX dX3_setFree_14 g ?_
  refine zw_iconst (v := (2 : Int32)) hX dX3_setFree_15 (by decide) ?_
  refine zw_iload_n hX dX3_setFree_16 rfl ?_
  obtain ⟨S6, g, h⟩ := zb_some h
  refine zw_si hX dX3_setFree_17 g ?_
  obtain rfl := Option.some.inj h
  exact zw_vret hX hr dX3_setFree_18 ⟨rfl, rfl⟩
def zf_X3_setSpan (N : Nat) (a0 : Nat) (i1 : Int32) (i2 : Int32) (i3 : Int32) (S : zm_S) : Option (Unit × zm_S) := (zg_r S a0 3 1).bind (fun b1 => (za_r S b1 i1).bind (fun b2 => (zs_i S b2 (3 : Int32) i2).bind (fun S3 => (zg_r S3 a0 3 1).bind (fun b4 => (za_r S3 b4 i1).bind (fun b5 => (zs_i S3 b5 (4 : Int32) i3).bind (fun S6 => some ((), S6)))))))
set_option maxHeartbeats 4000000 in
set_option maxRecDepth 100000 in
theorem zt_X3_setSpan {l : Launch} {V : zm_V} {N : Nat} {S : zm_S} {out : (Unit × zm_S)} {d : Nat} {a0 : Nat} {i1 : Int32} {i2 : Int32} {i3 : Int32} (hd : 1 ≤ d) (h : zf_X3_setSpan N a0 i1 i2 i3 S = some out) : zm_Met l zk_E V yX3_setSpan (.code yX3_setSpan cX3_setSpan 4 none) d [.ref a0, .int i1, .int i2, .int i3] S 0 0 (zo_v out) zo_x := by
  refine zm_of (by decide +kernel) (Nat.le_of_ble_eq_true rfl) ?_
  intro p e R s m args below meth c hRR hX hr hxt
  have hR : R.frames = d ∧ R.locals = 64 * d := by rw [hRR]; exact ⟨rfl, rfl⟩
  have hX : zm_X p R s m args meth c RX3 "setSpan" cX3_setSpan 4 zk_E V 0 0 := hX
  unfold zf_X3_setSpan at h
  refine zw_sub (lv' := [(0, .ref a0), (1, .int i1), (2, .int i2), (3, .int i3)]) (List.forall_mem_cons.mpr ⟨rfl, (List.forall_mem_cons.mpr ⟨rfl, (List.forall_mem_cons.mpr ⟨rfl, (List.forall_mem_cons.mpr ⟨rfl, zs_nil⟩)⟩)⟩)⟩) ?_
  refine zw_aload_n hX dX3_setSpan_0 rfl ?_
  obtain ⟨b1, g, h⟩ := zb_some h
  refine zw_getr hX zl_X3_13 dX3_setSpan_1 g ?_
  refine zw_iload_n hX dX3_setSpan_4 rfl ?_
  obtain ⟨b2, g, h⟩ := zb_some h
  refine zw_xr hX dX3_setSpan_5 g ?_
  refine zw_iconst (v := (3 : Int32)) hX dX3_setSpan_6 (by decide) ?_
  refine zw_iload_n hX dX3_setSpan_7 rfl ?_
  obtain ⟨S3, g, h⟩ := zb_some h
  refine zw_si hX dX3_setSpan_8 g ?_
  refine zw_aload_n hX dX3_setSpan_9 rfl ?_
  obtain ⟨b4, g, h⟩ := zb_some h
  refine zw_getr hX zl_X3_13 dX3_setSpan_10 g ?_
  refine zw_iload_n hX dX3_setSpan_13 rfl ?_
  obtain ⟨b5, g, h⟩ := zb_some h
  refine zw_xr hX dX3_setSpan_14 g ?_
  refine zw_iconst (v := (4 : Int32)) hX dX3_setSpan_15 (by decide) ?_
  refine zw_iload_n hX dX3_setSpan_16 rfl ?_
  obtain ⟨S6, g, h⟩ := zb_some h
  refine zw_si hX dX3_setSpan_17 g ?_
  obtain rfl := Option.some.inj h
  exact zw_vret hX hr dX3_setSpan_18 ⟨rfl, rfl⟩
def zf_X3_addCall (N : Nat) (a0 : Nat) (i1 : Int32) (i2 : Int32) (i3 : Int32) (S : zm_S) : Option (Int32 × zm_S) := (zg_i S a0 3 2).bind (fun v1 => if (400 : Int32) ≤ v1 then some ((-1 : Int32), S) else (zg_i S a0 3 4).bind (fun v2 => if v2 < (6 : Int32) then (zg_r S a0 3 3).bind (fun b3 => (zg_i S a0 3 2).bind (fun v4 => (za_r S b3 v4).bind (fun b5 => (zs_i S b5 (0 : Int32) i1).bind (fun S6 => (zg_r S6 a0 3 3).bind (fun b7 => (zg_i S6 a0 3 2).bind (fun v8 => (za_r S6 b7 v8).bind (fun b9 => (zs_i S6 b9 (1 : Int32) i2).bind (fun S10 => (zg_r S10 a0 3 3).bind (fun b11 => (zg_i S10 a0 3 2).bind (fun v12 => (za_r S10 b11 v12).bind (fun b13 => (zs_i S10 b13 (2 : Int32) i3).bind (fun S14 => (zg_r S14 a0 3 6).bind (fun b15 => (zg_i S14 a0 3 2).bind (fun v16 => (za_r S14 b15 v16).bind (fun b17 => (zf_J7_fill_53178 N b17 (-1 : Int32) S14).bind (fun r20 => (zg_r r20.2 a0 3 5).bind (fun b21 => (zg_i r20.2 a0 3 4).bind (fun v22 => (zg_i r20.2 a0 3 2).bind (fun v23 => (zs_i r20.2 b21 v22 v23).bind (fun S24 => (zg_i S24 a0 3 4).bind (fun v25 => (zp S24 a0 3 4 (.int (v25 + (1 : Int32)))).bind (fun S26 => (zg_i S26 a0 3 2).bind (fun v27 => (zp S26 a0 3 2 (.int (v27 + (1 : Int32)))).bind (fun S28 => (zg_i S28 a0 3 2).bind (fun v29 => some ((v29 - (1 : Int32)), S28)))))))))))))))))))))))))) else some ((-1 : Int32), S)))
set_option maxHeartbeats 4000000 in
set_option maxRecDepth 100000 in
theorem zt_X3_addCall {l : Launch} {V : zm_V} {N : Nat} {S : zm_S} {out : (Int32 × zm_S)} {d : Nat} {a0 : Nat} {i1 : Int32} {i2 : Int32} {i3 : Int32} (hd : 2 ≤ d) (h : zf_X3_addCall N a0 i1 i2 i3 S = some out) : zm_Met l zk_E V yX3_addCall (.code yX3_addCall cX3_addCall 4 (some .int)) d [.ref a0, .int i1, .int i2, .int i3] S 0 0 (zo_i out) zo_x := by
  refine zm_of (by decide +kernel) (Nat.le_of_ble_eq_true rfl) ?_
  intro p e R s m args below meth c hRR hX hr hxt
  have hR : R.frames = d ∧ R.locals = 64 * d := by rw [hRR]; exact ⟨rfl, rfl⟩
  have hX : zm_X p R s m args meth c RX3 "addCall" cX3_addCall 4 zk_E V 0 0 := hX
  unfold zf_X3_addCall at h
  refine zw_sub (lv' := [(0, .ref a0), (1, .int i1), (2, .int i2), (3, .int i3)]) (List.forall_mem_cons.mpr ⟨rfl, (List.forall_mem_cons.mpr ⟨rfl, (List.forall_mem_cons.mpr ⟨rfl, (List.forall_mem_cons.mpr ⟨rfl, zs_nil⟩)⟩)⟩)⟩) ?_
  refine zw_aload_n hX dX3_addCall_0 rfl ?_
  obtain ⟨v1, g, h⟩ := zb_some h
  refine zw_geti hX zl_X3_50 dX3_addCall_1 g ?_
  refine zw_sipush (v := (400 : Int32)) hX dX3_addCall_4 (by decide) ?_
  refine zw_icmp_ge (tgt := 19) hX dX3_addCall_7 (by decide) (fun c7 => ?_) (fun c7 => ?_)
  · rw [if_pos c7] at h
    refine zw_iconst (v := (-1 : Int32)) hX dX3_addCall_19 (by decide) ?_
    obtain rfl := Option.some.inj h
    exact zw_iret hX hr dX3_addCall_20 rfl ⟨rfl, rfl⟩
  · rw [if_neg c7] at h
    refine zw_aload_n hX dX3_addCall_10 rfl ?_
    obtain ⟨v2, g, h⟩ := zb_some h
    refine zw_geti hX zl_X3_53 dX3_addCall_11 g ?_
    refine zw_bipush (v := (6 : Int32)) hX dX3_addCall_14 (by decide) ?_
    refine zw_icmp_lt (tgt := 21) hX dX3_addCall_16 (by decide) (fun c16 => ?_) (fun c16 => ?_)
    · rw [if_pos c16] at h
      refine zw_aload_n hX dX3_addCall_21 rfl ?_
      obtain ⟨b3, g, h⟩ := zb_some h
      refine zw_getr hX zl_X3_16 dX3_addCall_22 g ?_
      refine zw_aload_n hX dX3_addCall_25 rfl ?_
      obtain ⟨v4, g, h⟩ := zb_some h
      refine zw_geti hX zl_X3_50 dX3_addCall_26 g ?_
      obtain ⟨b5, g, h⟩ := zb_some h
      refine zw_xr hX dX3_addCall_29 g ?_
      refine zw_iconst (v := (0 : Int32)) hX dX3_addCall_30 (by decide) ?_
      refine zw_iload_n hX dX3_addCall_31 rfl ?_
      obtain ⟨S6, g, h⟩ := zb_some h
      refine zw_si hX dX3_addCall_32 g ?_
      refine zw_aload_n hX dX3_addCall_33 rfl ?_
      obtain ⟨b7, g, h⟩ := zb_some h
      refine zw_getr hX zl_X3_16 dX3_addCall_34 g ?_
      refine zw_aload_n hX dX3_addCall_37 rfl ?_
      obtain ⟨v8, g, h⟩ := zb_some h
      refine zw_geti hX zl_X3_50 dX3_addCall_38 g ?_
      obtain ⟨b9, g, h⟩ := zb_some h
      refine zw_xr hX dX3_addCall_41 g ?_
      refine zw_iconst (v := (1 : Int32)) hX dX3_addCall_42 (by decide) ?_
      refine zw_iload_n hX dX3_addCall_43 rfl ?_
      obtain ⟨S10, g, h⟩ := zb_some h
      refine zw_si hX dX3_addCall_44 g ?_
      refine zw_aload_n hX dX3_addCall_45 rfl ?_
      obtain ⟨b11, g, h⟩ := zb_some h
      refine zw_getr hX zl_X3_16 dX3_addCall_46 g ?_
      refine zw_aload_n hX dX3_addCall_49 rfl ?_
      obtain ⟨v12, g, h⟩ := zb_some h
      refine zw_geti hX zl_X3_50 dX3_addCall_50 g ?_
      obtain ⟨b13, g, h⟩ := zb_some h
      refine zw_xr hX dX3_addCall_53 g ?_
      refine zw_iconst (v := (2 : Int32)) hX dX3_addCall_54 (by decide) ?_
      refine zw_iload_n hX dX3_addCall_55 rfl ?_
      obtain ⟨S14, g, h⟩ := zb_some h
      refine zw_si hX dX3_addCall_56 g ?_
      refine zw_aload_n hX dX3_addCall_57 rfl ?_
      obtain ⟨b15, g, h⟩ := zb_some h
      refine zw_getr hX zl_X3_23 dX3_addCall_58 g ?_
      refine zw_aload_n hX dX3_addCall_61 rfl ?_
      obtain ⟨v16, g, h⟩ := zb_some h
      refine zw_geti hX zl_X3_50 dX3_addCall_62 g ?_
      obtain ⟨b17, g, h⟩ := zb_some h
      refine zw_xr hX dX3_addCall_65 g ?_
      refine zw_iconst (v := (-1 : Int32)) hX dX3_addCall_66 (by decide) ?_
      obtain ⟨r20, g, h⟩ := zb_some h
      refine zc_Sv (as := [.ref b17, .int (-1 : Int32)]) hX (zt_J7_fill_53178 (d := d - 1) (by omega) g) zl_X3_56 dX3_addCall_67 ⟨rfl, rfl, Nat.le_of_ble_eq_true rfl⟩ ⟨by omega, by omega⟩ ?_
      refine zw_aload_n hX dX3_addCall_70 rfl ?_
      obtain ⟨b21, g, h⟩ := zb_some h
      refine zw_getr hX zl_X3_19 dX3_addCall_71 g ?_
      refine zw_aload_n hX dX3_addCall_74 rfl ?_
      obtain ⟨v22, g, h⟩ := zb_some h
      refine zw_geti hX zl_X3_53 dX3_addCall_75 g ?_
      refine zw_aload_n hX dX3_addCall_78 rfl ?_
      obtain ⟨v23, g, h⟩ := zb_some h
      refine zw_geti hX zl_X3_50 dX3_addCall_79 g ?_
      obtain ⟨S24, g, h⟩ := zb_some h
      refine zw_si hX dX3_addCall_82 g ?_
      refine zw_aload_n hX dX3_addCall_83 rfl ?_
      refine zw_dup hX dX3_addCall_84 rfl ?_
      obtain ⟨v25, g, h⟩ := zb_some h
      refine zw_geti hX zl_X3_53 dX3_addCall_85 g ?_
      refine zw_iconst (v := (1 : Int32)) hX dX3_addCall_88 (by decide) ?_
      refine zw_iadd hX dX3_addCall_89 ?_
      obtain ⟨S26, g, h⟩ := zb_some h
      refine zw_putv hX zl_X3_53 zt_3_4 dX3_addCall_90 rfl rfl g ?_
      refine zw_aload_n hX dX3_addCall_93 rfl ?_
      refine zw_dup hX dX3_addCall_94 rfl ?_
      obtain ⟨v27, g, h⟩ := zb_some h
      refine zw_geti hX zl_X3_50 dX3_addCall_95 g ?_
      refine zw_iconst (v := (1 : Int32)) hX dX3_addCall_98 (by decide) ?_
      refine zw_iadd hX dX3_addCall_99 ?_
      obtain ⟨S28, g, h⟩ := zb_some h
      refine zw_putv hX zl_X3_50 zt_3_2 dX3_addCall_100 rfl rfl g ?_
      refine zw_aload_n hX dX3_addCall_103 rfl ?_
      obtain ⟨v29, g, h⟩ := zb_some h
      refine zw_geti hX zl_X3_50 dX3_addCall_104 g ?_
      refine zw_iconst (v := (1 : Int32)) hX dX3_addCall_107 (by decide) ?_
      refine zw_isub hX dX3_addCall_108 ?_
      obtain rfl := Option.some.inj h
      exact zw_iret hX hr dX3_addCall_109 rfl ⟨rfl, rfl⟩
    · rw [if_neg c16] at h
      refine zw_iconst (v := (-1 : Int32)) hX dX3_addCall_19 (by decide) ?_
      obtain rfl := Option.some.inj h
      exact zw_iret hX hr dX3_addCall_20 rfl ⟨rfl, rfl⟩
def zf_X3_placeOfOpen_L2 (N : Nat) : Nat → Nat → Int32 → Int32 → zm_S → Option ((Int32 × zm_S) ⊕ ((Unit) × zm_S))
  | 0, _, _, _, _ => none
  | n + 1, a0, i1, i2, S => (zg_i S a0 3 4).bind (fun v1 => if v1 ≤ i2 then some (.inr ((), S)) else (zg_r S a0 3 5).bind (fun b2 => (za_x S 0 b2 i2).bind (fun v3 => if v3 = i1 then some (.inl (i2, S)) else zf_X3_placeOfOpen_L2 N n a0 i1 (i2 + (1 : Int32)) S)))
set_option maxHeartbeats 4000000 in
set_option maxRecDepth 100000 in
theorem zt_X3_placeOfOpen_L2 {p : Program} {l : Launch} {e : Env} {R : Room} {s : State} {m : MethodId} {args : Array Value} {below : List Frame} {meth : Method} {c : Code} {V : zm_V} {mc ms d rc rs : Nat} (hX : zm_X p R s m args meth c RX3 "placeOfOpen" cX3_placeOfOpen 3 zk_E V mc ms) (hr : meth.sig.returnType = (some .int)) (hR : R.frames = d ∧ R.locals = 64 * d) (hd : 1 ≤ d) {N : Nat} {res : (Int32 × zm_S) ⊕ ((Unit) × zm_S)} {out : (Int32 × zm_S)} (a0 : Nat) (i1 : Int32) (hf : ∀ o, res = .inl o → o = out) (hk : ∀ (S' : zm_S), res = .inr ((), S') → zw p l e R s m args below meth c (vx_MQ below (zm_Qc zk_E V (zo_i out)) (zm_XC zk_E V zo_x) args s mc ms (fun q => V.2.2.2.1 ≤ q)) 3 zk_E V mc ms 28 [] [] S' rc rs) : ∀ (n : Nat) (i2 : Int32) (S : zm_S), zf_X3_placeOfOpen_L2 N n a0 i1 i2 S = some res → zw p l e R s m args below meth c (vx_MQ below (zm_Qc zk_E V (zo_i out)) (zm_XC zk_E V zo_x) args s mc ms (fun q => V.2.2.2.1 ≤ q)) 3 zk_E V mc ms 2 [(0, .ref a0), (1, .int i1), (2, .int i2)] [] S rc rs := by
  intro n
  induction n with
  | zero => intro i2 S h; cases h
  | succ n ih =>
    intro i2 S h
    rw [zf_X3_placeOfOpen_L2] at h
    refine zw_iload_n hX dX3_placeOfOpen_2 rfl ?_
    refine zw_aload_n hX dX3_placeOfOpen_3 rfl ?_
    obtain ⟨v1, g, h⟩ := zb_some h
    refine zw_geti hX zl_X3_53 dX3_placeOfOpen_4 g ?_
    refine zw_icmp_ge (tgt := 28) hX dX3_placeOfOpen_7 (by decide) (fun c7 => ?_) (fun c7 => ?_)
    · rw [if_pos c7] at h
      refine zw_sub (lv' := []) zs_nil ?_
      exact hk  _ (Option.some.inj h).symm
    · rw [if_neg c7] at h
      refine zw_aload_n hX dX3_placeOfOpen_10 rfl ?_
      obtain ⟨b2, g, h⟩ := zb_some h
      refine zw_getr hX zl_X3_19 dX3_placeOfOpen_11 g ?_
      refine zw_iload_n hX dX3_placeOfOpen_14 rfl ?_
      obtain ⟨v3, g, h⟩ := zb_some h
      refine zw_xi hX dX3_placeOfOpen_15 g ?_
      refine zw_iload_n hX dX3_placeOfOpen_16 rfl ?_
      refine zw_icmp_ne (tgt := 22) hX dX3_placeOfOpen_17 (by decide) (fun c17 => ?_) (fun c17 => ?_)
      · rw [if_neg c17] at h
        refine zw_iinc (v := (i2 + (1 : Int32))) hX dX3_placeOfOpen_22 rfl rfl (by decide) ?_
        refine zw_goto (tgt := 2) hX dX3_placeOfOpen_25 (by decide) ?_
        refine zw_sub (lv' := [(0, .ref a0), (1, .int i1), (2, .int (i2 + (1 : Int32)))]) (List.forall_mem_cons.mpr ⟨rfl, (List.forall_mem_cons.mpr ⟨rfl, (List.forall_mem_cons.mpr ⟨rfl, zs_nil⟩)⟩)⟩) ?_
        exact ih _ _ h
      · rw [if_pos c17] at h
        refine zw_iload_n hX dX3_placeOfOpen_20 rfl ?_
        have hz := hf _ (Option.some.inj h).symm
        subst hz
        exact zw_iret hX hr dX3_placeOfOpen_21 rfl ⟨rfl, rfl⟩
def zf_X3_placeOfOpen (N : Nat) (a0 : Nat) (i1 : Int32) (S : zm_S) : Option (Int32 × zm_S) := (zf_X3_placeOfOpen_L2 N N a0 i1 (0 : Int32) S).bind (fun r => match r with | .inl o => some o | .inr (_, S4) => some ((-1 : Int32), S4))
set_option maxHeartbeats 4000000 in
set_option maxRecDepth 100000 in
theorem zt_X3_placeOfOpen {l : Launch} {V : zm_V} {N : Nat} {S : zm_S} {out : (Int32 × zm_S)} {d : Nat} {a0 : Nat} {i1 : Int32} (hd : 1 ≤ d) (h : zf_X3_placeOfOpen N a0 i1 S = some out) : zm_Met l zk_E V yX3_placeOfOpen (.code yX3_placeOfOpen cX3_placeOfOpen 3 (some .int)) d [.ref a0, .int i1] S 0 0 (zo_i out) zo_x := by
  refine zm_of (by decide +kernel) (Nat.le_of_ble_eq_true rfl) ?_
  intro p e R s m args below meth c hRR hX hr hxt
  have hR : R.frames = d ∧ R.locals = 64 * d := by rw [hRR]; exact ⟨rfl, rfl⟩
  have hX : zm_X p R s m args meth c RX3 "placeOfOpen" cX3_placeOfOpen 3 zk_E V 0 0 := hX
  unfold zf_X3_placeOfOpen at h
  refine zw_sub (lv' := [(0, .ref a0), (1, .int i1)]) (List.forall_mem_cons.mpr ⟨rfl, (List.forall_mem_cons.mpr ⟨rfl, zs_nil⟩)⟩) ?_
  refine zw_iconst (v := (0 : Int32)) hX dX3_placeOfOpen_0 (by decide) ?_
  refine zw_istore_n hX dX3_placeOfOpen_1 (by decide) ?_
  obtain ⟨r, g, h⟩ := zb_some h
  refine zw_sub (lv' := [(0, .ref a0), (1, .int i1), (2, .int (0 : Int32))]) (List.forall_mem_cons.mpr ⟨rfl, (List.forall_mem_cons.mpr ⟨rfl, (List.forall_mem_cons.mpr ⟨rfl, zs_nil⟩)⟩)⟩) ?_
  refine zt_X3_placeOfOpen_L2 hX hr hR hd (res := r) (out := out) a0 i1 ?_ ?_ N _ _ g
  · intro o ho
    subst ho
    exact Option.some.inj h
  · intro  S4 hx
    subst hx
    try dsimp only at h
    refine zw_iconst (v := (-1 : Int32)) hX dX3_placeOfOpen_28 (by decide) ?_
    obtain rfl := Option.some.inj h
    exact zw_iret hX hr dX3_placeOfOpen_29 rfl ⟨rfl, rfl⟩
def zf_X3_isOpenCall (N : Nat) (a0 : Nat) (i1 : Int32) (S : zm_S) : Option (Int32 × zm_S) := (zi S a0 3).bind (fun _ => (zf_X3_placeOfOpen N a0 i1 S).bind (fun r3 => if r3.1 = (-1 : Int32) then some ((0 : Int32), r3.2) else some ((1 : Int32), r3.2)))
set_option maxHeartbeats 4000000 in
set_option maxRecDepth 100000 in
theorem zt_X3_isOpenCall {l : Launch} {V : zm_V} {N : Nat} {S : zm_S} {out : (Int32 × zm_S)} {d : Nat} {a0 : Nat} {i1 : Int32} (hd : 2 ≤ d) (h : zf_X3_isOpenCall N a0 i1 S = some out) : zm_Met l zk_E V yX3_isOpenCall (.code yX3_isOpenCall cX3_isOpenCall 2 (some .boolean)) d [.ref a0, .int i1] S 0 0 (zo_i out) zo_x := by
  refine zm_of (by decide +kernel) (Nat.le_of_ble_eq_true rfl) ?_
  intro p e R s m args below meth c hRR hX hr hxt
  have hR : R.frames = d ∧ R.locals = 64 * d := by rw [hRR]; exact ⟨rfl, rfl⟩
  have hX : zm_X p R s m args meth c RX3 "isOpenCall" cX3_isOpenCall 2 zk_E V 0 0 := hX
  unfold zf_X3_isOpenCall at h
  refine zw_sub (lv' := [(0, .ref a0), (1, .int i1)]) (List.forall_mem_cons.mpr ⟨rfl, (List.forall_mem_cons.mpr ⟨rfl, zs_nil⟩)⟩) ?_
  refine zw_aload_n hX dX3_isOpenCall_0 rfl ?_
  refine zw_iload_n hX dX3_isOpenCall_1 rfl ?_
  obtain ⟨_, gi, h⟩ := zb_some h
  obtain ⟨r3, g, h⟩ := zb_some h
  refine zc_Vi (as := [.int i1]) hX gi (zt_X3_placeOfOpen (d := d - 1) (by omega) g) zl_X3_62 rfl dX3_isOpenCall_2 ⟨rfl, rfl, Nat.le_of_ble_eq_true rfl⟩ ⟨by omega, by omega⟩ ?_
  refine zw_iconst (v := (-1 : Int32)) hX dX3_isOpenCall_5 (by decide) ?_
  refine zw_icmp_eq (tgt := 13) hX dX3_isOpenCall_6 (by decide) (fun c6 => ?_) (fun c6 => ?_)
  · rw [if_pos c6] at h
    refine zw_iconst (v := (0 : Int32)) hX dX3_isOpenCall_13 (by decide) ?_
    obtain rfl := Option.some.inj h
    exact zw_iret hX hr dX3_isOpenCall_14 rfl ⟨rfl, rfl⟩
  · rw [if_neg c6] at h
    refine zw_iconst (v := (1 : Int32)) hX dX3_isOpenCall_9 (by decide) ?_
    refine zw_goto (tgt := 14) hX dX3_isOpenCall_10 (by decide) ?_
    obtain rfl := Option.some.inj h
    exact zw_iret hX hr dX3_isOpenCall_14 rfl ⟨rfl, rfl⟩
def zf_X3_isInSpan (N : Nat) (a0 : Nat) (i1 : Int32) (i2 : Int32) (S : zm_S) : Option (Int32 × zm_S) := (zg_r S a0 3 3).bind (fun b1 => (za_r S b1 i1).bind (fun b2 => (za_x S 0 b2 (0 : Int32)).bind (fun v3 => (zg_r S a0 3 3).bind (fun b4 => (za_r S b4 i1).bind (fun b5 => (za_x S 0 b5 (1 : Int32)).bind (fun v6 => (zf_J9_min_7cf53 N v3 v6 S).bind (fun r9 => (zg_r r9.2 a0 3 1).bind (fun b10 => (za_r r9.2 b10 i2).bind (fun b11 => (za_x r9.2 0 b11 (3 : Int32)).bind (fun v12 => if r9.1 < v12 then some ((0 : Int32), r9.2) else (zf_J9_max_7cf53 N v3 v6 r9.2).bind (fun r15 => (zg_r r15.2 a0 3 1).bind (fun b16 => (za_r r15.2 b16 i2).bind (fun b17 => (za_x r15.2 0 b17 (4 : Int32)).bind (fun v18 => if v18 < r15.1 then some ((0 : Int32), r15.2) else some ((1 : Int32), r15.2)))))))))))))))
set_option maxHeartbeats 4000000 in
set_option maxRecDepth 100000 in
theorem zt_X3_isInSpan {l : Launch} {V : zm_V} {N : Nat} {S : zm_S} {out : (Int32 × zm_S)} {d : Nat} {a0 : Nat} {i1 : Int32} {i2 : Int32} (hd : 2 ≤ d) (h : zf_X3_isInSpan N a0 i1 i2 S = some out) : zm_Met l zk_E V yX3_isInSpan (.code yX3_isInSpan cX3_isInSpan 5 (some .boolean)) d [.ref a0, .int i1, .int i2] S 0 0 (zo_i out) zo_x := by
  refine zm_of (by decide +kernel) (Nat.le_of_ble_eq_true rfl) ?_
  intro p e R s m args below meth c hRR hX hr hxt
  have hR : R.frames = d ∧ R.locals = 64 * d := by rw [hRR]; exact ⟨rfl, rfl⟩
  have hX : zm_X p R s m args meth c RX3 "isInSpan" cX3_isInSpan 5 zk_E V 0 0 := hX
  unfold zf_X3_isInSpan at h
  refine zw_sub (lv' := [(0, .ref a0), (1, .int i1), (2, .int i2)]) (List.forall_mem_cons.mpr ⟨rfl, (List.forall_mem_cons.mpr ⟨rfl, (List.forall_mem_cons.mpr ⟨rfl, zs_nil⟩)⟩)⟩) ?_
  refine zw_aload_n hX dX3_isInSpan_0 rfl ?_
  obtain ⟨b1, g, h⟩ := zb_some h
  refine zw_getr hX zl_X3_16 dX3_isInSpan_1 g ?_
  refine zw_iload_n hX dX3_isInSpan_4 rfl ?_
  obtain ⟨b2, g, h⟩ := zb_some h
  refine zw_xr hX dX3_isInSpan_5 g ?_
  refine zw_iconst (v := (0 : Int32)) hX dX3_isInSpan_6 (by decide) ?_
  obtain ⟨v3, g, h⟩ := zb_some h
  refine zw_xi hX dX3_isInSpan_7 g ?_
  refine zw_istore_n hX dX3_isInSpan_8 (by decide) ?_
  refine zw_aload_n hX dX3_isInSpan_9 rfl ?_
  obtain ⟨b4, g, h⟩ := zb_some h
  refine zw_getr hX zl_X3_16 dX3_isInSpan_10 g ?_
  refine zw_iload_n hX dX3_isInSpan_13 rfl ?_
  obtain ⟨b5, g, h⟩ := zb_some h
  refine zw_xr hX dX3_isInSpan_14 g ?_
  refine zw_iconst (v := (1 : Int32)) hX dX3_isInSpan_15 (by decide) ?_
  obtain ⟨v6, g, h⟩ := zb_some h
  refine zw_xi hX dX3_isInSpan_16 g ?_
  refine zw_istore hX dX3_isInSpan_17 (by decide) ?_
  refine zw_iload_n hX dX3_isInSpan_19 rfl ?_
  refine zw_iload hX dX3_isInSpan_20 rfl ?_
  obtain ⟨r9, g, h⟩ := zb_some h
  refine zc_Si (as := [.int v3, .int v6]) hX (zt_J9_min_7cf53 (d := d - 1) (by omega) g) zl_X3_74 dX3_isInSpan_22 ⟨rfl, rfl, Nat.le_of_ble_eq_true rfl⟩ ⟨by omega, by omega⟩ ?_
  refine zw_aload_n hX dX3_isInSpan_25 rfl ?_
  obtain ⟨b10, g, h⟩ := zb_some h
  refine zw_getr hX zl_X3_13 dX3_isInSpan_26 g ?_
  refine zw_iload_n hX dX3_isInSpan_29 rfl ?_
  obtain ⟨b11, g, h⟩ := zb_some h
  refine zw_xr hX dX3_isInSpan_30 g ?_
  refine zw_iconst (v := (3 : Int32)) hX dX3_isInSpan_31 (by decide) ?_
  obtain ⟨v12, g, h⟩ := zb_some h
  refine zw_xi hX dX3_isInSpan_32 g ?_
  refine zw_icmp_lt (tgt := 57) hX dX3_isInSpan_33 (by decide) (fun c33 => ?_) (fun c33 => ?_)
  · rw [if_pos c33] at h
    refine zw_iconst (v := (0 : Int32)) hX dX3_isInSpan_57 (by decide) ?_
    obtain rfl := Option.some.inj h
    exact zw_iret hX hr dX3_isInSpan_58 rfl ⟨rfl, rfl⟩
  · rw [if_neg c33] at h
    refine zw_iload_n hX dX3_isInSpan_36 rfl ?_
    refine zw_iload hX dX3_isInSpan_37 rfl ?_
    obtain ⟨r15, g, h⟩ := zb_some h
    refine zc_Si (as := [.int v3, .int v6]) hX (zt_J9_max_7cf53 (d := d - 1) (by omega) g) zl_X3_80 dX3_isInSpan_39 ⟨rfl, rfl, Nat.le_of_ble_eq_true rfl⟩ ⟨by omega, by omega⟩ ?_
    refine zw_aload_n hX dX3_isInSpan_42 rfl ?_
    obtain ⟨b16, g, h⟩ := zb_some h
    refine zw_getr hX zl_X3_13 dX3_isInSpan_43 g ?_
    refine zw_iload_n hX dX3_isInSpan_46 rfl ?_
    obtain ⟨b17, g, h⟩ := zb_some h
    refine zw_xr hX dX3_isInSpan_47 g ?_
    refine zw_iconst (v := (4 : Int32)) hX dX3_isInSpan_48 (by decide) ?_
    obtain ⟨v18, g, h⟩ := zb_some h
    refine zw_xi hX dX3_isInSpan_49 g ?_
    refine zw_icmp_gt (tgt := 57) hX dX3_isInSpan_50 (by decide) (fun c50 => ?_) (fun c50 => ?_)
    · rw [if_pos c50] at h
      refine zw_iconst (v := (0 : Int32)) hX dX3_isInSpan_57 (by decide) ?_
      obtain rfl := Option.some.inj h
      exact zw_iret hX hr dX3_isInSpan_58 rfl ⟨rfl, rfl⟩
    · rw [if_neg c50] at h
      refine zw_iconst (v := (1 : Int32)) hX dX3_isInSpan_53 (by decide) ?_
      refine zw_goto (tgt := 58) hX dX3_isInSpan_54 (by decide) ?_
      obtain rfl := Option.some.inj h
      exact zw_iret hX hr dX3_isInSpan_58 rfl ⟨rfl, rfl⟩
def zf_X3_endBeginning_L2 (N : Nat) : Nat → Nat → Int32 → Int32 → zm_S → Option ((Unit × zm_S) ⊕ ((Unit) × zm_S))
  | 0, _, _, _, _ => none
  | n + 1, a0, i1, i2, S => (zg_i S a0 3 0).bind (fun v1 => if v1 ≤ i2 then some (.inr ((), S)) else (zg_r S a0 3 1).bind (fun b2 => (za_r S b2 i2).bind (fun b3 => (za_x S 0 b3 (5 : Int32)).bind (fun v4 => if v4 = i1 then (zg_r S a0 3 1).bind (fun b5 => (za_r S b5 i2).bind (fun b6 => (zs_i S b6 (5 : Int32) (-1 : Int32)).bind (fun S7 => zf_X3_endBeginning_L2 N n a0 i1 (i2 + (1 : Int32)) S7))) else zf_X3_endBeginning_L2 N n a0 i1 (i2 + (1 : Int32)) S))))
set_option maxHeartbeats 4000000 in
set_option maxRecDepth 100000 in
theorem zt_X3_endBeginning_L2 {p : Program} {l : Launch} {e : Env} {R : Room} {s : State} {m : MethodId} {args : Array Value} {below : List Frame} {meth : Method} {c : Code} {V : zm_V} {mc ms d rc rs : Nat} (hX : zm_X p R s m args meth c RX3 "endBeginning" cX3_endBeginning 3 zk_E V mc ms) (hr : meth.sig.returnType = none) (hR : R.frames = d ∧ R.locals = 64 * d) (hd : 1 ≤ d) {N : Nat} {res : (Unit × zm_S) ⊕ ((Unit) × zm_S)} {out : (Unit × zm_S)} (a0 : Nat) (i1 : Int32) (hf : ∀ o, res = .inl o → o = out) (hk : ∀ (S' : zm_S), res = .inr ((), S') → zw p l e R s m args below meth c (vx_MQ below (zm_Qc zk_E V (zo_v out)) (zm_XC zk_E V zo_x) args s mc ms (fun q => V.2.2.2.1 ≤ q)) 3 zk_E V mc ms 37 [] [] S' rc rs) : ∀ (n : Nat) (i2 : Int32) (S : zm_S), zf_X3_endBeginning_L2 N n a0 i1 i2 S = some res → zw p l e R s m args below meth c (vx_MQ below (zm_Qc zk_E V (zo_v out)) (zm_XC zk_E V zo_x) args s mc ms (fun q => V.2.2.2.1 ≤ q)) 3 zk_E V mc ms 2 [(0, .ref a0), (1, .int i1), (2, .int i2)] [] S rc rs := by
  intro n
  induction n with
  | zero => intro i2 S h; cases h
  | succ n ih =>
    intro i2 S h
    rw [zf_X3_endBeginning_L2] at h
    refine zw_iload_n hX dX3_endBeginning_2 rfl ?_
    refine zw_aload_n hX dX3_endBeginning_3 rfl ?_
    obtain ⟨v1, g, h⟩ := zb_some h
    refine zw_geti hX zl_X3_46 dX3_endBeginning_4 g ?_
    refine zw_icmp_ge (tgt := 37) hX dX3_endBeginning_7 (by decide) (fun c7 => ?_) (fun c7 => ?_)
    · rw [if_pos c7] at h
      refine zw_sub (lv' := []) zs_nil ?_
      exact hk  _ (Option.some.inj h).symm
    · rw [if_neg c7] at h
      refine zw_aload_n hX dX3_endBeginning_10 rfl ?_
      obtain ⟨b2, g, h⟩ := zb_some h
      refine zw_getr hX zl_X3_13 dX3_endBeginning_11 g ?_
      refine zw_iload_n hX dX3_endBeginning_14 rfl ?_
      obtain ⟨b3, g, h⟩ := zb_some h
      refine zw_xr hX dX3_endBeginning_15 g ?_
      refine zw_iconst (v := (5 : Int32)) hX dX3_endBeginning_16 (by decide) ?_
      obtain ⟨v4, g, h⟩ := zb_some h
      refine zw_xi hX dX3_endBeginning_17 g ?_
      refine zw_iload_n hX dX3_endBeginning_18 rfl ?_
      refine zw_icmp_ne (tgt := 31) hX dX3_endBeginning_19 (by decide) (fun c19 => ?_) (fun c19 => ?_)
      · rw [if_neg c19] at h
        refine zw_iinc (v := (i2 + (1 : Int32))) hX dX3_endBeginning_31 rfl rfl (by decide) ?_
        refine zw_goto (tgt := 2) hX dX3_endBeginning_34 (by decide) ?_
        refine zw_sub (lv' := [(0, .ref a0), (1, .int i1), (2, .int (i2 + (1 : Int32)))]) (List.forall_mem_cons.mpr ⟨rfl, (List.forall_mem_cons.mpr ⟨rfl, (List.forall_mem_cons.mpr ⟨rfl, zs_nil⟩)⟩)⟩) ?_
        exact ih _ _ h
      · rw [if_pos c19] at h
        refine zw_aload_n hX dX3_endBeginning_22 rfl ?_
        obtain ⟨b5, g, h⟩ := zb_some h
        refine zw_getr hX zl_X3_13 dX3_endBeginning_23 g ?_
        refine zw_iload_n hX dX3_endBeginning_26 rfl ?_
        obtain ⟨b6, g, h⟩ := zb_some h
        refine zw_xr hX dX3_endBeginning_27 g ?_
        refine zw_iconst (v := (5 : Int32)) hX dX3_endBeginning_28 (by decide) ?_
        refine zw_iconst (v := (-1 : Int32)) hX dX3_endBeginning_29 (by decide) ?_
        obtain ⟨S7, g, h⟩ := zb_some h
        refine zw_si hX dX3_endBeginning_30 g ?_
        refine zw_iinc (v := (i2 + (1 : Int32))) hX dX3_endBeginning_31 rfl rfl (by decide) ?_
        refine zw_goto (tgt := 2) hX dX3_endBeginning_34 (by decide) ?_
        refine zw_sub (lv' := [(0, .ref a0), (1, .int i1), (2, .int (i2 + (1 : Int32)))]) (List.forall_mem_cons.mpr ⟨rfl, (List.forall_mem_cons.mpr ⟨rfl, (List.forall_mem_cons.mpr ⟨rfl, zs_nil⟩)⟩)⟩) ?_
        exact ih _ _ h
def zf_X3_endBeginning (N : Nat) (a0 : Nat) (i1 : Int32) (S : zm_S) : Option (Unit × zm_S) := (zf_X3_endBeginning_L2 N N a0 i1 (0 : Int32) S).bind (fun r => match r with | .inl o => some o | .inr (_, S8) => some ((), S8))
set_option maxHeartbeats 4000000 in
set_option maxRecDepth 100000 in
theorem zt_X3_endBeginning {l : Launch} {V : zm_V} {N : Nat} {S : zm_S} {out : (Unit × zm_S)} {d : Nat} {a0 : Nat} {i1 : Int32} (hd : 1 ≤ d) (h : zf_X3_endBeginning N a0 i1 S = some out) : zm_Met l zk_E V yX3_endBeginning (.code yX3_endBeginning cX3_endBeginning 3 none) d [.ref a0, .int i1] S 0 0 (zo_v out) zo_x := by
  refine zm_of (by decide +kernel) (Nat.le_of_ble_eq_true rfl) ?_
  intro p e R s m args below meth c hRR hX hr hxt
  have hR : R.frames = d ∧ R.locals = 64 * d := by rw [hRR]; exact ⟨rfl, rfl⟩
  have hX : zm_X p R s m args meth c RX3 "endBeginning" cX3_endBeginning 3 zk_E V 0 0 := hX
  unfold zf_X3_endBeginning at h
  refine zw_sub (lv' := [(0, .ref a0), (1, .int i1)]) (List.forall_mem_cons.mpr ⟨rfl, (List.forall_mem_cons.mpr ⟨rfl, zs_nil⟩)⟩) ?_
  refine zw_iconst (v := (0 : Int32)) hX dX3_endBeginning_0 (by decide) ?_
  refine zw_istore_n hX dX3_endBeginning_1 (by decide) ?_
  obtain ⟨r, g, h⟩ := zb_some h
  refine zw_sub (lv' := [(0, .ref a0), (1, .int i1), (2, .int (0 : Int32))]) (List.forall_mem_cons.mpr ⟨rfl, (List.forall_mem_cons.mpr ⟨rfl, (List.forall_mem_cons.mpr ⟨rfl, zs_nil⟩)⟩)⟩) ?_
  refine zt_X3_endBeginning_L2 hX hr hR hd (res := r) (out := out) a0 i1 ?_ ?_ N _ _ g
  · intro o ho
    subst ho
    exact Option.some.inj h
  · intro  S8 hx
    subst hx
    try dsimp only at h
    obtain rfl := Option.some.inj h
    exact zw_vret hX hr dX3_endBeginning_37 ⟨rfl, rfl⟩
def zf_X3_setBegun_J35 (N : Nat) (a0 : Nat) (i1 : Int32) (i2 : Int32) (S : zm_S) : Option (Int32 × zm_S) := (zi S a0 3).bind (fun _ => (zf_X3_endBeginning N a0 i1 S).bind (fun r3 => if i2 = (-1 : Int32) then some ((1 : Int32), r3.2) else (zg_r r3.2 a0 3 1).bind (fun b4 => (za_r r3.2 b4 i2).bind (fun b5 => (zs_i r3.2 b5 (5 : Int32) i1).bind (fun S6 => some ((1 : Int32), S6))))))
set_option maxHeartbeats 4000000 in
set_option maxRecDepth 100000 in
theorem zt_X3_setBegun_J35 {p : Program} {l : Launch} {e : Env} {R : Room} {s : State} {m : MethodId} {args : Array Value} {below : List Frame} {meth : Method} {c : Code} {V : zm_V} {mc ms d rc rs : Nat} (hX : zm_X p R s m args meth c RX3 "setBegun" cX3_setBegun 4 zk_E V mc ms) (hr : meth.sig.returnType = (some .boolean)) (hR : R.frames = d ∧ R.locals = 64 * d) (hd : 3 ≤ d) {N : Nat} {a0 : Nat} {i1 : Int32} {i2 : Int32} {out : (Int32 × zm_S)} {S : zm_S} (h : zf_X3_setBegun_J35 N a0 i1 i2 S = some out) : zw p l e R s m args below meth c (vx_MQ below (zm_Qc zk_E V (zo_i out)) (zm_XC zk_E V zo_x) args s mc ms (fun q => V.2.2.2.1 ≤ q)) 4 zk_E V mc ms 35 [(0, .ref a0), (1, .int i1), (2, .int i2)] [] S rc rs := by
  unfold zf_X3_setBegun_J35 at h
  refine zw_aload_n hX dX3_setBegun_35 rfl ?_
  refine zw_iload_n hX dX3_setBegun_36 rfl ?_
  obtain ⟨_, gi, h⟩ := zb_some h
  obtain ⟨r3, g, h⟩ := zb_some h
  refine zc_Vv (as := [.int i1]) hX gi (zt_X3_endBeginning (d := d - 1) (by omega) g) zl_X3_70 rfl dX3_setBegun_37 ⟨rfl, rfl, Nat.le_of_ble_eq_true rfl⟩ ⟨by omega, by omega⟩ ?_
  refine zw_iload_n hX dX3_setBegun_40 rfl ?_
  refine zw_iconst (v := (-1 : Int32)) hX dX3_setBegun_41 (by decide) ?_
  refine zw_icmp_eq (tgt := 54) hX dX3_setBegun_42 (by decide) (fun c42 => ?_) (fun c42 => ?_)
  · rw [if_pos c42] at h
    refine zw_iconst (v := (1 : Int32)) hX dX3_setBegun_54 (by decide) ?_
    obtain rfl := Option.some.inj h
    exact zw_iret hX hr dX3_setBegun_55 rfl ⟨rfl, rfl⟩
  · rw [if_neg c42] at h
    refine zw_aload_n hX dX3_setBegun_45 rfl ?_
    obtain ⟨b4, g, h⟩ := zb_some h
    refine zw_getr hX zl_X3_13 dX3_setBegun_46 g ?_
    refine zw_iload_n hX dX3_setBegun_49 rfl ?_
    obtain ⟨b5, g, h⟩ := zb_some h
    refine zw_xr hX dX3_setBegun_50 g ?_
    refine zw_iconst (v := (5 : Int32)) hX dX3_setBegun_51 (by decide) ?_
    refine zw_iload_n hX dX3_setBegun_52 rfl ?_
    obtain ⟨S6, g, h⟩ := zb_some h
    refine zw_si hX dX3_setBegun_53 g ?_
    refine zw_iconst (v := (1 : Int32)) hX dX3_setBegun_54 (by decide) ?_
    obtain rfl := Option.some.inj h
    exact zw_iret hX hr dX3_setBegun_55 rfl ⟨rfl, rfl⟩
def zf_X3_setBegun (N : Nat) (a0 : Nat) (i1 : Int32) (i2 : Int32) (S : zm_S) : Option (Int32 × zm_S) := if i2 = (-1 : Int32) then zf_X3_setBegun_J35 N a0 i1 i2 S else (zg_r S a0 3 1).bind (fun b7 => (za_r S b7 i2).bind (fun b8 => (za_x S 0 b8 (5 : Int32)).bind (fun v9 => (zi S a0 3).bind (fun _ => (zf_X3_isInSpan N a0 i1 i2 S).bind (fun r12 => if r12.1 = 0 then some ((0 : Int32), r12.2) else if v9 = (-1 : Int32) then zf_X3_setBegun_J35 N a0 i1 i2 r12.2 else if v9 = i1 then zf_X3_setBegun_J35 N a0 i1 i2 r12.2 else some ((0 : Int32), r12.2))))))
set_option maxHeartbeats 4000000 in
set_option maxRecDepth 100000 in
theorem zt_X3_setBegun {l : Launch} {V : zm_V} {N : Nat} {S : zm_S} {out : (Int32 × zm_S)} {d : Nat} {a0 : Nat} {i1 : Int32} {i2 : Int32} (hd : 3 ≤ d) (h : zf_X3_setBegun N a0 i1 i2 S = some out) : zm_Met l zk_E V yX3_setBegun (.code yX3_setBegun cX3_setBegun 4 (some .boolean)) d [.ref a0, .int i1, .int i2] S 0 0 (zo_i out) zo_x := by
  refine zm_of (by decide +kernel) (Nat.le_of_ble_eq_true rfl) ?_
  intro p e R s m args below meth c hRR hX hr hxt
  have hR : R.frames = d ∧ R.locals = 64 * d := by rw [hRR]; exact ⟨rfl, rfl⟩
  have hX : zm_X p R s m args meth c RX3 "setBegun" cX3_setBegun 4 zk_E V 0 0 := hX
  unfold zf_X3_setBegun at h
  refine zw_sub (lv' := [(0, .ref a0), (1, .int i1), (2, .int i2)]) (List.forall_mem_cons.mpr ⟨rfl, (List.forall_mem_cons.mpr ⟨rfl, (List.forall_mem_cons.mpr ⟨rfl, zs_nil⟩)⟩)⟩) ?_
  refine zw_iload_n hX dX3_setBegun_0 rfl ?_
  refine zw_iconst (v := (-1 : Int32)) hX dX3_setBegun_1 (by decide) ?_
  refine zw_icmp_eq (tgt := 35) hX dX3_setBegun_2 (by decide) (fun c2 => ?_) (fun c2 => ?_)
  · rw [if_pos c2] at h
    refine zw_sub (lv' := [(0, .ref a0), (1, .int i1), (2, .int i2)]) (List.forall_mem_cons.mpr ⟨rfl, (List.forall_mem_cons.mpr ⟨rfl, (List.forall_mem_cons.mpr ⟨rfl, zs_nil⟩)⟩)⟩) ?_
    exact zt_X3_setBegun_J35 hX hr hR hd h
  · rw [if_neg c2] at h
    refine zw_aload_n hX dX3_setBegun_5 rfl ?_
    obtain ⟨b7, g, h⟩ := zb_some h
    refine zw_getr hX zl_X3_13 dX3_setBegun_6 g ?_
    refine zw_iload_n hX dX3_setBegun_9 rfl ?_
    obtain ⟨b8, g, h⟩ := zb_some h
    refine zw_xr hX dX3_setBegun_10 g ?_
    refine zw_iconst (v := (5 : Int32)) hX dX3_setBegun_11 (by decide) ?_
    obtain ⟨v9, g, h⟩ := zb_some h
    refine zw_xi hX dX3_setBegun_12 g ?_
    refine zw_istore_n hX dX3_setBegun_13 (by decide) ?_
    refine zw_aload_n hX dX3_setBegun_14 rfl ?_
    refine zw_iload_n hX dX3_setBegun_15 rfl ?_
    refine zw_iload_n hX dX3_setBegun_16 rfl ?_
    obtain ⟨_, gi, h⟩ := zb_some h
    obtain ⟨r12, g, h⟩ := zb_some h
    refine zc_Vi (as := [.int i1, .int i2]) hX gi (zt_X3_isInSpan (d := d - 1) (by omega) g) zl_X3_66 rfl dX3_setBegun_17 ⟨rfl, rfl, Nat.le_of_ble_eq_true rfl⟩ ⟨by omega, by omega⟩ ?_
    refine zw_if_eq (tgt := 33) hX dX3_setBegun_20 (by decide) (fun c20 => ?_) (fun c20 => ?_)
    · rw [if_pos c20] at h
      refine zw_iconst (v := (0 : Int32)) hX dX3_setBegun_33 (by decide) ?_
      obtain rfl := Option.some.inj h
      exact zw_iret hX hr dX3_setBegun_34 rfl ⟨rfl, rfl⟩
    · rw [if_neg c20] at h
      refine zw_iload_n hX dX3_setBegun_23 rfl ?_
      refine zw_iconst (v := (-1 : Int32)) hX dX3_setBegun_24 (by decide) ?_
      refine zw_icmp_eq (tgt := 35) hX dX3_setBegun_25 (by decide) (fun c25 => ?_) (fun c25 => ?_)
      · rw [if_pos c25] at h
        refine zw_sub (lv' := [(0, .ref a0), (1, .int i1), (2, .int i2)]) (List.forall_mem_cons.mpr ⟨rfl, (List.forall_mem_cons.mpr ⟨rfl, (List.forall_mem_cons.mpr ⟨rfl, zs_nil⟩)⟩)⟩) ?_
        exact zt_X3_setBegun_J35 hX hr hR hd h
      · rw [if_neg c25] at h
        refine zw_iload_n hX dX3_setBegun_28 rfl ?_
        refine zw_iload_n hX dX3_setBegun_29 rfl ?_
        refine zw_icmp_eq (tgt := 35) hX dX3_setBegun_30 (by decide) (fun c30 => ?_) (fun c30 => ?_)
        · rw [if_pos c30] at h
          refine zw_sub (lv' := [(0, .ref a0), (1, .int i1), (2, .int i2)]) (List.forall_mem_cons.mpr ⟨rfl, (List.forall_mem_cons.mpr ⟨rfl, (List.forall_mem_cons.mpr ⟨rfl, zs_nil⟩)⟩)⟩) ?_
          exact zt_X3_setBegun_J35 hX hr hR hd h
        · rw [if_neg c30] at h
          refine zw_iconst (v := (0 : Int32)) hX dX3_setBegun_33 (by decide) ?_
          obtain rfl := Option.some.inj h
          exact zw_iret hX hr dX3_setBegun_34 rfl ⟨rfl, rfl⟩
def zf_X3_carsThatMayTake_J36 (N : Nat) (k : Nat → Int32 → Int32 → Int32 → Int32 → zm_S → Option ((Int32 × zm_S) ⊕ ((Int32 × Int32) × zm_S))) (a0 : Nat) (i1 : Int32) (i3 : Int32) (i4 : Int32) (t0 : Int32) (S : zm_S) : Option ((Int32 × zm_S) ⊕ ((Int32 × Int32) × zm_S)) := (zg_r S a0 3 1).bind (fun b5 => (za_r S b5 i4).bind (fun b6 => (za_x S 0 b6 (5 : Int32)).bind (fun v7 => if v7 = i1 then k a0 i1 t0 i4 (i4 + (1 : Int32)) S else k a0 i1 t0 i3 (i4 + (1 : Int32)) S)))
set_option maxHeartbeats 4000000 in
set_option maxRecDepth 100000 in
theorem zt_X3_carsThatMayTake_J36 {p : Program} {l : Launch} {e : Env} {R : Room} {s : State} {m : MethodId} {args : Array Value} {below : List Frame} {meth : Method} {c : Code} {V : zm_V} {mc ms d rc rs : Nat} (hX : zm_X p R s m args meth c RX3 "carsThatMayTake" cX3_carsThatMayTake 5 zk_E V mc ms) (hr : meth.sig.returnType = (some .int)) (hR : R.frames = d ∧ R.locals = 64 * d) (hd : 3 ≤ d) {N : Nat} {k : Nat → Int32 → Int32 → Int32 → Int32 → zm_S → Option ((Int32 × zm_S) ⊕ ((Int32 × Int32) × zm_S))} {a0 : Nat} {i1 : Int32} {i3 : Int32} {i4 : Int32} {t0 : Int32} {res : (Int32 × zm_S) ⊕ ((Int32 × Int32) × zm_S)} {out : (Int32 × zm_S)}   (hf : ∀ o, res = .inl o → o = out) (hk : ∀ (x2 : Int32) (x3 : Int32) (S' : zm_S), res = .inr ((x2, x3), S') → zw p l e R s m args below meth c (vx_MQ below (zm_Qc zk_E V (zo_i out)) (zm_XC zk_E V zo_x) args s mc ms (fun q => V.2.2.2.1 ≤ q)) 5 zk_E V mc ms 63 [(2, .int x2), (3, .int x3)] [] S' rc rs) (hrec : ∀ (i2' : Int32) (i3' : Int32) (i4' : Int32) (S : zm_S), k a0 i1 i2' i3' i4' S = some res → zw p l e R s m args below meth c (vx_MQ below (zm_Qc zk_E V (zo_i out)) (zm_XC zk_E V zo_x) args s mc ms (fun q => V.2.2.2.1 ≤ q)) 5 zk_E V mc ms 7 [(0, .ref a0), (1, .int i1), (2, .int i2'), (3, .int i3'), (4, .int i4')] [] S rc rs) {S : zm_S} (h : zf_X3_carsThatMayTake_J36 N k a0 i1 i3 i4 t0 S = some res) : zw p l e R s m args below meth c (vx_MQ below (zm_Qc zk_E V (zo_i out)) (zm_XC zk_E V zo_x) args s mc ms (fun q => V.2.2.2.1 ≤ q)) 5 zk_E V mc ms 36 [(0, .ref a0), (1, .int i1), (3, .int i3), (4, .int i4)] [.int t0] S rc rs := by
  unfold zf_X3_carsThatMayTake_J36 at h
  refine zw_istore_n hX dX3_carsThatMayTake_36 (by decide) ?_
  refine zw_aload_n hX dX3_carsThatMayTake_37 rfl ?_
  obtain ⟨b5, g, h⟩ := zb_some h
  refine zw_getr hX zl_X3_13 dX3_carsThatMayTake_38 g ?_
  refine zw_iload hX dX3_carsThatMayTake_41 rfl ?_
  obtain ⟨b6, g, h⟩ := zb_some h
  refine zw_xr hX dX3_carsThatMayTake_43 g ?_
  refine zw_iconst (v := (5 : Int32)) hX dX3_carsThatMayTake_44 (by decide) ?_
  obtain ⟨v7, g, h⟩ := zb_some h
  refine zw_xi hX dX3_carsThatMayTake_45 g ?_
  refine zw_iload_n hX dX3_carsThatMayTake_46 rfl ?_
  refine zw_icmp_ne (tgt := 55) hX dX3_carsThatMayTake_47 (by decide) (fun c47 => ?_) (fun c47 => ?_)
  · rw [if_neg c47] at h
    refine zw_iload_n hX dX3_carsThatMayTake_55 rfl ?_
    refine zw_istore_n hX dX3_carsThatMayTake_56 (by decide) ?_
    refine zw_iinc (v := (i4 + (1 : Int32))) hX dX3_carsThatMayTake_57 rfl rfl (by decide) ?_
    refine zw_goto (tgt := 7) hX dX3_carsThatMayTake_60 (by decide) ?_
    refine zw_sub (lv' := [(0, .ref a0), (1, .int i1), (2, .int t0), (3, .int i3), (4, .int (i4 + (1 : Int32)))]) (List.forall_mem_cons.mpr ⟨rfl, (List.forall_mem_cons.mpr ⟨rfl, (List.forall_mem_cons.mpr ⟨rfl, (List.forall_mem_cons.mpr ⟨rfl, (List.forall_mem_cons.mpr ⟨rfl, zs_nil⟩)⟩)⟩)⟩)⟩) ?_
    exact hrec _ _ _ _ h
  · rw [if_pos c47] at h
    refine zw_iload hX dX3_carsThatMayTake_50 rfl ?_
    refine zw_goto (tgt := 56) hX dX3_carsThatMayTake_52 (by decide) ?_
    refine zw_istore_n hX dX3_carsThatMayTake_56 (by decide) ?_
    refine zw_iinc (v := (i4 + (1 : Int32))) hX dX3_carsThatMayTake_57 rfl rfl (by decide) ?_
    refine zw_goto (tgt := 7) hX dX3_carsThatMayTake_60 (by decide) ?_
    refine zw_sub (lv' := [(0, .ref a0), (1, .int i1), (2, .int t0), (3, .int i4), (4, .int (i4 + (1 : Int32)))]) (List.forall_mem_cons.mpr ⟨rfl, (List.forall_mem_cons.mpr ⟨rfl, (List.forall_mem_cons.mpr ⟨rfl, (List.forall_mem_cons.mpr ⟨rfl, (List.forall_mem_cons.mpr ⟨rfl, zs_nil⟩)⟩)⟩)⟩)⟩) ?_
    exact hrec _ _ _ _ h
def zf_X3_carsThatMayTake_L7 (N : Nat) : Nat → Nat → Int32 → Int32 → Int32 → Int32 → zm_S → Option ((Int32 × zm_S) ⊕ ((Int32 × Int32) × zm_S))
  | 0, _, _, _, _, _, _ => none
  | n + 1, a0, i1, i2, i3, i4, S => (zg_i S a0 3 0).bind (fun v1 => if v1 ≤ i4 then some (.inr ((i2, i3), S)) else (zi S a0 3).bind (fun _ => (zf_X3_isInSpan N a0 i1 i4 S).bind (fun r4 => if r4.1 = 0 then zf_X3_carsThatMayTake_J36 N (zf_X3_carsThatMayTake_L7 N n) a0 i1 i3 i4 i2 r4.2 else zf_X3_carsThatMayTake_J36 N (zf_X3_carsThatMayTake_L7 N n) a0 i1 i3 i4 (i2 ||| ((1 : Int32) <<< (i4 &&& 31))) r4.2)))
set_option maxHeartbeats 4000000 in
set_option maxRecDepth 100000 in
theorem zt_X3_carsThatMayTake_L7 {p : Program} {l : Launch} {e : Env} {R : Room} {s : State} {m : MethodId} {args : Array Value} {below : List Frame} {meth : Method} {c : Code} {V : zm_V} {mc ms d rc rs : Nat} (hX : zm_X p R s m args meth c RX3 "carsThatMayTake" cX3_carsThatMayTake 5 zk_E V mc ms) (hr : meth.sig.returnType = (some .int)) (hR : R.frames = d ∧ R.locals = 64 * d) (hd : 3 ≤ d) {N : Nat} {res : (Int32 × zm_S) ⊕ ((Int32 × Int32) × zm_S)} {out : (Int32 × zm_S)} (a0 : Nat) (i1 : Int32) (hf : ∀ o, res = .inl o → o = out) (hk : ∀ (x2 : Int32) (x3 : Int32) (S' : zm_S), res = .inr ((x2, x3), S') → zw p l e R s m args below meth c (vx_MQ below (zm_Qc zk_E V (zo_i out)) (zm_XC zk_E V zo_x) args s mc ms (fun q => V.2.2.2.1 ≤ q)) 5 zk_E V mc ms 63 [(2, .int x2), (3, .int x3)] [] S' rc rs) : ∀ (n : Nat) (i2 : Int32) (i3 : Int32) (i4 : Int32) (S : zm_S), zf_X3_carsThatMayTake_L7 N n a0 i1 i2 i3 i4 S = some res → zw p l e R s m args below meth c (vx_MQ below (zm_Qc zk_E V (zo_i out)) (zm_XC zk_E V zo_x) args s mc ms (fun q => V.2.2.2.1 ≤ q)) 5 zk_E V mc ms 7 [(0, .ref a0), (1, .int i1), (2, .int i2), (3, .int i3), (4, .int i4)] [] S rc rs := by
  intro n
  induction n with
  | zero => intro i2 i3 i4 S h; cases h
  | succ n ih =>
    intro i2 i3 i4 S h
    rw [zf_X3_carsThatMayTake_L7] at h
    refine zw_iload hX dX3_carsThatMayTake_7 rfl ?_
    refine zw_aload_n hX dX3_carsThatMayTake_9 rfl ?_
    obtain ⟨v1, g, h⟩ := zb_some h
    refine zw_geti hX zl_X3_46 dX3_carsThatMayTake_10 g ?_
    refine zw_icmp_ge (tgt := 63) hX dX3_carsThatMayTake_13 (by decide) (fun c13 => ?_) (fun c13 => ?_)
    · rw [if_pos c13] at h
      refine zw_sub (lv' := [(2, .int i2), (3, .int i3)]) (List.forall_mem_cons.mpr ⟨rfl, (List.forall_mem_cons.mpr ⟨rfl, zs_nil⟩)⟩) ?_
      exact hk _ _ _ (Option.some.inj h).symm
    · rw [if_neg c13] at h
      refine zw_aload_n hX dX3_carsThatMayTake_16 rfl ?_
      refine zw_iload_n hX dX3_carsThatMayTake_17 rfl ?_
      refine zw_iload hX dX3_carsThatMayTake_18 rfl ?_
      obtain ⟨_, gi, h⟩ := zb_some h
      obtain ⟨r4, g, h⟩ := zb_some h
      refine zc_Vi (as := [.int i1, .int i4]) hX gi (zt_X3_isInSpan (d := d - 1) (by omega) g) zl_X3_66 rfl dX3_carsThatMayTake_20 ⟨rfl, rfl, Nat.le_of_ble_eq_true rfl⟩ ⟨by omega, by omega⟩ ?_
      refine zw_if_eq (tgt := 35) hX dX3_carsThatMayTake_23 (by decide) (fun c23 => ?_) (fun c23 => ?_)
      · rw [if_pos c23] at h
        refine zw_iload_n hX dX3_carsThatMayTake_35 rfl ?_
        refine zw_sub (lv' := [(0, .ref a0), (1, .int i1), (3, .int i3), (4, .int i4)]) (List.forall_mem_cons.mpr ⟨rfl, (List.forall_mem_cons.mpr ⟨rfl, (List.forall_mem_cons.mpr ⟨rfl, (List.forall_mem_cons.mpr ⟨rfl, zs_nil⟩)⟩)⟩)⟩) ?_
        exact zt_X3_carsThatMayTake_J36 hX hr hR hd hf hk ih h
      · rw [if_neg c23] at h
        refine zw_iload_n hX dX3_carsThatMayTake_26 rfl ?_
        refine zw_iconst (v := (1 : Int32)) hX dX3_carsThatMayTake_27 (by decide) ?_
        refine zw_iload hX dX3_carsThatMayTake_28 rfl ?_
        refine zw_ishl hX dX3_carsThatMayTake_30 ?_
        refine zw_ior hX dX3_carsThatMayTake_31 ?_
        refine zw_goto (tgt := 36) hX dX3_carsThatMayTake_32 (by decide) ?_
        refine zw_sub (lv' := [(0, .ref a0), (1, .int i1), (3, .int i3), (4, .int i4)]) (List.forall_mem_cons.mpr ⟨rfl, (List.forall_mem_cons.mpr ⟨rfl, (List.forall_mem_cons.mpr ⟨rfl, (List.forall_mem_cons.mpr ⟨rfl, zs_nil⟩)⟩)⟩)⟩) ?_
        exact zt_X3_carsThatMayTake_J36 hX hr hR hd hf hk ih h
def zf_X3_carsThatMayTake (N : Nat) (a0 : Nat) (i1 : Int32) (S : zm_S) : Option (Int32 × zm_S) := (zf_X3_carsThatMayTake_L7 N N a0 i1 (0 : Int32) (-1 : Int32) (0 : Int32) S).bind (fun r => match r with | .inl o => some o | .inr ((v9, v10), S8) => if v10 = (-1 : Int32) then some (v9, S8) else some ((v9 &&& ((1 : Int32) <<< (v10 &&& 31))), S8))
set_option maxHeartbeats 4000000 in
set_option maxRecDepth 100000 in
theorem zt_X3_carsThatMayTake {l : Launch} {V : zm_V} {N : Nat} {S : zm_S} {out : (Int32 × zm_S)} {d : Nat} {a0 : Nat} {i1 : Int32} (hd : 3 ≤ d) (h : zf_X3_carsThatMayTake N a0 i1 S = some out) : zm_Met l zk_E V yX3_carsThatMayTake (.code yX3_carsThatMayTake cX3_carsThatMayTake 5 (some .int)) d [.ref a0, .int i1] S 0 0 (zo_i out) zo_x := by
  refine zm_of (by decide +kernel) (Nat.le_of_ble_eq_true rfl) ?_
  intro p e R s m args below meth c hRR hX hr hxt
  have hR : R.frames = d ∧ R.locals = 64 * d := by rw [hRR]; exact ⟨rfl, rfl⟩
  have hX : zm_X p R s m args meth c RX3 "carsThatMayTake" cX3_carsThatMayTake 5 zk_E V 0 0 := hX
  unfold zf_X3_carsThatMayTake at h
  refine zw_sub (lv' := [(0, .ref a0), (1, .int i1)]) (List.forall_mem_cons.mpr ⟨rfl, (List.forall_mem_cons.mpr ⟨rfl, zs_nil⟩)⟩) ?_
  refine zw_iconst (v := (0 : Int32)) hX dX3_carsThatMayTake_0 (by decide) ?_
  refine zw_istore_n hX dX3_carsThatMayTake_1 (by decide) ?_
  refine zw_iconst (v := (-1 : Int32)) hX dX3_carsThatMayTake_2 (by decide) ?_
  refine zw_istore_n hX dX3_carsThatMayTake_3 (by decide) ?_
  refine zw_iconst (v := (0 : Int32)) hX dX3_carsThatMayTake_4 (by decide) ?_
  refine zw_istore hX dX3_carsThatMayTake_5 (by decide) ?_
  obtain ⟨r, g, h⟩ := zb_some h
  refine zw_sub (lv' := [(0, .ref a0), (1, .int i1), (2, .int (0 : Int32)), (3, .int (-1 : Int32)), (4, .int (0 : Int32))]) (List.forall_mem_cons.mpr ⟨rfl, (List.forall_mem_cons.mpr ⟨rfl, (List.forall_mem_cons.mpr ⟨rfl, (List.forall_mem_cons.mpr ⟨rfl, (List.forall_mem_cons.mpr ⟨rfl, zs_nil⟩)⟩)⟩)⟩)⟩) ?_
  refine zt_X3_carsThatMayTake_L7 hX hr hR hd (res := r) (out := out) a0 i1 ?_ ?_ N _ _ _ _ g
  · intro o ho
    subst ho
    exact Option.some.inj h
  · intro v9 v10 S8 hx
    subst hx
    try dsimp only at h
    refine zw_iload_n hX dX3_carsThatMayTake_63 rfl ?_
    refine zw_iconst (v := (-1 : Int32)) hX dX3_carsThatMayTake_64 (by decide) ?_
    refine zw_icmp_ne (tgt := 72) hX dX3_carsThatMayTake_65 (by decide) (fun c65 => ?_) (fun c65 => ?_)
    · rw [if_neg c65] at h
      refine zw_iload_n hX dX3_carsThatMayTake_72 rfl ?_
      refine zw_iconst (v := (1 : Int32)) hX dX3_carsThatMayTake_73 (by decide) ?_
      refine zw_iload_n hX dX3_carsThatMayTake_74 rfl ?_
      refine zw_ishl hX dX3_carsThatMayTake_75 ?_
      refine zw_iand hX dX3_carsThatMayTake_76 ?_
      obtain rfl := Option.some.inj h
      exact zw_iret hX hr dX3_carsThatMayTake_77 rfl ⟨rfl, rfl⟩
    · rw [if_pos c65] at h
      refine zw_iload_n hX dX3_carsThatMayTake_68 rfl ?_
      refine zw_goto (tgt := 77) hX dX3_carsThatMayTake_69 (by decide) ?_
      obtain rfl := Option.some.inj h
      exact zw_iret hX hr dX3_carsThatMayTake_77 rfl ⟨rfl, rfl⟩
def zf_X3_mayTakeAll_L2 (N : Nat) : Nat → Nat → Int32 → Int32 → Int32 → zm_S → Option ((Int32 × zm_S) ⊕ ((Unit) × zm_S))
  | 0, _, _, _, _, _ => none
  | n + 1, a0, i1, i2, i3, S => (zg_i S a0 3 4).bind (fun v1 => if v1 ≤ i3 then some (.inr ((), S)) else if ((i2 >>> (i3 &&& 31)) &&& (1 : Int32)) = 0 then zf_X3_mayTakeAll_L2 N n a0 i1 i2 (i3 + (1 : Int32)) S else (zg_r S a0 3 8).bind (fun b2 => (za_x S 0 b2 i3).bind (fun v3 => if ((v3 >>> (i1 &&& 31)) &&& (1 : Int32)) = 0 then some (.inl ((0 : Int32), S)) else zf_X3_mayTakeAll_L2 N n a0 i1 i2 (i3 + (1 : Int32)) S)))
set_option maxHeartbeats 4000000 in
set_option maxRecDepth 100000 in
theorem zt_X3_mayTakeAll_L2 {p : Program} {l : Launch} {e : Env} {R : Room} {s : State} {m : MethodId} {args : Array Value} {below : List Frame} {meth : Method} {c : Code} {V : zm_V} {mc ms d rc rs : Nat} (hX : zm_X p R s m args meth c RX3 "mayTakeAll" cX3_mayTakeAll 4 zk_E V mc ms) (hr : meth.sig.returnType = (some .boolean)) (hR : R.frames = d ∧ R.locals = 64 * d) (hd : 1 ≤ d) {N : Nat} {res : (Int32 × zm_S) ⊕ ((Unit) × zm_S)} {out : (Int32 × zm_S)} (a0 : Nat) (i1 : Int32) (i2 : Int32) (hf : ∀ o, res = .inl o → o = out) (hk : ∀ (S' : zm_S), res = .inr ((), S') → zw p l e R s m args below meth c (vx_MQ below (zm_Qc zk_E V (zo_i out)) (zm_XC zk_E V zo_x) args s mc ms (fun q => V.2.2.2.1 ≤ q)) 4 zk_E V mc ms 39 [] [] S' rc rs) : ∀ (n : Nat) (i3 : Int32) (S : zm_S), zf_X3_mayTakeAll_L2 N n a0 i1 i2 i3 S = some res → zw p l e R s m args below meth c (vx_MQ below (zm_Qc zk_E V (zo_i out)) (zm_XC zk_E V zo_x) args s mc ms (fun q => V.2.2.2.1 ≤ q)) 4 zk_E V mc ms 2 [(0, .ref a0), (1, .int i1), (2, .int i2), (3, .int i3)] [] S rc rs := by
  intro n
  induction n with
  | zero => intro i3 S h; cases h
  | succ n ih =>
    intro i3 S h
    rw [zf_X3_mayTakeAll_L2] at h
    refine zw_iload_n hX dX3_mayTakeAll_2 rfl ?_
    refine zw_aload_n hX dX3_mayTakeAll_3 rfl ?_
    obtain ⟨v1, g, h⟩ := zb_some h
    refine zw_geti hX zl_X3_53 dX3_mayTakeAll_4 g ?_
    refine zw_icmp_ge (tgt := 39) hX dX3_mayTakeAll_7 (by decide) (fun c7 => ?_) (fun c7 => ?_)
    · rw [if_pos c7] at h
      refine zw_sub (lv' := []) zs_nil ?_
      exact hk  _ (Option.some.inj h).symm
    · rw [if_neg c7] at h
      refine zw_iload_n hX dX3_mayTakeAll_10 rfl ?_
      refine zw_iload_n hX dX3_mayTakeAll_11 rfl ?_
      refine zw_ishr hX dX3_mayTakeAll_12 ?_
      refine zw_iconst (v := (1 : Int32)) hX dX3_mayTakeAll_13 (by decide) ?_
      refine zw_iand hX dX3_mayTakeAll_14 ?_
      refine zw_if_eq (tgt := 33) hX dX3_mayTakeAll_15 (by decide) (fun c15 => ?_) (fun c15 => ?_)
      · rw [if_pos c15] at h
        refine zw_iinc (v := (i3 + (1 : Int32))) hX dX3_mayTakeAll_33 rfl rfl (by decide) ?_
        refine zw_goto (tgt := 2) hX dX3_mayTakeAll_36 (by decide) ?_
        refine zw_sub (lv' := [(0, .ref a0), (1, .int i1), (2, .int i2), (3, .int (i3 + (1 : Int32)))]) (List.forall_mem_cons.mpr ⟨rfl, (List.forall_mem_cons.mpr ⟨rfl, (List.forall_mem_cons.mpr ⟨rfl, (List.forall_mem_cons.mpr ⟨rfl, zs_nil⟩)⟩)⟩)⟩) ?_
        exact ih _ _ h
      · rw [if_neg c15] at h
        refine zw_aload_n hX dX3_mayTakeAll_18 rfl ?_
        obtain ⟨b2, g, h⟩ := zb_some h
        refine zw_getr hX zl_X3_26 dX3_mayTakeAll_19 g ?_
        refine zw_iload_n hX dX3_mayTakeAll_22 rfl ?_
        obtain ⟨v3, g, h⟩ := zb_some h
        refine zw_xi hX dX3_mayTakeAll_23 g ?_
        refine zw_iload_n hX dX3_mayTakeAll_24 rfl ?_
        refine zw_ishr hX dX3_mayTakeAll_25 ?_
        refine zw_iconst (v := (1 : Int32)) hX dX3_mayTakeAll_26 (by decide) ?_
        refine zw_iand hX dX3_mayTakeAll_27 ?_
        refine zw_if_ne (tgt := 33) hX dX3_mayTakeAll_28 (by decide) (fun c28 => ?_) (fun c28 => ?_)
        · rw [if_neg c28] at h
          refine zw_iinc (v := (i3 + (1 : Int32))) hX dX3_mayTakeAll_33 rfl rfl (by decide) ?_
          refine zw_goto (tgt := 2) hX dX3_mayTakeAll_36 (by decide) ?_
          refine zw_sub (lv' := [(0, .ref a0), (1, .int i1), (2, .int i2), (3, .int (i3 + (1 : Int32)))]) (List.forall_mem_cons.mpr ⟨rfl, (List.forall_mem_cons.mpr ⟨rfl, (List.forall_mem_cons.mpr ⟨rfl, (List.forall_mem_cons.mpr ⟨rfl, zs_nil⟩)⟩)⟩)⟩) ?_
          exact ih _ _ h
        · rw [if_pos c28] at h
          refine zw_iconst (v := (0 : Int32)) hX dX3_mayTakeAll_31 (by decide) ?_
          have hz := hf _ (Option.some.inj h).symm
          subst hz
          exact zw_iret hX hr dX3_mayTakeAll_32 rfl ⟨rfl, rfl⟩
def zf_X3_mayTakeAll (N : Nat) (a0 : Nat) (i1 : Int32) (i2 : Int32) (S : zm_S) : Option (Int32 × zm_S) := (zf_X3_mayTakeAll_L2 N N a0 i1 i2 (0 : Int32) S).bind (fun r => match r with | .inl o => some o | .inr (_, S4) => some ((1 : Int32), S4))
set_option maxHeartbeats 4000000 in
set_option maxRecDepth 100000 in
theorem zt_X3_mayTakeAll {l : Launch} {V : zm_V} {N : Nat} {S : zm_S} {out : (Int32 × zm_S)} {d : Nat} {a0 : Nat} {i1 : Int32} {i2 : Int32} (hd : 1 ≤ d) (h : zf_X3_mayTakeAll N a0 i1 i2 S = some out) : zm_Met l zk_E V yX3_mayTakeAll (.code yX3_mayTakeAll cX3_mayTakeAll 4 (some .boolean)) d [.ref a0, .int i1, .int i2] S 0 0 (zo_i out) zo_x := by
  refine zm_of (by decide +kernel) (Nat.le_of_ble_eq_true rfl) ?_
  intro p e R s m args below meth c hRR hX hr hxt
  have hR : R.frames = d ∧ R.locals = 64 * d := by rw [hRR]; exact ⟨rfl, rfl⟩
  have hX : zm_X p R s m args meth c RX3 "mayTakeAll" cX3_mayTakeAll 4 zk_E V 0 0 := hX
  unfold zf_X3_mayTakeAll at h
  refine zw_sub (lv' := [(0, .ref a0), (1, .int i1), (2, .int i2)]) (List.forall_mem_cons.mpr ⟨rfl, (List.forall_mem_cons.mpr ⟨rfl, (List.forall_mem_cons.mpr ⟨rfl, zs_nil⟩)⟩)⟩) ?_
  refine zw_iconst (v := (0 : Int32)) hX dX3_mayTakeAll_0 (by decide) ?_
  refine zw_istore_n hX dX3_mayTakeAll_1 (by decide) ?_
  obtain ⟨r, g, h⟩ := zb_some h
  refine zw_sub (lv' := [(0, .ref a0), (1, .int i1), (2, .int i2), (3, .int (0 : Int32))]) (List.forall_mem_cons.mpr ⟨rfl, (List.forall_mem_cons.mpr ⟨rfl, (List.forall_mem_cons.mpr ⟨rfl, (List.forall_mem_cons.mpr ⟨rfl, zs_nil⟩)⟩)⟩)⟩) ?_
  refine zt_X3_mayTakeAll_L2 hX hr hR hd (res := r) (out := out) a0 i1 i2 ?_ ?_ N _ _ g
  · intro o ho
    subst ho
    exact Option.some.inj h
  · intro  S4 hx
    subst hx
    try dsimp only at h
    refine zw_iconst (v := (1 : Int32)) hX dX3_mayTakeAll_39 (by decide) ?_
    obtain rfl := Option.some.inj h
    exact zw_iret hX hr dX3_mayTakeAll_40 rfl ⟨rfl, rfl⟩
def zf_X3_mayComeNext (N : Nat) (a0 : Nat) (i1 : Int32) (i2 : Int32) (i3 : Int32) (i4 : Int32) (S : zm_S) : Option (Int32 × zm_S) := (zg_r S a0 3 1).bind (fun b1 => (za_r S b1 i1).bind (fun b2 => (za_x S 0 b2 (5 : Int32)).bind (fun v3 => (zi S a0 3).bind (fun _ => (zf_X3_placeOfOpen N a0 v3 S).bind (fun r6 => if 0 < i4 then some ((1 : Int32), r6.2) else if r6.1 = (-1 : Int32) then some ((1 : Int32), r6.2) else if r6.1 = i2 then some ((1 : Int32), r6.2) else if ((i3 >>> (r6.1 &&& 31)) &&& (1 : Int32)) = 0 then some ((1 : Int32), r6.2) else some ((0 : Int32), r6.2))))))
set_option maxHeartbeats 4000000 in
set_option maxRecDepth 100000 in
theorem zt_X3_mayComeNext {l : Launch} {V : zm_V} {N : Nat} {S : zm_S} {out : (Int32 × zm_S)} {d : Nat} {a0 : Nat} {i1 : Int32} {i2 : Int32} {i3 : Int32} {i4 : Int32} (hd : 2 ≤ d) (h : zf_X3_mayComeNext N a0 i1 i2 i3 i4 S = some out) : zm_Met l zk_E V yX3_mayComeNext (.code yX3_mayComeNext cX3_mayComeNext 6 (some .boolean)) d [.ref a0, .int i1, .int i2, .int i3, .int i4] S 0 0 (zo_i out) zo_x := by
  refine zm_of (by decide +kernel) (Nat.le_of_ble_eq_true rfl) ?_
  intro p e R s m args below meth c hRR hX hr hxt
  have hR : R.frames = d ∧ R.locals = 64 * d := by rw [hRR]; exact ⟨rfl, rfl⟩
  have hX : zm_X p R s m args meth c RX3 "mayComeNext" cX3_mayComeNext 6 zk_E V 0 0 := hX
  unfold zf_X3_mayComeNext at h
  refine zw_sub (lv' := [(0, .ref a0), (1, .int i1), (2, .int i2), (3, .int i3), (4, .int i4)]) (List.forall_mem_cons.mpr ⟨rfl, (List.forall_mem_cons.mpr ⟨rfl, (List.forall_mem_cons.mpr ⟨rfl, (List.forall_mem_cons.mpr ⟨rfl, (List.forall_mem_cons.mpr ⟨rfl, zs_nil⟩)⟩)⟩)⟩)⟩) ?_
  refine zw_aload_n hX dX3_mayComeNext_0 rfl ?_
  refine zw_aload_n hX dX3_mayComeNext_1 rfl ?_
  obtain ⟨b1, g, h⟩ := zb_some h
  refine zw_getr hX zl_X3_13 dX3_mayComeNext_2 g ?_
  refine zw_iload_n hX dX3_mayComeNext_5 rfl ?_
  obtain ⟨b2, g, h⟩ := zb_some h
  refine zw_xr hX dX3_mayComeNext_6 g ?_
  refine zw_iconst (v := (5 : Int32)) hX dX3_mayComeNext_7 (by decide) ?_
  obtain ⟨v3, g, h⟩ := zb_some h
  refine zw_xi hX dX3_mayComeNext_8 g ?_
  obtain ⟨_, gi, h⟩ := zb_some h
  obtain ⟨r6, g, h⟩ := zb_some h
  refine zc_Vi (as := [.int v3]) hX gi (zt_X3_placeOfOpen (d := d - 1) (by omega) g) zl_X3_62 rfl dX3_mayComeNext_9 ⟨rfl, rfl, Nat.le_of_ble_eq_true rfl⟩ ⟨by omega, by omega⟩ ?_
  refine zw_istore hX dX3_mayComeNext_12 (by decide) ?_
  refine zw_iload hX dX3_mayComeNext_14 rfl ?_
  refine zw_if_gt (tgt := 40) hX dX3_mayComeNext_16 (by decide) (fun c16 => ?_) (fun c16 => ?_)
  · rw [if_pos c16] at h
    refine zw_iconst (v := (1 : Int32)) hX dX3_mayComeNext_40 (by decide) ?_
    refine zw_goto (tgt := 45) hX dX3_mayComeNext_41 (by decide) ?_
    obtain rfl := Option.some.inj h
    exact zw_iret hX hr dX3_mayComeNext_45 rfl ⟨rfl, rfl⟩
  · rw [if_neg c16] at h
    refine zw_iload hX dX3_mayComeNext_19 rfl ?_
    refine zw_iconst (v := (-1 : Int32)) hX dX3_mayComeNext_21 (by decide) ?_
    refine zw_icmp_eq (tgt := 40) hX dX3_mayComeNext_22 (by decide) (fun c22 => ?_) (fun c22 => ?_)
    · rw [if_pos c22] at h
      refine zw_iconst (v := (1 : Int32)) hX dX3_mayComeNext_40 (by decide) ?_
      refine zw_goto (tgt := 45) hX dX3_mayComeNext_41 (by decide) ?_
      obtain rfl := Option.some.inj h
      exact zw_iret hX hr dX3_mayComeNext_45 rfl ⟨rfl, rfl⟩
    · rw [if_neg c22] at h
      refine zw_iload hX dX3_mayComeNext_25 rfl ?_
      refine zw_iload_n hX dX3_mayComeNext_27 rfl ?_
      refine zw_icmp_eq (tgt := 40) hX dX3_mayComeNext_28 (by decide) (fun c28 => ?_) (fun c28 => ?_)
      · rw [if_pos c28] at h
        refine zw_iconst (v := (1 : Int32)) hX dX3_mayComeNext_40 (by decide) ?_
        refine zw_goto (tgt := 45) hX dX3_mayComeNext_41 (by decide) ?_
        obtain rfl := Option.some.inj h
        exact zw_iret hX hr dX3_mayComeNext_45 rfl ⟨rfl, rfl⟩
      · rw [if_neg c28] at h
        refine zw_iload_n hX dX3_mayComeNext_31 rfl ?_
        refine zw_iload hX dX3_mayComeNext_32 rfl ?_
        refine zw_ishr hX dX3_mayComeNext_34 ?_
        refine zw_iconst (v := (1 : Int32)) hX dX3_mayComeNext_35 (by decide) ?_
        refine zw_iand hX dX3_mayComeNext_36 ?_
        refine zw_if_ne (tgt := 44) hX dX3_mayComeNext_37 (by decide) (fun c37 => ?_) (fun c37 => ?_)
        · rw [if_neg c37] at h
          refine zw_iconst (v := (0 : Int32)) hX dX3_mayComeNext_44 (by decide) ?_
          obtain rfl := Option.some.inj h
          exact zw_iret hX hr dX3_mayComeNext_45 rfl ⟨rfl, rfl⟩
        · rw [if_pos c37] at h
          refine zw_iconst (v := (1 : Int32)) hX dX3_mayComeNext_40 (by decide) ?_
          refine zw_goto (tgt := 45) hX dX3_mayComeNext_41 (by decide) ?_
          obtain rfl := Option.some.inj h
          exact zw_iret hX hr dX3_mayComeNext_45 rfl ⟨rfl, rfl⟩
def zf_J9_abs_0f7a4 (N : Nat) (i0 : Int32) (S : zm_S) : Option (Int32 × zm_S) := if 0 ≤ i0 then some (i0, S) else some ((-i0), S)
set_option maxHeartbeats 4000000 in
set_option maxRecDepth 100000 in
theorem zt_J9_abs_0f7a4 {l : Launch} {V : zm_V} {N : Nat} {S : zm_S} {out : (Int32 × zm_S)} {d : Nat} {i0 : Int32} (hd : 1 ≤ d) (h : zf_J9_abs_0f7a4 N i0 S = some out) : zm_Met l zk_E V yJ9_abs_0f7a4 (.code yJ9_abs_0f7a4 cJ9_abs_0f7a4 1 (some .int)) d [.int i0] S 0 0 (zo_i out) zo_x := by
  refine zm_of (by decide +kernel) (Nat.le_of_ble_eq_true rfl) ?_
  intro p e R s m args below meth c hRR hX hr hxt
  have hR : R.frames = d ∧ R.locals = 64 * d := by rw [hRR]; exact ⟨rfl, rfl⟩
  have hX : zm_X p R s m args meth c RJ9 "abs" cJ9_abs_0f7a4 1 zk_E V 0 0 := hX
  unfold zf_J9_abs_0f7a4 at h
  refine zw_sub (lv' := [(0, .int i0)]) (List.forall_mem_cons.mpr ⟨rfl, zs_nil⟩) ?_
  refine zw_iload_n hX dJ9_abs_0f7a4_0 rfl ?_
  refine zw_if_ge (tgt := 9) hX dJ9_abs_0f7a4_1 (by decide) (fun c1 => ?_) (fun c1 => ?_)
  · rw [if_pos c1] at h
    refine zw_iload_n hX dJ9_abs_0f7a4_9 rfl ?_
    obtain rfl := Option.some.inj h
    exact zw_iret hX hr dJ9_abs_0f7a4_10 rfl ⟨rfl, rfl⟩
  · rw [if_neg c1] at h
    refine zw_iload_n hX dJ9_abs_0f7a4_4 rfl ?_
    refine zw_ineg hX dJ9_abs_0f7a4_5 ?_
    refine zw_goto (tgt := 10) hX dJ9_abs_0f7a4_6 (by decide) ?_
    obtain rfl := Option.some.inj h
    exact zw_iret hX hr dJ9_abs_0f7a4_10 rfl ⟨rfl, rfl⟩
def zf_X3_weightOf (N : Nat) (a0 : Nat) (a1 : Nat) (S : zm_S) : Option (Int64 × zm_S) := (zg_i S a0 3 7).bind (fun v1 => (za_x S 0 a1 (2 : Int32)).bind (fun v2 => some ((((1 : Int32) + ((v1 - v2) / (30 : Int32)))).toInt64, S)))
set_option maxHeartbeats 4000000 in
set_option maxRecDepth 100000 in
theorem zt_X3_weightOf {l : Launch} {V : zm_V} {N : Nat} {S : zm_S} {out : (Int64 × zm_S)} {d : Nat} {a0 : Nat} {a1 : Nat} (hd : 1 ≤ d) (h : zf_X3_weightOf N a0 a1 S = some out) : zm_Met l zk_E V yX3_weightOf (.code yX3_weightOf cX3_weightOf 2 (some .long)) d [.ref a0, .ref a1] S 0 0 (zo_l out) zo_x := by
  refine zm_of (by decide +kernel) (Nat.le_of_ble_eq_true rfl) ?_
  intro p e R s m args below meth c hRR hX hr hxt
  have hR : R.frames = d ∧ R.locals = 64 * d := by rw [hRR]; exact ⟨rfl, rfl⟩
  have hX : zm_X p R s m args meth c RX3 "weightOf" cX3_weightOf 2 zk_E V 0 0 := hX
  unfold zf_X3_weightOf at h
  refine zw_sub (lv' := [(0, .ref a0), (1, .ref a1)]) (List.forall_mem_cons.mpr ⟨rfl, (List.forall_mem_cons.mpr ⟨rfl, zs_nil⟩)⟩) ?_
  refine zw_iconst (v := (1 : Int32)) hX dX3_weightOf_0 (by decide) ?_
  refine zw_aload_n hX dX3_weightOf_1 rfl ?_
  obtain ⟨v1, g, h⟩ := zb_some h
  refine zw_geti hX zl_X3_89 dX3_weightOf_2 g ?_
  refine zw_aload_n hX dX3_weightOf_5 rfl ?_
  refine zw_iconst (v := (2 : Int32)) hX dX3_weightOf_6 (by decide) ?_
  obtain ⟨v2, g, h⟩ := zb_some h
  refine zw_xi hX dX3_weightOf_7 g ?_
  refine zw_isub hX dX3_weightOf_8 ?_
  refine zw_bipush (v := (30 : Int32)) hX dX3_weightOf_9 (by decide) ?_
  refine zw_idiv hX dX3_weightOf_11 (by decide) ?_
  refine zw_iadd hX dX3_weightOf_12 ?_
  refine zw_i2l hX dX3_weightOf_13 ?_
  obtain rfl := Option.some.inj h
  exact zw_lret hX hr dX3_weightOf_14 ⟨rfl, rfl⟩
def zf_X4_sortActs_L13 (N : Nat) : Nat → Nat → Int32 → Int32 → zm_S → Option ((Unit × zm_S) ⊕ ((Int32) × zm_S))
  | 0, _, _, _, _ => none
  | n + 1, a0, i1, i2, S => if i2 ≤ 0 then some (.inr (i2, S)) else (zg_r S a0 4 7).bind (fun b3 => (zg_r S a0 4 10).bind (fun b4 => (za_x S 0 b4 (i2 - (1 : Int32))).bind (fun v5 => (za_r S b3 v5).bind (fun b6 => (za_x S 0 b6 (2 : Int32)).bind (fun v7 => (zg_r S a0 4 7).bind (fun b8 => (za_r S b8 i1).bind (fun b9 => (za_x S 0 b9 (2 : Int32)).bind (fun v10 => if v10 ≤ v7 then some (.inr (i2, S)) else (zg_r S a0 4 10).bind (fun b11 => (zg_r S a0 4 10).bind (fun b12 => (za_x S 0 b12 (i2 - (1 : Int32))).bind (fun v13 => (zs_i S b11 i2 v13).bind (fun S14 => zf_X4_sortActs_L13 N n a0 i1 (i2 + (-1 : Int32)) S14))))))))))))
set_option maxHeartbeats 4000000 in
set_option maxRecDepth 100000 in
theorem zt_X4_sortActs_L13 {p : Program} {l : Launch} {e : Env} {R : Room} {s : State} {m : MethodId} {args : Array Value} {below : List Frame} {meth : Method} {c : Code} {V : zm_V} {mc ms d rc rs : Nat} (hX : zm_X p R s m args meth c RX4 "sortActs" cX4_sortActs 3 zk_E V mc ms) (hr : meth.sig.returnType = none) (hR : R.frames = d ∧ R.locals = 64 * d) (hd : 1 ≤ d) {N : Nat} {res : (Unit × zm_S) ⊕ ((Int32) × zm_S)} {out : (Unit × zm_S)} (a0 : Nat) (i1 : Int32) (hf : ∀ o, res = .inl o → o = out) (hk : ∀ (x2 : Int32) (S' : zm_S), res = .inr (x2, S') → zw p l e R s m args below meth c (vx_MQ below (zm_Qc zk_E V (zo_v out)) (zm_XC zk_E V zo_x) args s mc ms (fun q => V.2.2.2.1 ≤ q)) 3 zk_E V mc ms 63 [(0, .ref a0), (1, .int i1), (2, .int x2)] [] S' rc rs) : ∀ (n : Nat) (i2 : Int32) (S : zm_S), zf_X4_sortActs_L13 N n a0 i1 i2 S = some res → zw p l e R s m args below meth c (vx_MQ below (zm_Qc zk_E V (zo_v out)) (zm_XC zk_E V zo_x) args s mc ms (fun q => V.2.2.2.1 ≤ q)) 3 zk_E V mc ms 13 [(0, .ref a0), (1, .int i1), (2, .int i2)] [] S rc rs := by
  intro n
  induction n with
  | zero => intro i2 S h; cases h
  | succ n ih =>
    intro i2 S h
    rw [zf_X4_sortActs_L13] at h
    refine zw_iload_n hX dX4_sortActs_13 rfl ?_
    refine zw_if_le (tgt := 63) hX dX4_sortActs_14 (by decide) (fun c14 => ?_) (fun c14 => ?_)
    · rw [if_pos c14] at h
      refine zw_sub (lv' := [(0, .ref a0), (1, .int i1), (2, .int i2)]) (List.forall_mem_cons.mpr ⟨rfl, (List.forall_mem_cons.mpr ⟨rfl, (List.forall_mem_cons.mpr ⟨rfl, zs_nil⟩)⟩)⟩) ?_
      exact hk _ _ (Option.some.inj h).symm
    · rw [if_neg c14] at h
      refine zw_aload_n hX dX4_sortActs_17 rfl ?_
      obtain ⟨b3, g, h⟩ := zb_some h
      refine zw_getr hX zl_X4_29 dX4_sortActs_18 g ?_
      refine zw_aload_n hX dX4_sortActs_21 rfl ?_
      obtain ⟨b4, g, h⟩ := zb_some h
      refine zw_getr hX zl_X4_35 dX4_sortActs_22 g ?_
      refine zw_iload_n hX dX4_sortActs_25 rfl ?_
      refine zw_iconst (v := (1 : Int32)) hX dX4_sortActs_26 (by decide) ?_
      refine zw_isub hX dX4_sortActs_27 ?_
      obtain ⟨v5, g, h⟩ := zb_some h
      refine zw_xi hX dX4_sortActs_28 g ?_
      obtain ⟨b6, g, h⟩ := zb_some h
      refine zw_xr hX dX4_sortActs_29 g ?_
      refine zw_iconst (v := (2 : Int32)) hX dX4_sortActs_30 (by decide) ?_
      obtain ⟨v7, g, h⟩ := zb_some h
      refine zw_xi hX dX4_sortActs_31 g ?_
      refine zw_aload_n hX dX4_sortActs_32 rfl ?_
      obtain ⟨b8, g, h⟩ := zb_some h
      refine zw_getr hX zl_X4_29 dX4_sortActs_33 g ?_
      refine zw_iload_n hX dX4_sortActs_36 rfl ?_
      obtain ⟨b9, g, h⟩ := zb_some h
      refine zw_xr hX dX4_sortActs_37 g ?_
      refine zw_iconst (v := (2 : Int32)) hX dX4_sortActs_38 (by decide) ?_
      obtain ⟨v10, g, h⟩ := zb_some h
      refine zw_xi hX dX4_sortActs_39 g ?_
      refine zw_icmp_ge (tgt := 63) hX dX4_sortActs_40 (by decide) (fun c40 => ?_) (fun c40 => ?_)
      · rw [if_pos c40] at h
        refine zw_sub (lv' := [(0, .ref a0), (1, .int i1), (2, .int i2)]) (List.forall_mem_cons.mpr ⟨rfl, (List.forall_mem_cons.mpr ⟨rfl, (List.forall_mem_cons.mpr ⟨rfl, zs_nil⟩)⟩)⟩) ?_
        exact hk _ _ (Option.some.inj h).symm
      · rw [if_neg c40] at h
        refine zw_aload_n hX dX4_sortActs_43 rfl ?_
        obtain ⟨b11, g, h⟩ := zb_some h
        refine zw_getr hX zl_X4_35 dX4_sortActs_44 g ?_
        refine zw_iload_n hX dX4_sortActs_47 rfl ?_
        refine zw_aload_n hX dX4_sortActs_48 rfl ?_
        obtain ⟨b12, g, h⟩ := zb_some h
        refine zw_getr hX zl_X4_35 dX4_sortActs_49 g ?_
        refine zw_iload_n hX dX4_sortActs_52 rfl ?_
        refine zw_iconst (v := (1 : Int32)) hX dX4_sortActs_53 (by decide) ?_
        refine zw_isub hX dX4_sortActs_54 ?_
        obtain ⟨v13, g, h⟩ := zb_some h
        refine zw_xi hX dX4_sortActs_55 g ?_
        obtain ⟨S14, g, h⟩ := zb_some h
        refine zw_si hX dX4_sortActs_56 g ?_
        refine zw_iinc (v := (i2 + (-1 : Int32))) hX dX4_sortActs_57 rfl rfl (by decide) ?_
        refine zw_goto (tgt := 13) hX dX4_sortActs_60 (by decide) ?_
        refine zw_sub (lv' := [(0, .ref a0), (1, .int i1), (2, .int (i2 + (-1 : Int32)))]) (List.forall_mem_cons.mpr ⟨rfl, (List.forall_mem_cons.mpr ⟨rfl, (List.forall_mem_cons.mpr ⟨rfl, zs_nil⟩)⟩)⟩) ?_
        exact ih _ _ h
def zf_X4_sortActs_J63 (N : Nat) (k : Nat → Int32 → zm_S → Option ((Unit × zm_S) ⊕ ((Unit) × zm_S))) (a0 : Nat) (i1 : Int32) (i2 : Int32) (S : zm_S) : Option ((Unit × zm_S) ⊕ ((Unit) × zm_S)) := (zg_r S a0 4 10).bind (fun b17 => (zs_i S b17 i2 i1).bind (fun S18 => k a0 (i1 + (1 : Int32)) S18))
set_option maxHeartbeats 4000000 in
set_option maxRecDepth 100000 in
theorem zt_X4_sortActs_J63 {p : Program} {l : Launch} {e : Env} {R : Room} {s : State} {m : MethodId} {args : Array Value} {below : List Frame} {meth : Method} {c : Code} {V : zm_V} {mc ms d rc rs : Nat} (hX : zm_X p R s m args meth c RX4 "sortActs" cX4_sortActs 3 zk_E V mc ms) (hr : meth.sig.returnType = none) (hR : R.frames = d ∧ R.locals = 64 * d) (hd : 1 ≤ d) {N : Nat} {k : Nat → Int32 → zm_S → Option ((Unit × zm_S) ⊕ ((Unit) × zm_S))} {a0 : Nat} {i1 : Int32} {i2 : Int32} {res : (Unit × zm_S) ⊕ ((Unit) × zm_S)} {out : (Unit × zm_S)}   (hf : ∀ o, res = .inl o → o = out) (hk : ∀ (S' : zm_S), res = .inr ((), S') → zw p l e R s m args below meth c (vx_MQ below (zm_Qc zk_E V (zo_v out)) (zm_XC zk_E V zo_x) args s mc ms (fun q => V.2.2.2.1 ≤ q)) 3 zk_E V mc ms 76 [] [] S' rc rs) (hrec : ∀ (i1' : Int32) (S : zm_S), k a0 i1' S = some res → zw p l e R s m args below meth c (vx_MQ below (zm_Qc zk_E V (zo_v out)) (zm_XC zk_E V zo_x) args s mc ms (fun q => V.2.2.2.1 ≤ q)) 3 zk_E V mc ms 2 [(0, .ref a0), (1, .int i1')] [] S rc rs) {S : zm_S} (h : zf_X4_sortActs_J63 N k a0 i1 i2 S = some res) : zw p l e R s m args below meth c (vx_MQ below (zm_Qc zk_E V (zo_v out)) (zm_XC zk_E V zo_x) args s mc ms (fun q => V.2.2.2.1 ≤ q)) 3 zk_E V mc ms 63 [(0, .ref a0), (1, .int i1), (2, .int i2)] [] S rc rs := by
  unfold zf_X4_sortActs_J63 at h
  refine zw_aload_n hX dX4_sortActs_63 rfl ?_
  obtain ⟨b17, g, h⟩ := zb_some h
  refine zw_getr hX zl_X4_35 dX4_sortActs_64 g ?_
  refine zw_iload_n hX dX4_sortActs_67 rfl ?_
  refine zw_iload_n hX dX4_sortActs_68 rfl ?_
  obtain ⟨S18, g, h⟩ := zb_some h
  refine zw_si hX dX4_sortActs_69 g ?_
  refine zw_iinc (v := (i1 + (1 : Int32))) hX dX4_sortActs_70 rfl rfl (by decide) ?_
  refine zw_goto (tgt := 2) hX dX4_sortActs_73 (by decide) ?_
  refine zw_sub (lv' := [(0, .ref a0), (1, .int (i1 + (1 : Int32)))]) (List.forall_mem_cons.mpr ⟨rfl, (List.forall_mem_cons.mpr ⟨rfl, zs_nil⟩)⟩) ?_
  exact hrec _ _ h
def zf_X4_sortActs_L2 (N : Nat) : Nat → Nat → Int32 → zm_S → Option ((Unit × zm_S) ⊕ ((Unit) × zm_S))
  | 0, _, _, _ => none
  | n + 1, a0, i1, S => (zg_r S a0 4 10).bind (fun b1 => (za_n S b1).bind (fun v2 => if v2 ≤ i1 then some (.inr ((), S)) else (zf_X4_sortActs_L13 N N a0 i1 i1 S).bind (fun r => match r with | .inl o => some (.inl o) | .inr (v16, S15) => zf_X4_sortActs_J63 N (zf_X4_sortActs_L2 N n) a0 i1 v16 S15)))
set_option maxHeartbeats 4000000 in
set_option maxRecDepth 100000 in
theorem zt_X4_sortActs_L2 {p : Program} {l : Launch} {e : Env} {R : Room} {s : State} {m : MethodId} {args : Array Value} {below : List Frame} {meth : Method} {c : Code} {V : zm_V} {mc ms d rc rs : Nat} (hX : zm_X p R s m args meth c RX4 "sortActs" cX4_sortActs 3 zk_E V mc ms) (hr : meth.sig.returnType = none) (hR : R.frames = d ∧ R.locals = 64 * d) (hd : 1 ≤ d) {N : Nat} {res : (Unit × zm_S) ⊕ ((Unit) × zm_S)} {out : (Unit × zm_S)} (a0 : Nat) (hf : ∀ o, res = .inl o → o = out) (hk : ∀ (S' : zm_S), res = .inr ((), S') → zw p l e R s m args below meth c (vx_MQ below (zm_Qc zk_E V (zo_v out)) (zm_XC zk_E V zo_x) args s mc ms (fun q => V.2.2.2.1 ≤ q)) 3 zk_E V mc ms 76 [] [] S' rc rs) : ∀ (n : Nat) (i1 : Int32) (S : zm_S), zf_X4_sortActs_L2 N n a0 i1 S = some res → zw p l e R s m args below meth c (vx_MQ below (zm_Qc zk_E V (zo_v out)) (zm_XC zk_E V zo_x) args s mc ms (fun q => V.2.2.2.1 ≤ q)) 3 zk_E V mc ms 2 [(0, .ref a0), (1, .int i1)] [] S rc rs := by
  intro n
  induction n with
  | zero => intro i1 S h; cases h
  | succ n ih =>
    intro i1 S h
    rw [zf_X4_sortActs_L2] at h
    refine zw_iload_n hX dX4_sortActs_2 rfl ?_
    refine zw_aload_n hX dX4_sortActs_3 rfl ?_
    obtain ⟨b1, g, h⟩ := zb_some h
    refine zw_getr hX zl_X4_35 dX4_sortActs_4 g ?_
    obtain ⟨v2, g, h⟩ := zb_some h
    refine zw_len hX dX4_sortActs_7 g ?_
    refine zw_icmp_ge (tgt := 76) hX dX4_sortActs_8 (by decide) (fun c8 => ?_) (fun c8 => ?_)
    · rw [if_pos c8] at h
      refine zw_sub (lv' := []) zs_nil ?_
      exact hk  _ (Option.some.inj h).symm
    · rw [if_neg c8] at h
      refine zw_iload_n hX dX4_sortActs_11 rfl ?_
      refine zw_istore_n hX dX4_sortActs_12 (by decide) ?_
      obtain ⟨r, g, h⟩ := zb_some h
      refine zw_sub (lv' := [(0, .ref a0), (1, .int i1), (2, .int i1)]) (List.forall_mem_cons.mpr ⟨rfl, (List.forall_mem_cons.mpr ⟨rfl, (List.forall_mem_cons.mpr ⟨rfl, zs_nil⟩)⟩)⟩) ?_
      refine zt_X4_sortActs_L13 hX hr hR hd (res := r) (out := out) a0 i1 ?_ ?_ N _ _ g
      · intro o ho
        subst ho
        exact hf _ (Option.some.inj h).symm
      · intro v16 S15 hx
        subst hx
        try dsimp only at h
        refine zw_sub (lv' := [(0, .ref a0), (1, .int i1), (2, .int v16)]) (List.forall_mem_cons.mpr ⟨rfl, (List.forall_mem_cons.mpr ⟨rfl, (List.forall_mem_cons.mpr ⟨rfl, zs_nil⟩)⟩)⟩) ?_
        exact zt_X4_sortActs_J63 hX hr hR hd hf hk ih h
def zf_X4_sortActs (N : Nat) (a0 : Nat) (S : zm_S) : Option (Unit × zm_S) := (zf_X4_sortActs_L2 N N a0 (0 : Int32) S).bind (fun r => match r with | .inl o => some o | .inr (_, S19) => some ((), S19))
set_option maxHeartbeats 4000000 in
set_option maxRecDepth 100000 in
theorem zt_X4_sortActs {l : Launch} {V : zm_V} {N : Nat} {S : zm_S} {out : (Unit × zm_S)} {d : Nat} {a0 : Nat} (hd : 1 ≤ d) (h : zf_X4_sortActs N a0 S = some out) : zm_Met l zk_E V yX4_sortActs (.code yX4_sortActs cX4_sortActs 3 none) d [.ref a0] S 0 0 (zo_v out) zo_x := by
  refine zm_of (by decide +kernel) (Nat.le_of_ble_eq_true rfl) ?_
  intro p e R s m args below meth c hRR hX hr hxt
  have hR : R.frames = d ∧ R.locals = 64 * d := by rw [hRR]; exact ⟨rfl, rfl⟩
  have hX : zm_X p R s m args meth c RX4 "sortActs" cX4_sortActs 3 zk_E V 0 0 := hX
  unfold zf_X4_sortActs at h
  refine zw_sub (lv' := [(0, .ref a0)]) (List.forall_mem_cons.mpr ⟨rfl, zs_nil⟩) ?_
  refine zw_iconst (v := (0 : Int32)) hX dX4_sortActs_0 (by decide) ?_
  refine zw_istore_n hX dX4_sortActs_1 (by decide) ?_
  obtain ⟨r, g, h⟩ := zb_some h
  refine zw_sub (lv' := [(0, .ref a0), (1, .int (0 : Int32))]) (List.forall_mem_cons.mpr ⟨rfl, (List.forall_mem_cons.mpr ⟨rfl, zs_nil⟩)⟩) ?_
  refine zt_X4_sortActs_L2 hX hr hR hd (res := r) (out := out) a0 ?_ ?_ N _ _ g
  · intro o ho
    subst ho
    exact Option.some.inj h
  · intro  S19 hx
    subst hx
    try dsimp only at h
    obtain rfl := Option.some.inj h
    exact zw_vret hX hr dX4_sortActs_76 ⟨rfl, rfl⟩
def zf_X4_isZone (N : Nat) (a0 : Nat) (i1 : Int32) (S : zm_S) : Option (Int32 × zm_S) := if i1 < 0 then some ((0 : Int32), S) else (zg_r S a0 4 6).bind (fun b1 => (za_n S b1).bind (fun v2 => if v2 ≤ i1 then some ((0 : Int32), S) else (zg_r S a0 4 6).bind (fun b3 => (za_r S b3 i1).bind (fun b4 => (za_x S 0 b4 (0 : Int32)).bind (fun v5 => if v5 = 0 then some ((0 : Int32), S) else some ((1 : Int32), S))))))
set_option maxHeartbeats 4000000 in
set_option maxRecDepth 100000 in
theorem zt_X4_isZone {l : Launch} {V : zm_V} {N : Nat} {S : zm_S} {out : (Int32 × zm_S)} {d : Nat} {a0 : Nat} {i1 : Int32} (hd : 1 ≤ d) (h : zf_X4_isZone N a0 i1 S = some out) : zm_Met l zk_E V yX4_isZone (.code yX4_isZone cX4_isZone 2 (some .boolean)) d [.ref a0, .int i1] S 0 0 (zo_i out) zo_x := by
  refine zm_of (by decide +kernel) (Nat.le_of_ble_eq_true rfl) ?_
  intro p e R s m args below meth c hRR hX hr hxt
  have hR : R.frames = d ∧ R.locals = 64 * d := by rw [hRR]; exact ⟨rfl, rfl⟩
  have hX : zm_X p R s m args meth c RX4 "isZone" cX4_isZone 2 zk_E V 0 0 := hX
  unfold zf_X4_isZone at h
  refine zw_sub (lv' := [(0, .ref a0), (1, .int i1)]) (List.forall_mem_cons.mpr ⟨rfl, (List.forall_mem_cons.mpr ⟨rfl, zs_nil⟩)⟩) ?_
  refine zw_iload_n hX dX4_isZone_0 rfl ?_
  refine zw_if_lt (tgt := 28) hX dX4_isZone_1 (by decide) (fun c1 => ?_) (fun c1 => ?_)
  · rw [if_pos c1] at h
    refine zw_iconst (v := (0 : Int32)) hX dX4_isZone_28 (by decide) ?_
    obtain rfl := Option.some.inj h
    exact zw_iret hX hr dX4_isZone_29 rfl ⟨rfl, rfl⟩
  · rw [if_neg c1] at h
    refine zw_iload_n hX dX4_isZone_4 rfl ?_
    refine zw_aload_n hX dX4_isZone_5 rfl ?_
    obtain ⟨b1, g, h⟩ := zb_some h
    refine zw_getr hX zl_X4_26 dX4_isZone_6 g ?_
    obtain ⟨v2, g, h⟩ := zb_some h
    refine zw_len hX dX4_isZone_9 g ?_
    refine zw_icmp_ge (tgt := 28) hX dX4_isZone_10 (by decide) (fun c10 => ?_) (fun c10 => ?_)
    · rw [if_pos c10] at h
      refine zw_iconst (v := (0 : Int32)) hX dX4_isZone_28 (by decide) ?_
      obtain rfl := Option.some.inj h
      exact zw_iret hX hr dX4_isZone_29 rfl ⟨rfl, rfl⟩
    · rw [if_neg c10] at h
      refine zw_aload_n hX dX4_isZone_13 rfl ?_
      obtain ⟨b3, g, h⟩ := zb_some h
      refine zw_getr hX zl_X4_26 dX4_isZone_14 g ?_
      refine zw_iload_n hX dX4_isZone_17 rfl ?_
      obtain ⟨b4, g, h⟩ := zb_some h
      refine zw_xr hX dX4_isZone_18 g ?_
      refine zw_iconst (v := (0 : Int32)) hX dX4_isZone_19 (by decide) ?_
      obtain ⟨v5, g, h⟩ := zb_some h
      refine zw_xi hX dX4_isZone_20 g ?_
      refine zw_if_eq (tgt := 28) hX dX4_isZone_21 (by decide) (fun c21 => ?_) (fun c21 => ?_)
      · rw [if_pos c21] at h
        refine zw_iconst (v := (0 : Int32)) hX dX4_isZone_28 (by decide) ?_
        obtain rfl := Option.some.inj h
        exact zw_iret hX hr dX4_isZone_29 rfl ⟨rfl, rfl⟩
      · rw [if_neg c21] at h
        refine zw_iconst (v := (1 : Int32)) hX dX4_isZone_24 (by decide) ?_
        refine zw_goto (tgt := 29) hX dX4_isZone_25 (by decide) ?_
        obtain rfl := Option.some.inj h
        exact zw_iret hX hr dX4_isZone_29 rfl ⟨rfl, rfl⟩
def zf_X4_isAct (N : Nat) (a0 : Nat) (i1 : Int32) (S : zm_S) : Option (Int32 × zm_S) := if i1 < 0 then some ((0 : Int32), S) else (zg_r S a0 4 7).bind (fun b1 => (za_n S b1).bind (fun v2 => if v2 ≤ i1 then some ((0 : Int32), S) else (zg_r S a0 4 7).bind (fun b3 => (za_r S b3 i1).bind (fun b4 => (za_x S 0 b4 (0 : Int32)).bind (fun v5 => if v5 = 0 then some ((0 : Int32), S) else some ((1 : Int32), S))))))
set_option maxHeartbeats 4000000 in
set_option maxRecDepth 100000 in
theorem zt_X4_isAct {l : Launch} {V : zm_V} {N : Nat} {S : zm_S} {out : (Int32 × zm_S)} {d : Nat} {a0 : Nat} {i1 : Int32} (hd : 1 ≤ d) (h : zf_X4_isAct N a0 i1 S = some out) : zm_Met l zk_E V yX4_isAct (.code yX4_isAct cX4_isAct 2 (some .boolean)) d [.ref a0, .int i1] S 0 0 (zo_i out) zo_x := by
  refine zm_of (by decide +kernel) (Nat.le_of_ble_eq_true rfl) ?_
  intro p e R s m args below meth c hRR hX hr hxt
  have hR : R.frames = d ∧ R.locals = 64 * d := by rw [hRR]; exact ⟨rfl, rfl⟩
  have hX : zm_X p R s m args meth c RX4 "isAct" cX4_isAct 2 zk_E V 0 0 := hX
  unfold zf_X4_isAct at h
  refine zw_sub (lv' := [(0, .ref a0), (1, .int i1)]) (List.forall_mem_cons.mpr ⟨rfl, (List.forall_mem_cons.mpr ⟨rfl, zs_nil⟩)⟩) ?_
  refine zw_iload_n hX dX4_isAct_0 rfl ?_
  refine zw_if_lt (tgt := 28) hX dX4_isAct_1 (by decide) (fun c1 => ?_) (fun c1 => ?_)
  · rw [if_pos c1] at h
    refine zw_iconst (v := (0 : Int32)) hX dX4_isAct_28 (by decide) ?_
    obtain rfl := Option.some.inj h
    exact zw_iret hX hr dX4_isAct_29 rfl ⟨rfl, rfl⟩
  · rw [if_neg c1] at h
    refine zw_iload_n hX dX4_isAct_4 rfl ?_
    refine zw_aload_n hX dX4_isAct_5 rfl ?_
    obtain ⟨b1, g, h⟩ := zb_some h
    refine zw_getr hX zl_X4_29 dX4_isAct_6 g ?_
    obtain ⟨v2, g, h⟩ := zb_some h
    refine zw_len hX dX4_isAct_9 g ?_
    refine zw_icmp_ge (tgt := 28) hX dX4_isAct_10 (by decide) (fun c10 => ?_) (fun c10 => ?_)
    · rw [if_pos c10] at h
      refine zw_iconst (v := (0 : Int32)) hX dX4_isAct_28 (by decide) ?_
      obtain rfl := Option.some.inj h
      exact zw_iret hX hr dX4_isAct_29 rfl ⟨rfl, rfl⟩
    · rw [if_neg c10] at h
      refine zw_aload_n hX dX4_isAct_13 rfl ?_
      obtain ⟨b3, g, h⟩ := zb_some h
      refine zw_getr hX zl_X4_29 dX4_isAct_14 g ?_
      refine zw_iload_n hX dX4_isAct_17 rfl ?_
      obtain ⟨b4, g, h⟩ := zb_some h
      refine zw_xr hX dX4_isAct_18 g ?_
      refine zw_iconst (v := (0 : Int32)) hX dX4_isAct_19 (by decide) ?_
      obtain ⟨v5, g, h⟩ := zb_some h
      refine zw_xi hX dX4_isAct_20 g ?_
      refine zw_if_eq (tgt := 28) hX dX4_isAct_21 (by decide) (fun c21 => ?_) (fun c21 => ?_)
      · rw [if_pos c21] at h
        refine zw_iconst (v := (0 : Int32)) hX dX4_isAct_28 (by decide) ?_
        obtain rfl := Option.some.inj h
        exact zw_iret hX hr dX4_isAct_29 rfl ⟨rfl, rfl⟩
      · rw [if_neg c21] at h
        refine zw_iconst (v := (1 : Int32)) hX dX4_isAct_24 (by decide) ?_
        refine zw_goto (tgt := 29) hX dX4_isAct_25 (by decide) ?_
        obtain rfl := Option.some.inj h
        exact zw_iret hX hr dX4_isAct_29 rfl ⟨rfl, rfl⟩
def zf_X4_setSwitch (N : Nat) (a0 : Nat) (i1 : Int32) (i2 : Int32) (S : zm_S) : Option (Unit × zm_S) := (zg_i S a0 4 2).bind (fun v1 => if i1 = (-1 : Int32) then some ((), S) else if ((v1 - (10 : Int32)) + i1) < 0 then some ((), S) else (zg_i S a0 4 2).bind (fun v2 => if v2 ≤ ((v1 - (10 : Int32)) + i1) then some ((), S) else (zg_r S a0 4 3).bind (fun b3 => (zf_J9_min_7cf53 N i2 (100 : Int32) S).bind (fun r6 => (zf_J9_max_7cf53 N (0 : Int32) r6.1 r6.2).bind (fun r9 => (zs_i r9.2 b3 ((v1 - (10 : Int32)) + i1) r9.1).bind (fun S10 => some ((), S10)))))))
set_option maxHeartbeats 4000000 in
set_option maxRecDepth 100000 in
theorem zt_X4_setSwitch {l : Launch} {V : zm_V} {N : Nat} {S : zm_S} {out : (Unit × zm_S)} {d : Nat} {a0 : Nat} {i1 : Int32} {i2 : Int32} (hd : 2 ≤ d) (h : zf_X4_setSwitch N a0 i1 i2 S = some out) : zm_Met l zk_E V yX4_setSwitch (.code yX4_setSwitch cX4_setSwitch 4 none) d [.ref a0, .int i1, .int i2] S 0 0 (zo_v out) zo_x := by
  refine zm_of (by decide +kernel) (Nat.le_of_ble_eq_true rfl) ?_
  intro p e R s m args below meth c hRR hX hr hxt
  have hR : R.frames = d ∧ R.locals = 64 * d := by rw [hRR]; exact ⟨rfl, rfl⟩
  have hX : zm_X p R s m args meth c RX4 "setSwitch" cX4_setSwitch 4 zk_E V 0 0 := hX
  unfold zf_X4_setSwitch at h
  refine zw_sub (lv' := [(0, .ref a0), (1, .int i1), (2, .int i2)]) (List.forall_mem_cons.mpr ⟨rfl, (List.forall_mem_cons.mpr ⟨rfl, (List.forall_mem_cons.mpr ⟨rfl, zs_nil⟩)⟩)⟩) ?_
  refine zw_aload_n hX dX4_setSwitch_0 rfl ?_
  obtain ⟨v1, g, h⟩ := zb_some h
  refine zw_geti hX zl_X4_84 dX4_setSwitch_1 g ?_
  refine zw_bipush (v := (10 : Int32)) hX dX4_setSwitch_4 (by decide) ?_
  refine zw_isub hX dX4_setSwitch_6 ?_
  refine zw_iload_n hX dX4_setSwitch_7 rfl ?_
  refine zw_iadd hX dX4_setSwitch_8 ?_
  refine zw_istore_n hX dX4_setSwitch_9 (by decide) ?_
  refine zw_iload_n hX dX4_setSwitch_10 rfl ?_
  refine zw_iconst (v := (-1 : Int32)) hX dX4_setSwitch_11 (by decide) ?_
  refine zw_icmp_eq (tgt := 43) hX dX4_setSwitch_12 (by decide) (fun c12 => ?_) (fun c12 => ?_)
  · rw [if_pos c12] at h
    obtain rfl := Option.some.inj h
    exact zw_vret hX hr dX4_setSwitch_43 ⟨rfl, rfl⟩
  · rw [if_neg c12] at h
    refine zw_iload_n hX dX4_setSwitch_15 rfl ?_
    refine zw_if_lt (tgt := 43) hX dX4_setSwitch_16 (by decide) (fun c16 => ?_) (fun c16 => ?_)
    · rw [if_pos c16] at h
      obtain rfl := Option.some.inj h
      exact zw_vret hX hr dX4_setSwitch_43 ⟨rfl, rfl⟩
    · rw [if_neg c16] at h
      refine zw_iload_n hX dX4_setSwitch_19 rfl ?_
      refine zw_aload_n hX dX4_setSwitch_20 rfl ?_
      obtain ⟨v2, g, h⟩ := zb_some h
      refine zw_geti hX zl_X4_84 dX4_setSwitch_21 g ?_
      refine zw_icmp_ge (tgt := 43) hX dX4_setSwitch_24 (by decide) (fun c24 => ?_) (fun c24 => ?_)
      · rw [if_pos c24] at h
        obtain rfl := Option.some.inj h
        exact zw_vret hX hr dX4_setSwitch_43 ⟨rfl, rfl⟩
      · rw [if_neg c24] at h
        refine zw_aload_n hX dX4_setSwitch_27 rfl ?_
        obtain ⟨b3, g, h⟩ := zb_some h
        refine zw_getr hX zl_X4_11 dX4_setSwitch_28 g ?_
        refine zw_iload_n hX dX4_setSwitch_31 rfl ?_
        refine zw_iconst (v := (0 : Int32)) hX dX4_setSwitch_32 (by decide) ?_
        refine zw_iload_n hX dX4_setSwitch_33 rfl ?_
        refine zw_bipush (v := (100 : Int32)) hX dX4_setSwitch_34 (by decide) ?_
        obtain ⟨r6, g, h⟩ := zb_some h
        refine zc_Si (as := [.int i2, .int (100 : Int32)]) hX (zt_J9_min_7cf53 (d := d - 1) (by omega) g) zl_X4_87 dX4_setSwitch_36 ⟨rfl, rfl, Nat.le_of_ble_eq_true rfl⟩ ⟨by omega, by omega⟩ ?_
        obtain ⟨r9, g, h⟩ := zb_some h
        refine zc_Si (as := [.int (0 : Int32), .int r6.1]) hX (zt_J9_max_7cf53 (d := d - 1) (by omega) g) zl_X4_93 dX4_setSwitch_39 ⟨rfl, rfl, Nat.le_of_ble_eq_true rfl⟩ ⟨by omega, by omega⟩ ?_
        obtain ⟨S10, g, h⟩ := zb_some h
        refine zw_si hX dX4_setSwitch_42 g ?_
        obtain rfl := Option.some.inj h
        exact zw_vret hX hr dX4_setSwitch_43 ⟨rfl, rfl⟩
def zf_X4_isAsked (N : Nat) (a0 : Nat) (i1 : Int32) (i2 : Int32) (S : zm_S) : Option (Int32 × zm_S) := (zg_r S a0 4 4).bind (fun b1 => (za_x S 2 b1 i1).bind (fun v2 => if v2 = 0 then (zg_r S a0 4 5).bind (fun b3 => (za_x S 0 b3 i1).bind (fun v4 => if i2 < v4 then some ((0 : Int32), S) else some ((1 : Int32), S))) else some ((0 : Int32), S)))
set_option maxHeartbeats 4000000 in
set_option maxRecDepth 100000 in
theorem zt_X4_isAsked {l : Launch} {V : zm_V} {N : Nat} {S : zm_S} {out : (Int32 × zm_S)} {d : Nat} {a0 : Nat} {i1 : Int32} {i2 : Int32} (hd : 1 ≤ d) (h : zf_X4_isAsked N a0 i1 i2 S = some out) : zm_Met l zk_E V yX4_isAsked (.code yX4_isAsked cX4_isAsked 3 (some .boolean)) d [.ref a0, .int i1, .int i2] S 0 0 (zo_i out) zo_x := by
  refine zm_of (by decide +kernel) (Nat.le_of_ble_eq_true rfl) ?_
  intro p e R s m args below meth c hRR hX hr hxt
  have hR : R.frames = d ∧ R.locals = 64 * d := by rw [hRR]; exact ⟨rfl, rfl⟩
  have hX : zm_X p R s m args meth c RX4 "isAsked" cX4_isAsked 3 zk_E V 0 0 := hX
  unfold zf_X4_isAsked at h
  refine zw_sub (lv' := [(0, .ref a0), (1, .int i1), (2, .int i2)]) (List.forall_mem_cons.mpr ⟨rfl, (List.forall_mem_cons.mpr ⟨rfl, (List.forall_mem_cons.mpr ⟨rfl, zs_nil⟩)⟩)⟩) ?_
  refine zw_aload_n hX dX4_isAsked_0 rfl ?_
  obtain ⟨b1, g, h⟩ := zb_some h
  refine zw_getr hX zl_X4_15 dX4_isAsked_1 g ?_
  refine zw_iload_n hX dX4_isAsked_4 rfl ?_
  obtain ⟨v2, g, h⟩ := zb_some h
  refine zw_xz hX dX4_isAsked_5 g ?_
  refine zw_if_ne (tgt := 23) hX dX4_isAsked_6 (by decide) (fun c6 => ?_) (fun c6 => ?_)
  · rw [if_neg c6] at h
    refine zw_iconst (v := (0 : Int32)) hX dX4_isAsked_23 (by decide) ?_
    obtain rfl := Option.some.inj h
    exact zw_iret hX hr dX4_isAsked_24 rfl ⟨rfl, rfl⟩
  · rw [if_pos c6] at h
    refine zw_iload_n hX dX4_isAsked_9 rfl ?_
    refine zw_aload_n hX dX4_isAsked_10 rfl ?_
    obtain ⟨b3, g, h⟩ := zb_some h
    refine zw_getr hX zl_X4_19 dX4_isAsked_11 g ?_
    refine zw_iload_n hX dX4_isAsked_14 rfl ?_
    obtain ⟨v4, g, h⟩ := zb_some h
    refine zw_xi hX dX4_isAsked_15 g ?_
    refine zw_icmp_lt (tgt := 23) hX dX4_isAsked_16 (by decide) (fun c16 => ?_) (fun c16 => ?_)
    · rw [if_pos c16] at h
      refine zw_iconst (v := (0 : Int32)) hX dX4_isAsked_23 (by decide) ?_
      obtain rfl := Option.some.inj h
      exact zw_iret hX hr dX4_isAsked_24 rfl ⟨rfl, rfl⟩
    · rw [if_neg c16] at h
      refine zw_iconst (v := (1 : Int32)) hX dX4_isAsked_19 (by decide) ?_
      refine zw_goto (tgt := 24) hX dX4_isAsked_20 (by decide) ?_
      obtain rfl := Option.some.inj h
      exact zw_iret hX hr dX4_isAsked_24 rfl ⟨rfl, rfl⟩
def zf_X4_isOn (N : Nat) (a0 : Nat) (i1 : Int32) (i2 : Int32) (S : zm_S) : Option (Int32 × zm_S) := (zg_r S a0 4 3).bind (fun b1 => (za_x S 0 b1 i1).bind (fun v2 => if v2 < (50 : Int32) then some ((0 : Int32), S) else (zi S a0 4).bind (fun _ => (zf_X4_isAsked N a0 i1 i2 S).bind (fun r5 => if r5.1 = 0 then some ((0 : Int32), r5.2) else some ((1 : Int32), r5.2)))))
set_option maxHeartbeats 4000000 in
set_option maxRecDepth 100000 in
theorem zt_X4_isOn {l : Launch} {V : zm_V} {N : Nat} {S : zm_S} {out : (Int32 × zm_S)} {d : Nat} {a0 : Nat} {i1 : Int32} {i2 : Int32} (hd : 2 ≤ d) (h : zf_X4_isOn N a0 i1 i2 S = some out) : zm_Met l zk_E V yX4_isOn (.code yX4_isOn cX4_isOn 3 (some .boolean)) d [.ref a0, .int i1, .int i2] S 0 0 (zo_i out) zo_x := by
  refine zm_of (by decide +kernel) (Nat.le_of_ble_eq_true rfl) ?_
  intro p e R s m args below meth c hRR hX hr hxt
  have hR : R.frames = d ∧ R.locals = 64 * d := by rw [hRR]; exact ⟨rfl, rfl⟩
  have hX : zm_X p R s m args meth c RX4 "isOn" cX4_isOn 3 zk_E V 0 0 := hX
  unfold zf_X4_isOn at h
  refine zw_sub (lv' := [(0, .ref a0), (1, .int i1), (2, .int i2)]) (List.forall_mem_cons.mpr ⟨rfl, (List.forall_mem_cons.mpr ⟨rfl, (List.forall_mem_cons.mpr ⟨rfl, zs_nil⟩)⟩)⟩) ?_
  refine zw_aload_n hX dX4_isOn_0 rfl ?_
  obtain ⟨b1, g, h⟩ := zb_some h
  refine zw_getr hX zl_X4_11 dX4_isOn_1 g ?_
  refine zw_iload_n hX dX4_isOn_4 rfl ?_
  obtain ⟨v2, g, h⟩ := zb_some h
  refine zw_xi hX dX4_isOn_5 g ?_
  refine zw_bipush (v := (50 : Int32)) hX dX4_isOn_6 (by decide) ?_
  refine zw_icmp_lt (tgt := 24) hX dX4_isOn_8 (by decide) (fun c8 => ?_) (fun c8 => ?_)
  · rw [if_pos c8] at h
    refine zw_iconst (v := (0 : Int32)) hX dX4_isOn_24 (by decide) ?_
    obtain rfl := Option.some.inj h
    exact zw_iret hX hr dX4_isOn_25 rfl ⟨rfl, rfl⟩
  · rw [if_neg c8] at h
    refine zw_aload_n hX dX4_isOn_11 rfl ?_
    refine zw_iload_n hX dX4_isOn_12 rfl ?_
    refine zw_iload_n hX dX4_isOn_13 rfl ?_
    obtain ⟨_, gi, h⟩ := zb_some h
    obtain ⟨r5, g, h⟩ := zb_some h
    refine zc_Vi (as := [.int i1, .int i2]) hX gi (zt_X4_isAsked (d := d - 1) (by omega) g) zl_X4_96 rfl dX4_isOn_14 ⟨rfl, rfl, Nat.le_of_ble_eq_true rfl⟩ ⟨by omega, by omega⟩ ?_
    refine zw_if_eq (tgt := 24) hX dX4_isOn_17 (by decide) (fun c17 => ?_) (fun c17 => ?_)
    · rw [if_pos c17] at h
      refine zw_iconst (v := (0 : Int32)) hX dX4_isOn_24 (by decide) ?_
      obtain rfl := Option.some.inj h
      exact zw_iret hX hr dX4_isOn_25 rfl ⟨rfl, rfl⟩
    · rw [if_neg c17] at h
      refine zw_iconst (v := (1 : Int32)) hX dX4_isOn_20 (by decide) ?_
      refine zw_goto (tgt := 25) hX dX4_isOn_21 (by decide) ?_
      obtain rfl := Option.some.inj h
      exact zw_iret hX hr dX4_isOn_25 rfl ⟨rfl, rfl⟩
def zf_X4_countOn_J43 (N : Nat) (k : Nat → Int32 → Int32 → Int32 → Int32 → zm_S → Option ((Int32 × zm_S) ⊕ ((Int32) × zm_S))) (a0 : Nat) (i1 : Int32) (i2 : Int32) (i4 : Int32) (t0 : Int32) (t1 : Int32) (S : zm_S) : Option ((Int32 × zm_S) ⊕ ((Int32) × zm_S)) := k a0 i1 i2 (t0 + t1) (i4 + (1 : Int32)) S
set_option maxHeartbeats 4000000 in
set_option maxRecDepth 100000 in
theorem zt_X4_countOn_J43 {p : Program} {l : Launch} {e : Env} {R : Room} {s : State} {m : MethodId} {args : Array Value} {below : List Frame} {meth : Method} {c : Code} {V : zm_V} {mc ms d rc rs : Nat} (hX : zm_X p R s m args meth c RX4 "countOn" cX4_countOn 5 zk_E V mc ms) (hr : meth.sig.returnType = (some .int)) (hR : R.frames = d ∧ R.locals = 64 * d) (hd : 3 ≤ d) {N : Nat} {k : Nat → Int32 → Int32 → Int32 → Int32 → zm_S → Option ((Int32 × zm_S) ⊕ ((Int32) × zm_S))} {a0 : Nat} {i1 : Int32} {i2 : Int32} {i4 : Int32} {t0 : Int32} {t1 : Int32} {res : (Int32 × zm_S) ⊕ ((Int32) × zm_S)} {out : (Int32 × zm_S)}   (hf : ∀ o, res = .inl o → o = out) (hk : ∀ (x3 : Int32) (S' : zm_S), res = .inr (x3, S') → zw p l e R s m args below meth c (vx_MQ below (zm_Qc zk_E V (zo_i out)) (zm_XC zk_E V zo_x) args s mc ms (fun q => V.2.2.2.1 ≤ q)) 5 zk_E V mc ms 51 [(3, .int x3)] [] S' rc rs) (hrec : ∀ (i3' : Int32) (i4' : Int32) (S : zm_S), k a0 i1 i2 i3' i4' S = some res → zw p l e R s m args below meth c (vx_MQ below (zm_Qc zk_E V (zo_i out)) (zm_XC zk_E V zo_x) args s mc ms (fun q => V.2.2.2.1 ≤ q)) 5 zk_E V mc ms 5 [(0, .ref a0), (1, .int i1), (2, .int i2), (3, .int i3'), (4, .int i4')] [] S rc rs) {S : zm_S} (h : zf_X4_countOn_J43 N k a0 i1 i2 i4 t0 t1 S = some res) : zw p l e R s m args below meth c (vx_MQ below (zm_Qc zk_E V (zo_i out)) (zm_XC zk_E V zo_x) args s mc ms (fun q => V.2.2.2.1 ≤ q)) 5 zk_E V mc ms 43 [(0, .ref a0), (1, .int i1), (2, .int i2), (4, .int i4)] [.int t1, .int t0] S rc rs := by
  unfold zf_X4_countOn_J43 at h
  refine zw_iadd hX dX4_countOn_43 ?_
  refine zw_istore_n hX dX4_countOn_44 (by decide) ?_
  refine zw_iinc (v := (i4 + (1 : Int32))) hX dX4_countOn_45 rfl rfl (by decide) ?_
  refine zw_goto (tgt := 5) hX dX4_countOn_48 (by decide) ?_
  refine zw_sub (lv' := [(0, .ref a0), (1, .int i1), (2, .int i2), (3, .int (t0 + t1)), (4, .int (i4 + (1 : Int32)))]) (List.forall_mem_cons.mpr ⟨rfl, (List.forall_mem_cons.mpr ⟨rfl, (List.forall_mem_cons.mpr ⟨rfl, (List.forall_mem_cons.mpr ⟨rfl, (List.forall_mem_cons.mpr ⟨rfl, zs_nil⟩)⟩)⟩)⟩)⟩) ?_
  exact hrec _ _ _ h
def zf_X4_countOn_L5 (N : Nat) : Nat → Nat → Int32 → Int32 → Int32 → Int32 → zm_S → Option ((Int32 × zm_S) ⊕ ((Int32) × zm_S))
  | 0, _, _, _, _, _, _ => none
  | n + 1, a0, i1, i2, i3, i4, S => (zg_r S a0 4 6).bind (fun b1 => (za_r S b1 i1).bind (fun b2 => (za_x S 0 b2 (1 : Int32)).bind (fun v3 => if v3 ≤ i4 then some (.inr (i3, S)) else (zg_r S a0 4 6).bind (fun b4 => (za_r S b4 i1).bind (fun b5 => (za_x S 0 b5 ((2 : Int32) + i4)).bind (fun v6 => (zi S a0 4).bind (fun _ => (zf_X4_isOn N a0 v6 i2 S).bind (fun r9 => if r9.1 = 0 then zf_X4_countOn_J43 N (zf_X4_countOn_L5 N n) a0 i1 i2 i4 i3 (0 : Int32) r9.2 else zf_X4_countOn_J43 N (zf_X4_countOn_L5 N n) a0 i1 i2 i4 i3 (1 : Int32) r9.2))))))))
set_option maxHeartbeats 4000000 in
set_option maxRecDepth 100000 in
theorem zt_X4_countOn_L5 {p : Program} {l : Launch} {e : Env} {R : Room} {s : State} {m : MethodId} {args : Array Value} {below : List Frame} {meth : Method} {c : Code} {V : zm_V} {mc ms d rc rs : Nat} (hX : zm_X p R s m args meth c RX4 "countOn" cX4_countOn 5 zk_E V mc ms) (hr : meth.sig.returnType = (some .int)) (hR : R.frames = d ∧ R.locals = 64 * d) (hd : 3 ≤ d) {N : Nat} {res : (Int32 × zm_S) ⊕ ((Int32) × zm_S)} {out : (Int32 × zm_S)} (a0 : Nat) (i1 : Int32) (i2 : Int32) (hf : ∀ o, res = .inl o → o = out) (hk : ∀ (x3 : Int32) (S' : zm_S), res = .inr (x3, S') → zw p l e R s m args below meth c (vx_MQ below (zm_Qc zk_E V (zo_i out)) (zm_XC zk_E V zo_x) args s mc ms (fun q => V.2.2.2.1 ≤ q)) 5 zk_E V mc ms 51 [(3, .int x3)] [] S' rc rs) : ∀ (n : Nat) (i3 : Int32) (i4 : Int32) (S : zm_S), zf_X4_countOn_L5 N n a0 i1 i2 i3 i4 S = some res → zw p l e R s m args below meth c (vx_MQ below (zm_Qc zk_E V (zo_i out)) (zm_XC zk_E V zo_x) args s mc ms (fun q => V.2.2.2.1 ≤ q)) 5 zk_E V mc ms 5 [(0, .ref a0), (1, .int i1), (2, .int i2), (3, .int i3), (4, .int i4)] [] S rc rs := by
  intro n
  induction n with
  | zero => intro i3 i4 S h; cases h
  | succ n ih =>
    intro i3 i4 S h
    rw [zf_X4_countOn_L5] at h
    refine zw_iload hX dX4_countOn_5 rfl ?_
    refine zw_aload_n hX dX4_countOn_7 rfl ?_
    obtain ⟨b1, g, h⟩ := zb_some h
    refine zw_getr hX zl_X4_26 dX4_countOn_8 g ?_
    refine zw_iload_n hX dX4_countOn_11 rfl ?_
    obtain ⟨b2, g, h⟩ := zb_some h
    refine zw_xr hX dX4_countOn_12 g ?_
    refine zw_iconst (v := (1 : Int32)) hX dX4_countOn_13 (by decide) ?_
    obtain ⟨v3, g, h⟩ := zb_some h
    refine zw_xi hX dX4_countOn_14 g ?_
    refine zw_icmp_ge (tgt := 51) hX dX4_countOn_15 (by decide) (fun c15 => ?_) (fun c15 => ?_)
    · rw [if_pos c15] at h
      refine zw_sub (lv' := [(3, .int i3)]) (List.forall_mem_cons.mpr ⟨rfl, zs_nil⟩) ?_
      exact hk _ _ (Option.some.inj h).symm
    · rw [if_neg c15] at h
      refine zw_iload_n hX dX4_countOn_18 rfl ?_
      refine zw_aload_n hX dX4_countOn_19 rfl ?_
      refine zw_aload_n hX dX4_countOn_20 rfl ?_
      obtain ⟨b4, g, h⟩ := zb_some h
      refine zw_getr hX zl_X4_26 dX4_countOn_21 g ?_
      refine zw_iload_n hX dX4_countOn_24 rfl ?_
      obtain ⟨b5, g, h⟩ := zb_some h
      refine zw_xr hX dX4_countOn_25 g ?_
      refine zw_iconst (v := (2 : Int32)) hX dX4_countOn_26 (by decide) ?_
      refine zw_iload hX dX4_countOn_27 rfl ?_
      refine zw_iadd hX dX4_countOn_29 ?_
      obtain ⟨v6, g, h⟩ := zb_some h
      refine zw_xi hX dX4_countOn_30 g ?_
      refine zw_iload_n hX dX4_countOn_31 rfl ?_
      obtain ⟨_, gi, h⟩ := zb_some h
      obtain ⟨r9, g, h⟩ := zb_some h
      refine zc_Vi (as := [.int v6, .int i2]) hX gi (zt_X4_isOn (d := d - 1) (by omega) g) zl_X4_100 rfl dX4_countOn_32 ⟨rfl, rfl, Nat.le_of_ble_eq_true rfl⟩ ⟨by omega, by omega⟩ ?_
      refine zw_if_eq (tgt := 42) hX dX4_countOn_35 (by decide) (fun c35 => ?_) (fun c35 => ?_)
      · rw [if_pos c35] at h
        refine zw_iconst (v := (0 : Int32)) hX dX4_countOn_42 (by decide) ?_
        refine zw_sub (lv' := [(0, .ref a0), (1, .int i1), (2, .int i2), (4, .int i4)]) (List.forall_mem_cons.mpr ⟨rfl, (List.forall_mem_cons.mpr ⟨rfl, (List.forall_mem_cons.mpr ⟨rfl, (List.forall_mem_cons.mpr ⟨rfl, zs_nil⟩)⟩)⟩)⟩) ?_
        exact zt_X4_countOn_J43 hX hr hR hd hf hk ih h
      · rw [if_neg c35] at h
        refine zw_iconst (v := (1 : Int32)) hX dX4_countOn_38 (by decide) ?_
        refine zw_goto (tgt := 43) hX dX4_countOn_39 (by decide) ?_
        refine zw_sub (lv' := [(0, .ref a0), (1, .int i1), (2, .int i2), (4, .int i4)]) (List.forall_mem_cons.mpr ⟨rfl, (List.forall_mem_cons.mpr ⟨rfl, (List.forall_mem_cons.mpr ⟨rfl, (List.forall_mem_cons.mpr ⟨rfl, zs_nil⟩)⟩)⟩)⟩) ?_
        exact zt_X4_countOn_J43 hX hr hR hd hf hk ih h
def zf_X4_countOn (N : Nat) (a0 : Nat) (i1 : Int32) (i2 : Int32) (S : zm_S) : Option (Int32 × zm_S) := (zf_X4_countOn_L5 N N a0 i1 i2 (0 : Int32) (0 : Int32) S).bind (fun r => match r with | .inl o => some o | .inr (v11, S10) => some (v11, S10))
set_option maxHeartbeats 4000000 in
set_option maxRecDepth 100000 in
theorem zt_X4_countOn {l : Launch} {V : zm_V} {N : Nat} {S : zm_S} {out : (Int32 × zm_S)} {d : Nat} {a0 : Nat} {i1 : Int32} {i2 : Int32} (hd : 3 ≤ d) (h : zf_X4_countOn N a0 i1 i2 S = some out) : zm_Met l zk_E V yX4_countOn (.code yX4_countOn cX4_countOn 5 (some .int)) d [.ref a0, .int i1, .int i2] S 0 0 (zo_i out) zo_x := by
  refine zm_of (by decide +kernel) (Nat.le_of_ble_eq_true rfl) ?_
  intro p e R s m args below meth c hRR hX hr hxt
  have hR : R.frames = d ∧ R.locals = 64 * d := by rw [hRR]; exact ⟨rfl, rfl⟩
  have hX : zm_X p R s m args meth c RX4 "countOn" cX4_countOn 5 zk_E V 0 0 := hX
  unfold zf_X4_countOn at h
  refine zw_sub (lv' := [(0, .ref a0), (1, .int i1), (2, .int i2)]) (List.forall_mem_cons.mpr ⟨rfl, (List.forall_mem_cons.mpr ⟨rfl, (List.forall_mem_cons.mpr ⟨rfl, zs_nil⟩)⟩)⟩) ?_
  refine zw_iconst (v := (0 : Int32)) hX dX4_countOn_0 (by decide) ?_
  refine zw_istore_n hX dX4_countOn_1 (by decide) ?_
  refine zw_iconst (v := (0 : Int32)) hX dX4_countOn_2 (by decide) ?_
  refine zw_istore hX dX4_countOn_3 (by decide) ?_
  obtain ⟨r, g, h⟩ := zb_some h
  refine zw_sub (lv' := [(0, .ref a0), (1, .int i1), (2, .int i2), (3, .int (0 : Int32)), (4, .int (0 : Int32))]) (List.forall_mem_cons.mpr ⟨rfl, (List.forall_mem_cons.mpr ⟨rfl, (List.forall_mem_cons.mpr ⟨rfl, (List.forall_mem_cons.mpr ⟨rfl, (List.forall_mem_cons.mpr ⟨rfl, zs_nil⟩)⟩)⟩)⟩)⟩) ?_
  refine zt_X4_countOn_L5 hX hr hR hd (res := r) (out := out) a0 i1 i2 ?_ ?_ N _ _ _ g
  · intro o ho
    subst ho
    exact Option.some.inj h
  · intro v11 S10 hx
    subst hx
    try dsimp only at h
    refine zw_iload_n hX dX4_countOn_51 rfl ?_
    obtain rfl := Option.some.inj h
    exact zw_iret hX hr dX4_countOn_52 rfl ⟨rfl, rfl⟩
def zf_X4_countAsked_J43 (N : Nat) (k : Nat → Int32 → Int32 → Int32 → Int32 → zm_S → Option ((Int32 × zm_S) ⊕ ((Int32) × zm_S))) (a0 : Nat) (i1 : Int32) (i2 : Int32) (i4 : Int32) (t0 : Int32) (t1 : Int32) (S : zm_S) : Option ((Int32 × zm_S) ⊕ ((Int32) × zm_S)) := k a0 i1 i2 (t0 + t1) (i4 + (1 : Int32)) S
set_option maxHeartbeats 4000000 in
set_option maxRecDepth 100000 in
theorem zt_X4_countAsked_J43 {p : Program} {l : Launch} {e : Env} {R : Room} {s : State} {m : MethodId} {args : Array Value} {below : List Frame} {meth : Method} {c : Code} {V : zm_V} {mc ms d rc rs : Nat} (hX : zm_X p R s m args meth c RX4 "countAsked" cX4_countAsked 5 zk_E V mc ms) (hr : meth.sig.returnType = (some .int)) (hR : R.frames = d ∧ R.locals = 64 * d) (hd : 2 ≤ d) {N : Nat} {k : Nat → Int32 → Int32 → Int32 → Int32 → zm_S → Option ((Int32 × zm_S) ⊕ ((Int32) × zm_S))} {a0 : Nat} {i1 : Int32} {i2 : Int32} {i4 : Int32} {t0 : Int32} {t1 : Int32} {res : (Int32 × zm_S) ⊕ ((Int32) × zm_S)} {out : (Int32 × zm_S)}   (hf : ∀ o, res = .inl o → o = out) (hk : ∀ (x3 : Int32) (S' : zm_S), res = .inr (x3, S') → zw p l e R s m args below meth c (vx_MQ below (zm_Qc zk_E V (zo_i out)) (zm_XC zk_E V zo_x) args s mc ms (fun q => V.2.2.2.1 ≤ q)) 5 zk_E V mc ms 51 [(3, .int x3)] [] S' rc rs) (hrec : ∀ (i3' : Int32) (i4' : Int32) (S : zm_S), k a0 i1 i2 i3' i4' S = some res → zw p l e R s m args below meth c (vx_MQ below (zm_Qc zk_E V (zo_i out)) (zm_XC zk_E V zo_x) args s mc ms (fun q => V.2.2.2.1 ≤ q)) 5 zk_E V mc ms 5 [(0, .ref a0), (1, .int i1), (2, .int i2), (3, .int i3'), (4, .int i4')] [] S rc rs) {S : zm_S} (h : zf_X4_countAsked_J43 N k a0 i1 i2 i4 t0 t1 S = some res) : zw p l e R s m args below meth c (vx_MQ below (zm_Qc zk_E V (zo_i out)) (zm_XC zk_E V zo_x) args s mc ms (fun q => V.2.2.2.1 ≤ q)) 5 zk_E V mc ms 43 [(0, .ref a0), (1, .int i1), (2, .int i2), (4, .int i4)] [.int t1, .int t0] S rc rs := by
  unfold zf_X4_countAsked_J43 at h
  refine zw_iadd hX dX4_countAsked_43 ?_
  refine zw_istore_n hX dX4_countAsked_44 (by decide) ?_
  refine zw_iinc (v := (i4 + (1 : Int32))) hX dX4_countAsked_45 rfl rfl (by decide) ?_
  refine zw_goto (tgt := 5) hX dX4_countAsked_48 (by decide) ?_
  refine zw_sub (lv' := [(0, .ref a0), (1, .int i1), (2, .int i2), (3, .int (t0 + t1)), (4, .int (i4 + (1 : Int32)))]) (List.forall_mem_cons.mpr ⟨rfl, (List.forall_mem_cons.mpr ⟨rfl, (List.forall_mem_cons.mpr ⟨rfl, (List.forall_mem_cons.mpr ⟨rfl, (List.forall_mem_cons.mpr ⟨rfl, zs_nil⟩)⟩)⟩)⟩)⟩) ?_
  exact hrec _ _ _ h
def zf_X4_countAsked_L5 (N : Nat) : Nat → Nat → Int32 → Int32 → Int32 → Int32 → zm_S → Option ((Int32 × zm_S) ⊕ ((Int32) × zm_S))
  | 0, _, _, _, _, _, _ => none
  | n + 1, a0, i1, i2, i3, i4, S => (zg_r S a0 4 6).bind (fun b1 => (za_r S b1 i1).bind (fun b2 => (za_x S 0 b2 (1 : Int32)).bind (fun v3 => if v3 ≤ i4 then some (.inr (i3, S)) else (zg_r S a0 4 6).bind (fun b4 => (za_r S b4 i1).bind (fun b5 => (za_x S 0 b5 ((2 : Int32) + i4)).bind (fun v6 => (zi S a0 4).bind (fun _ => (zf_X4_isAsked N a0 v6 i2 S).bind (fun r9 => if r9.1 = 0 then zf_X4_countAsked_J43 N (zf_X4_countAsked_L5 N n) a0 i1 i2 i4 i3 (0 : Int32) r9.2 else zf_X4_countAsked_J43 N (zf_X4_countAsked_L5 N n) a0 i1 i2 i4 i3 (1 : Int32) r9.2))))))))
set_option maxHeartbeats 4000000 in
set_option maxRecDepth 100000 in
theorem zt_X4_countAsked_L5 {p : Program} {l : Launch} {e : Env} {R : Room} {s : State} {m : MethodId} {args : Array Value} {below : List Frame} {meth : Method} {c : Code} {V : zm_V} {mc ms d rc rs : Nat} (hX : zm_X p R s m args meth c RX4 "countAsked" cX4_countAsked 5 zk_E V mc ms) (hr : meth.sig.returnType = (some .int)) (hR : R.frames = d ∧ R.locals = 64 * d) (hd : 2 ≤ d) {N : Nat} {res : (Int32 × zm_S) ⊕ ((Int32) × zm_S)} {out : (Int32 × zm_S)} (a0 : Nat) (i1 : Int32) (i2 : Int32) (hf : ∀ o, res = .inl o → o = out) (hk : ∀ (x3 : Int32) (S' : zm_S), res = .inr (x3, S') → zw p l e R s m args below meth c (vx_MQ below (zm_Qc zk_E V (zo_i out)) (zm_XC zk_E V zo_x) args s mc ms (fun q => V.2.2.2.1 ≤ q)) 5 zk_E V mc ms 51 [(3, .int x3)] [] S' rc rs) : ∀ (n : Nat) (i3 : Int32) (i4 : Int32) (S : zm_S), zf_X4_countAsked_L5 N n a0 i1 i2 i3 i4 S = some res → zw p l e R s m args below meth c (vx_MQ below (zm_Qc zk_E V (zo_i out)) (zm_XC zk_E V zo_x) args s mc ms (fun q => V.2.2.2.1 ≤ q)) 5 zk_E V mc ms 5 [(0, .ref a0), (1, .int i1), (2, .int i2), (3, .int i3), (4, .int i4)] [] S rc rs := by
  intro n
  induction n with
  | zero => intro i3 i4 S h; cases h
  | succ n ih =>
    intro i3 i4 S h
    rw [zf_X4_countAsked_L5] at h
    refine zw_iload hX dX4_countAsked_5 rfl ?_
    refine zw_aload_n hX dX4_countAsked_7 rfl ?_
    obtain ⟨b1, g, h⟩ := zb_some h
    refine zw_getr hX zl_X4_26 dX4_countAsked_8 g ?_
    refine zw_iload_n hX dX4_countAsked_11 rfl ?_
    obtain ⟨b2, g, h⟩ := zb_some h
    refine zw_xr hX dX4_countAsked_12 g ?_
    refine zw_iconst (v := (1 : Int32)) hX dX4_countAsked_13 (by decide) ?_
    obtain ⟨v3, g, h⟩ := zb_some h
    refine zw_xi hX dX4_countAsked_14 g ?_
    refine zw_icmp_ge (tgt := 51) hX dX4_countAsked_15 (by decide) (fun c15 => ?_) (fun c15 => ?_)
    · rw [if_pos c15] at h
      refine zw_sub (lv' := [(3, .int i3)]) (List.forall_mem_cons.mpr ⟨rfl, zs_nil⟩) ?_
      exact hk _ _ (Option.some.inj h).symm
    · rw [if_neg c15] at h
      refine zw_iload_n hX dX4_countAsked_18 rfl ?_
      refine zw_aload_n hX dX4_countAsked_19 rfl ?_
      refine zw_aload_n hX dX4_countAsked_20 rfl ?_
      obtain ⟨b4, g, h⟩ := zb_some h
      refine zw_getr hX zl_X4_26 dX4_countAsked_21 g ?_
      refine zw_iload_n hX dX4_countAsked_24 rfl ?_
      obtain ⟨b5, g, h⟩ := zb_some h
      refine zw_xr hX dX4_countAsked_25 g ?_
      refine zw_iconst (v := (2 : Int32)) hX dX4_countAsked_26 (by decide) ?_
      refine zw_iload hX dX4_countAsked_27 rfl ?_
      refine zw_iadd hX dX4_countAsked_29 ?_
      obtain ⟨v6, g, h⟩ := zb_some h
      refine zw_xi hX dX4_countAsked_30 g ?_
      refine zw_iload_n hX dX4_countAsked_31 rfl ?_
      obtain ⟨_, gi, h⟩ := zb_some h
      obtain ⟨r9, g, h⟩ := zb_some h
      refine zc_Vi (as := [.int v6, .int i2]) hX gi (zt_X4_isAsked (d := d - 1) (by omega) g) zl_X4_96 rfl dX4_countAsked_32 ⟨rfl, rfl, Nat.le_of_ble_eq_true rfl⟩ ⟨by omega, by omega⟩ ?_
      refine zw_if_eq (tgt := 42) hX dX4_countAsked_35 (by decide) (fun c35 => ?_) (fun c35 => ?_)
      · rw [if_pos c35] at h
        refine zw_iconst (v := (0 : Int32)) hX dX4_countAsked_42 (by decide) ?_
        refine zw_sub (lv' := [(0, .ref a0), (1, .int i1), (2, .int i2), (4, .int i4)]) (List.forall_mem_cons.mpr ⟨rfl, (List.forall_mem_cons.mpr ⟨rfl, (List.forall_mem_cons.mpr ⟨rfl, (List.forall_mem_cons.mpr ⟨rfl, zs_nil⟩)⟩)⟩)⟩) ?_
        exact zt_X4_countAsked_J43 hX hr hR hd hf hk ih h
      · rw [if_neg c35] at h
        refine zw_iconst (v := (1 : Int32)) hX dX4_countAsked_38 (by decide) ?_
        refine zw_goto (tgt := 43) hX dX4_countAsked_39 (by decide) ?_
        refine zw_sub (lv' := [(0, .ref a0), (1, .int i1), (2, .int i2), (4, .int i4)]) (List.forall_mem_cons.mpr ⟨rfl, (List.forall_mem_cons.mpr ⟨rfl, (List.forall_mem_cons.mpr ⟨rfl, (List.forall_mem_cons.mpr ⟨rfl, zs_nil⟩)⟩)⟩)⟩) ?_
        exact zt_X4_countAsked_J43 hX hr hR hd hf hk ih h
def zf_X4_countAsked (N : Nat) (a0 : Nat) (i1 : Int32) (i2 : Int32) (S : zm_S) : Option (Int32 × zm_S) := (zf_X4_countAsked_L5 N N a0 i1 i2 (0 : Int32) (0 : Int32) S).bind (fun r => match r with | .inl o => some o | .inr (v11, S10) => some (v11, S10))
set_option maxHeartbeats 4000000 in
set_option maxRecDepth 100000 in
theorem zt_X4_countAsked {l : Launch} {V : zm_V} {N : Nat} {S : zm_S} {out : (Int32 × zm_S)} {d : Nat} {a0 : Nat} {i1 : Int32} {i2 : Int32} (hd : 2 ≤ d) (h : zf_X4_countAsked N a0 i1 i2 S = some out) : zm_Met l zk_E V yX4_countAsked (.code yX4_countAsked cX4_countAsked 5 (some .int)) d [.ref a0, .int i1, .int i2] S 0 0 (zo_i out) zo_x := by
  refine zm_of (by decide +kernel) (Nat.le_of_ble_eq_true rfl) ?_
  intro p e R s m args below meth c hRR hX hr hxt
  have hR : R.frames = d ∧ R.locals = 64 * d := by rw [hRR]; exact ⟨rfl, rfl⟩
  have hX : zm_X p R s m args meth c RX4 "countAsked" cX4_countAsked 5 zk_E V 0 0 := hX
  unfold zf_X4_countAsked at h
  refine zw_sub (lv' := [(0, .ref a0), (1, .int i1), (2, .int i2)]) (List.forall_mem_cons.mpr ⟨rfl, (List.forall_mem_cons.mpr ⟨rfl, (List.forall_mem_cons.mpr ⟨rfl, zs_nil⟩)⟩)⟩) ?_
  refine zw_iconst (v := (0 : Int32)) hX dX4_countAsked_0 (by decide) ?_
  refine zw_istore_n hX dX4_countAsked_1 (by decide) ?_
  refine zw_iconst (v := (0 : Int32)) hX dX4_countAsked_2 (by decide) ?_
  refine zw_istore hX dX4_countAsked_3 (by decide) ?_
  obtain ⟨r, g, h⟩ := zb_some h
  refine zw_sub (lv' := [(0, .ref a0), (1, .int i1), (2, .int i2), (3, .int (0 : Int32)), (4, .int (0 : Int32))]) (List.forall_mem_cons.mpr ⟨rfl, (List.forall_mem_cons.mpr ⟨rfl, (List.forall_mem_cons.mpr ⟨rfl, (List.forall_mem_cons.mpr ⟨rfl, (List.forall_mem_cons.mpr ⟨rfl, zs_nil⟩)⟩)⟩)⟩)⟩) ?_
  refine zt_X4_countAsked_L5 hX hr hR hd (res := r) (out := out) a0 i1 i2 ?_ ?_ N _ _ _ g
  · intro o ho
    subst ho
    exact Option.some.inj h
  · intro v11 S10 hx
    subst hx
    try dsimp only at h
    refine zw_iload_n hX dX4_countAsked_51 rfl ?_
    obtain rfl := Option.some.inj h
    exact zw_iret hX hr dX4_countAsked_52 rfl ⟨rfl, rfl⟩
def zf_X4_isSure (N : Nat) (a0 : Nat) (i1 : Int32) (i2 : Int32) (S : zm_S) : Option (Int32 × zm_S) := if i2 ≤ 0 then some ((0 : Int32), S) else if i1 = i2 then some ((1 : Int32), S) else some ((0 : Int32), S)
set_option maxHeartbeats 4000000 in
set_option maxRecDepth 100000 in
theorem zt_X4_isSure {l : Launch} {V : zm_V} {N : Nat} {S : zm_S} {out : (Int32 × zm_S)} {d : Nat} {a0 : Nat} {i1 : Int32} {i2 : Int32} (hd : 1 ≤ d) (h : zf_X4_isSure N a0 i1 i2 S = some out) : zm_Met l zk_E V yX4_isSure (.code yX4_isSure cX4_isSure 3 (some .boolean)) d [.ref a0, .int i1, .int i2] S 0 0 (zo_i out) zo_x := by
  refine zm_of (by decide +kernel) (Nat.le_of_ble_eq_true rfl) ?_
  intro p e R s m args below meth c hRR hX hr hxt
  have hR : R.frames = d ∧ R.locals = 64 * d := by rw [hRR]; exact ⟨rfl, rfl⟩
  have hX : zm_X p R s m args meth c RX4 "isSure" cX4_isSure 3 zk_E V 0 0 := hX
  unfold zf_X4_isSure at h
  refine zw_sub (lv' := [(0, .ref a0), (1, .int i1), (2, .int i2)]) (List.forall_mem_cons.mpr ⟨rfl, (List.forall_mem_cons.mpr ⟨rfl, (List.forall_mem_cons.mpr ⟨rfl, zs_nil⟩)⟩)⟩) ?_
  refine zw_iload_n hX dX4_isSure_0 rfl ?_
  refine zw_if_le (tgt := 13) hX dX4_isSure_1 (by decide) (fun c1 => ?_) (fun c1 => ?_)
  · rw [if_pos c1] at h
    refine zw_iconst (v := (0 : Int32)) hX dX4_isSure_13 (by decide) ?_
    obtain rfl := Option.some.inj h
    exact zw_iret hX hr dX4_isSure_14 rfl ⟨rfl, rfl⟩
  · rw [if_neg c1] at h
    refine zw_iload_n hX dX4_isSure_4 rfl ?_
    refine zw_iload_n hX dX4_isSure_5 rfl ?_
    refine zw_icmp_ne (tgt := 13) hX dX4_isSure_6 (by decide) (fun c6 => ?_) (fun c6 => ?_)
    · rw [if_neg c6] at h
      refine zw_iconst (v := (0 : Int32)) hX dX4_isSure_13 (by decide) ?_
      obtain rfl := Option.some.inj h
      exact zw_iret hX hr dX4_isSure_14 rfl ⟨rfl, rfl⟩
    · rw [if_pos c6] at h
      refine zw_iconst (v := (1 : Int32)) hX dX4_isSure_9 (by decide) ?_
      refine zw_goto (tgt := 14) hX dX4_isSure_10 (by decide) ?_
      obtain rfl := Option.some.inj h
      exact zw_iret hX hr dX4_isSure_14 rfl ⟨rfl, rfl⟩
def zf_X4_lookAtZones_J48 (N : Nat) (k : Nat → Int32 → Int32 → zm_S → Option ((Unit × zm_S) ⊕ ((Unit) × zm_S))) (a0 : Nat) (i1 : Int32) (i2 : Int32) (i3 : Int32) (t0 : Nat) (t1 : Int32) (t2 : Int32) (S : zm_S) : Option ((Unit × zm_S) ⊕ ((Unit) × zm_S)) := (zs_z S t0 t1 t2).bind (fun S10 => (zg_r S10 a0 4 16).bind (fun b11 => (zi S10 a0 4).bind (fun _ => (zf_X4_countAsked N a0 i2 i1 S10).bind (fun r14 => (zi r14.2 a0 4).bind (fun _ => (zf_X4_isSure N a0 i3 r14.1 r14.2).bind (fun r17 => (zs_z r17.2 b11 i2 r17.1).bind (fun S18 => k a0 i1 (i2 + (1 : Int32)) S18)))))))
set_option maxHeartbeats 4000000 in
set_option maxRecDepth 100000 in
theorem zt_X4_lookAtZones_J48 {p : Program} {l : Launch} {e : Env} {R : Room} {s : State} {m : MethodId} {args : Array Value} {below : List Frame} {meth : Method} {c : Code} {V : zm_V} {mc ms d rc rs : Nat} (hX : zm_X p R s m args meth c RX4 "lookAtZones" cX4_lookAtZones 4 zk_E V mc ms) (hr : meth.sig.returnType = none) (hR : R.frames = d ∧ R.locals = 64 * d) (hd : 4 ≤ d) {N : Nat} {k : Nat → Int32 → Int32 → zm_S → Option ((Unit × zm_S) ⊕ ((Unit) × zm_S))} {a0 : Nat} {i1 : Int32} {i2 : Int32} {i3 : Int32} {t0 : Nat} {t1 : Int32} {t2 : Int32} {res : (Unit × zm_S) ⊕ ((Unit) × zm_S)} {out : (Unit × zm_S)}   (hf : ∀ o, res = .inl o → o = out) (hk : ∀ (S' : zm_S), res = .inr ((), S') → zw p l e R s m args below meth c (vx_MQ below (zm_Qc zk_E V (zo_v out)) (zm_XC zk_E V zo_x) args s mc ms (fun q => V.2.2.2.1 ≤ q)) 4 zk_E V mc ms 72 [] [] S' rc rs) (hrec : ∀ (i2' : Int32) (S : zm_S), k a0 i1 i2' S = some res → zw p l e R s m args below meth c (vx_MQ below (zm_Qc zk_E V (zo_v out)) (zm_XC zk_E V zo_x) args s mc ms (fun q => V.2.2.2.1 ≤ q)) 4 zk_E V mc ms 2 [(0, .ref a0), (1, .int i1), (2, .int i2')] [] S rc rs) {S : zm_S} (h : zf_X4_lookAtZones_J48 N k a0 i1 i2 i3 t0 t1 t2 S = some res) : zw p l e R s m args below meth c (vx_MQ below (zm_Qc zk_E V (zo_v out)) (zm_XC zk_E V zo_x) args s mc ms (fun q => V.2.2.2.1 ≤ q)) 4 zk_E V mc ms 48 [(0, .ref a0), (1, .int i1), (2, .int i2), (3, .int i3)] [.int t2, .int t1, .ref t0] S rc rs := by
  unfold zf_X4_lookAtZones_J48 at h
  obtain ⟨S10, g, h⟩ := zb_some h
  refine zw_sz hX dX4_lookAtZones_48 g ?_
  refine zw_aload_n hX dX4_lookAtZones_49 rfl ?_
  obtain ⟨b11, g, h⟩ := zb_some h
  refine zw_getr hX zl_X4_53 dX4_lookAtZones_50 g ?_
  refine zw_iload_n hX dX4_lookAtZones_53 rfl ?_
  refine zw_aload_n hX dX4_lookAtZones_54 rfl ?_
  refine zw_iload_n hX dX4_lookAtZones_55 rfl ?_
  refine zw_aload_n hX dX4_lookAtZones_56 rfl ?_
  refine zw_iload_n hX dX4_lookAtZones_57 rfl ?_
  refine zw_iload_n hX dX4_lookAtZones_58 rfl ?_
  obtain ⟨_, gi, h⟩ := zb_some h
  obtain ⟨r14, g, h⟩ := zb_some h
  refine zc_Vi (as := [.int i2, .int i1]) hX gi (zt_X4_countAsked (d := d - 1) (by omega) g) zl_X4_110 rfl dX4_lookAtZones_59 ⟨rfl, rfl, Nat.le_of_ble_eq_true rfl⟩ ⟨by omega, by omega⟩ ?_
  obtain ⟨_, gi, h⟩ := zb_some h
  obtain ⟨r17, g, h⟩ := zb_some h
  refine zc_Vi (as := [.int i3, .int r14.1]) hX gi (zt_X4_isSure (d := d - 1) (by omega) g) zl_X4_113 rfl dX4_lookAtZones_62 ⟨rfl, rfl, Nat.le_of_ble_eq_true rfl⟩ ⟨by omega, by omega⟩ ?_
  obtain ⟨S18, g, h⟩ := zb_some h
  refine zw_sz hX dX4_lookAtZones_65 g ?_
  refine zw_iinc (v := (i2 + (1 : Int32))) hX dX4_lookAtZones_66 rfl rfl (by decide) ?_
  refine zw_goto (tgt := 2) hX dX4_lookAtZones_69 (by decide) ?_
  refine zw_sub (lv' := [(0, .ref a0), (1, .int i1), (2, .int (i2 + (1 : Int32)))]) (List.forall_mem_cons.mpr ⟨rfl, (List.forall_mem_cons.mpr ⟨rfl, (List.forall_mem_cons.mpr ⟨rfl, zs_nil⟩)⟩)⟩) ?_
  exact hrec _ _ h
def zf_X4_lookAtZones_J47 (N : Nat) (k : Nat → Int32 → Int32 → zm_S → Option ((Unit × zm_S) ⊕ ((Unit) × zm_S))) (a0 : Nat) (i1 : Int32) (i2 : Int32) (i3 : Int32) (t0 : Nat) (t1 : Int32) (S : zm_S) : Option ((Unit × zm_S) ⊕ ((Unit) × zm_S)) := zf_X4_lookAtZones_J48 N (k) a0 i1 i2 i3 t0 t1 (0 : Int32) S
set_option maxHeartbeats 4000000 in
set_option maxRecDepth 100000 in
theorem zt_X4_lookAtZones_J47 {p : Program} {l : Launch} {e : Env} {R : Room} {s : State} {m : MethodId} {args : Array Value} {below : List Frame} {meth : Method} {c : Code} {V : zm_V} {mc ms d rc rs : Nat} (hX : zm_X p R s m args meth c RX4 "lookAtZones" cX4_lookAtZones 4 zk_E V mc ms) (hr : meth.sig.returnType = none) (hR : R.frames = d ∧ R.locals = 64 * d) (hd : 4 ≤ d) {N : Nat} {k : Nat → Int32 → Int32 → zm_S → Option ((Unit × zm_S) ⊕ ((Unit) × zm_S))} {a0 : Nat} {i1 : Int32} {i2 : Int32} {i3 : Int32} {t0 : Nat} {t1 : Int32} {res : (Unit × zm_S) ⊕ ((Unit) × zm_S)} {out : (Unit × zm_S)}   (hf : ∀ o, res = .inl o → o = out) (hk : ∀ (S' : zm_S), res = .inr ((), S') → zw p l e R s m args below meth c (vx_MQ below (zm_Qc zk_E V (zo_v out)) (zm_XC zk_E V zo_x) args s mc ms (fun q => V.2.2.2.1 ≤ q)) 4 zk_E V mc ms 72 [] [] S' rc rs) (hrec : ∀ (i2' : Int32) (S : zm_S), k a0 i1 i2' S = some res → zw p l e R s m args below meth c (vx_MQ below (zm_Qc zk_E V (zo_v out)) (zm_XC zk_E V zo_x) args s mc ms (fun q => V.2.2.2.1 ≤ q)) 4 zk_E V mc ms 2 [(0, .ref a0), (1, .int i1), (2, .int i2')] [] S rc rs) {S : zm_S} (h : zf_X4_lookAtZones_J47 N k a0 i1 i2 i3 t0 t1 S = some res) : zw p l e R s m args below meth c (vx_MQ below (zm_Qc zk_E V (zo_v out)) (zm_XC zk_E V zo_x) args s mc ms (fun q => V.2.2.2.1 ≤ q)) 4 zk_E V mc ms 47 [(0, .ref a0), (1, .int i1), (2, .int i2), (3, .int i3)] [.int t1, .ref t0] S rc rs := by
  unfold zf_X4_lookAtZones_J47 at h
  refine zw_iconst (v := (0 : Int32)) hX dX4_lookAtZones_47 (by decide) ?_
  refine zw_sub (lv' := [(0, .ref a0), (1, .int i1), (2, .int i2), (3, .int i3)]) (List.forall_mem_cons.mpr ⟨rfl, (List.forall_mem_cons.mpr ⟨rfl, (List.forall_mem_cons.mpr ⟨rfl, (List.forall_mem_cons.mpr ⟨rfl, zs_nil⟩)⟩)⟩)⟩) ?_
  exact zt_X4_lookAtZones_J48 hX hr hR hd hf hk hrec h
def zf_X4_lookAtZones_L2 (N : Nat) : Nat → Nat → Int32 → Int32 → zm_S → Option ((Unit × zm_S) ⊕ ((Unit) × zm_S))
  | 0, _, _, _, _ => none
  | n + 1, a0, i1, i2, S => (zg_r S a0 4 6).bind (fun b1 => (za_n S b1).bind (fun v2 => if v2 ≤ i2 then some (.inr ((), S)) else (zi S a0 4).bind (fun _ => (zf_X4_countOn N a0 i2 i1 S).bind (fun r5 => (zg_r r5.2 a0 4 15).bind (fun b6 => (zi r5.2 a0 4).bind (fun _ => (zf_X4_isZone N a0 i2 r5.2).bind (fun r9 => if r9.1 = 0 then zf_X4_lookAtZones_J47 N (zf_X4_lookAtZones_L2 N n) a0 i1 i2 r5.1 b6 i2 r9.2 else (zg_r r9.2 a0 4 6).bind (fun b19 => (za_r r9.2 b19 i2).bind (fun b20 => (za_x r9.2 0 b20 (0 : Int32)).bind (fun v21 => if r5.1 < v21 then zf_X4_lookAtZones_J47 N (zf_X4_lookAtZones_L2 N n) a0 i1 i2 r5.1 b6 i2 r9.2 else zf_X4_lookAtZones_J48 N (zf_X4_lookAtZones_L2 N n) a0 i1 i2 r5.1 b6 i2 (1 : Int32) r9.2))))))))))
set_option maxHeartbeats 4000000 in
set_option maxRecDepth 100000 in
theorem zt_X4_lookAtZones_L2 {p : Program} {l : Launch} {e : Env} {R : Room} {s : State} {m : MethodId} {args : Array Value} {below : List Frame} {meth : Method} {c : Code} {V : zm_V} {mc ms d rc rs : Nat} (hX : zm_X p R s m args meth c RX4 "lookAtZones" cX4_lookAtZones 4 zk_E V mc ms) (hr : meth.sig.returnType = none) (hR : R.frames = d ∧ R.locals = 64 * d) (hd : 4 ≤ d) {N : Nat} {res : (Unit × zm_S) ⊕ ((Unit) × zm_S)} {out : (Unit × zm_S)} (a0 : Nat) (i1 : Int32) (hf : ∀ o, res = .inl o → o = out) (hk : ∀ (S' : zm_S), res = .inr ((), S') → zw p l e R s m args below meth c (vx_MQ below (zm_Qc zk_E V (zo_v out)) (zm_XC zk_E V zo_x) args s mc ms (fun q => V.2.2.2.1 ≤ q)) 4 zk_E V mc ms 72 [] [] S' rc rs) : ∀ (n : Nat) (i2 : Int32) (S : zm_S), zf_X4_lookAtZones_L2 N n a0 i1 i2 S = some res → zw p l e R s m args below meth c (vx_MQ below (zm_Qc zk_E V (zo_v out)) (zm_XC zk_E V zo_x) args s mc ms (fun q => V.2.2.2.1 ≤ q)) 4 zk_E V mc ms 2 [(0, .ref a0), (1, .int i1), (2, .int i2)] [] S rc rs := by
  intro n
  induction n with
  | zero => intro i2 S h; cases h
  | succ n ih =>
    intro i2 S h
    rw [zf_X4_lookAtZones_L2] at h
    refine zw_iload_n hX dX4_lookAtZones_2 rfl ?_
    refine zw_aload_n hX dX4_lookAtZones_3 rfl ?_
    obtain ⟨b1, g, h⟩ := zb_some h
    refine zw_getr hX zl_X4_26 dX4_lookAtZones_4 g ?_
    obtain ⟨v2, g, h⟩ := zb_some h
    refine zw_len hX dX4_lookAtZones_7 g ?_
    refine zw_icmp_ge (tgt := 72) hX dX4_lookAtZones_8 (by decide) (fun c8 => ?_) (fun c8 => ?_)
    · rw [if_pos c8] at h
      refine zw_sub (lv' := []) zs_nil ?_
      exact hk  _ (Option.some.inj h).symm
    · rw [if_neg c8] at h
      refine zw_aload_n hX dX4_lookAtZones_11 rfl ?_
      refine zw_iload_n hX dX4_lookAtZones_12 rfl ?_
      refine zw_iload_n hX dX4_lookAtZones_13 rfl ?_
      obtain ⟨_, gi, h⟩ := zb_some h
      obtain ⟨r5, g, h⟩ := zb_some h
      refine zc_Vi (as := [.int i2, .int i1]) hX gi (zt_X4_countOn (d := d - 1) (by omega) g) zl_X4_103 rfl dX4_lookAtZones_14 ⟨rfl, rfl, Nat.le_of_ble_eq_true rfl⟩ ⟨by omega, by omega⟩ ?_
      refine zw_istore_n hX dX4_lookAtZones_17 (by decide) ?_
      refine zw_aload_n hX dX4_lookAtZones_18 rfl ?_
      obtain ⟨b6, g, h⟩ := zb_some h
      refine zw_getr hX zl_X4_50 dX4_lookAtZones_19 g ?_
      refine zw_iload_n hX dX4_lookAtZones_22 rfl ?_
      refine zw_aload_n hX dX4_lookAtZones_23 rfl ?_
      refine zw_iload_n hX dX4_lookAtZones_24 rfl ?_
      obtain ⟨_, gi, h⟩ := zb_some h
      obtain ⟨r9, g, h⟩ := zb_some h
      refine zc_Vi (as := [.int i2]) hX gi (zt_X4_isZone (d := d - 1) (by omega) g) zl_X4_106 rfl dX4_lookAtZones_25 ⟨rfl, rfl, Nat.le_of_ble_eq_true rfl⟩ ⟨by omega, by omega⟩ ?_
      refine zw_if_eq (tgt := 47) hX dX4_lookAtZones_28 (by decide) (fun c28 => ?_) (fun c28 => ?_)
      · rw [if_pos c28] at h
        refine zw_sub (lv' := [(0, .ref a0), (1, .int i1), (2, .int i2), (3, .int r5.1)]) (List.forall_mem_cons.mpr ⟨rfl, (List.forall_mem_cons.mpr ⟨rfl, (List.forall_mem_cons.mpr ⟨rfl, (List.forall_mem_cons.mpr ⟨rfl, zs_nil⟩)⟩)⟩)⟩) ?_
        exact zt_X4_lookAtZones_J47 hX hr hR hd hf hk ih h
      · rw [if_neg c28] at h
        refine zw_iload_n hX dX4_lookAtZones_31 rfl ?_
        refine zw_aload_n hX dX4_lookAtZones_32 rfl ?_
        obtain ⟨b19, g, h⟩ := zb_some h
        refine zw_getr hX zl_X4_26 dX4_lookAtZones_33 g ?_
        refine zw_iload_n hX dX4_lookAtZones_36 rfl ?_
        obtain ⟨b20, g, h⟩ := zb_some h
        refine zw_xr hX dX4_lookAtZones_37 g ?_
        refine zw_iconst (v := (0 : Int32)) hX dX4_lookAtZones_38 (by decide) ?_
        obtain ⟨v21, g, h⟩ := zb_some h
        refine zw_xi hX dX4_lookAtZones_39 g ?_
        refine zw_icmp_lt (tgt := 47) hX dX4_lookAtZones_40 (by decide) (fun c40 => ?_) (fun c40 => ?_)
        · rw [if_pos c40] at h
          refine zw_sub (lv' := [(0, .ref a0), (1, .int i1), (2, .int i2), (3, .int r5.1)]) (List.forall_mem_cons.mpr ⟨rfl, (List.forall_mem_cons.mpr ⟨rfl, (List.forall_mem_cons.mpr ⟨rfl, (List.forall_mem_cons.mpr ⟨rfl, zs_nil⟩)⟩)⟩)⟩) ?_
          exact zt_X4_lookAtZones_J47 hX hr hR hd hf hk ih h
        · rw [if_neg c40] at h
          refine zw_iconst (v := (1 : Int32)) hX dX4_lookAtZones_43 (by decide) ?_
          refine zw_goto (tgt := 48) hX dX4_lookAtZones_44 (by decide) ?_
          refine zw_sub (lv' := [(0, .ref a0), (1, .int i1), (2, .int i2), (3, .int r5.1)]) (List.forall_mem_cons.mpr ⟨rfl, (List.forall_mem_cons.mpr ⟨rfl, (List.forall_mem_cons.mpr ⟨rfl, (List.forall_mem_cons.mpr ⟨rfl, zs_nil⟩)⟩)⟩)⟩) ?_
          exact zt_X4_lookAtZones_J48 hX hr hR hd hf hk ih h
def zf_X4_lookAtZones (N : Nat) (a0 : Nat) (i1 : Int32) (S : zm_S) : Option (Unit × zm_S) := (zf_X4_lookAtZones_L2 N N a0 i1 (0 : Int32) S).bind (fun r => match r with | .inl o => some o | .inr (_, S22) => some ((), S22))
set_option maxHeartbeats 4000000 in
set_option maxRecDepth 100000 in
theorem zt_X4_lookAtZones {l : Launch} {V : zm_V} {N : Nat} {S : zm_S} {out : (Unit × zm_S)} {d : Nat} {a0 : Nat} {i1 : Int32} (hd : 4 ≤ d) (h : zf_X4_lookAtZones N a0 i1 S = some out) : zm_Met l zk_E V yX4_lookAtZones (.code yX4_lookAtZones cX4_lookAtZones 4 none) d [.ref a0, .int i1] S 0 0 (zo_v out) zo_x := by
  refine zm_of (by decide +kernel) (Nat.le_of_ble_eq_true rfl) ?_
  intro p e R s m args below meth c hRR hX hr hxt
  have hR : R.frames = d ∧ R.locals = 64 * d := by rw [hRR]; exact ⟨rfl, rfl⟩
  have hX : zm_X p R s m args meth c RX4 "lookAtZones" cX4_lookAtZones 4 zk_E V 0 0 := hX
  unfold zf_X4_lookAtZones at h
  refine zw_sub (lv' := [(0, .ref a0), (1, .int i1)]) (List.forall_mem_cons.mpr ⟨rfl, (List.forall_mem_cons.mpr ⟨rfl, zs_nil⟩)⟩) ?_
  refine zw_iconst (v := (0 : Int32)) hX dX4_lookAtZones_0 (by decide) ?_
  refine zw_istore_n hX dX4_lookAtZones_1 (by decide) ?_
  obtain ⟨r, g, h⟩ := zb_some h
  refine zw_sub (lv' := [(0, .ref a0), (1, .int i1), (2, .int (0 : Int32))]) (List.forall_mem_cons.mpr ⟨rfl, (List.forall_mem_cons.mpr ⟨rfl, (List.forall_mem_cons.mpr ⟨rfl, zs_nil⟩)⟩)⟩) ?_
  refine zt_X4_lookAtZones_L2 hX hr hR hd (res := r) (out := out) a0 i1 ?_ ?_ N _ _ g
  · intro o ho
    subst ho
    exact Option.some.inj h
  · intro  S22 hx
    subst hx
    try dsimp only at h
    obtain rfl := Option.some.inj h
    exact zw_vret hX hr dX4_lookAtZones_72 ⟨rfl, rfl⟩
def zf_X4_isMet (N : Nat) (a0 : Nat) (i1 : Int32) (S : zm_S) : Option (Int32 × zm_S) := (zg_r S a0 4 15).bind (fun b1 => (zg_r S a0 4 8).bind (fun b2 => (za_r S b2 i1).bind (fun b3 => (za_x S 0 b3 (0 : Int32)).bind (fun v4 => (za_x S 2 b1 v4).bind (fun v5 => if v5 = 0 then some ((0 : Int32), S) else (zg_r S a0 4 8).bind (fun b6 => (za_r S b6 i1).bind (fun b7 => (za_x S 0 b7 (1 : Int32)).bind (fun v8 => if v8 = (-1 : Int32) then some ((1 : Int32), S) else (zg_r S a0 4 15).bind (fun b9 => (zg_r S a0 4 8).bind (fun b10 => (za_r S b10 i1).bind (fun b11 => (za_x S 0 b11 (1 : Int32)).bind (fun v12 => (za_x S 2 b9 v12).bind (fun v13 => if v13 = 0 then some ((0 : Int32), S) else some ((1 : Int32), S))))))))))))))
set_option maxHeartbeats 4000000 in
set_option maxRecDepth 100000 in
theorem zt_X4_isMet {l : Launch} {V : zm_V} {N : Nat} {S : zm_S} {out : (Int32 × zm_S)} {d : Nat} {a0 : Nat} {i1 : Int32} (hd : 1 ≤ d) (h : zf_X4_isMet N a0 i1 S = some out) : zm_Met l zk_E V yX4_isMet (.code yX4_isMet cX4_isMet 2 (some .boolean)) d [.ref a0, .int i1] S 0 0 (zo_i out) zo_x := by
  refine zm_of (by decide +kernel) (Nat.le_of_ble_eq_true rfl) ?_
  intro p e R s m args below meth c hRR hX hr hxt
  have hR : R.frames = d ∧ R.locals = 64 * d := by rw [hRR]; exact ⟨rfl, rfl⟩
  have hX : zm_X p R s m args meth c RX4 "isMet" cX4_isMet 2 zk_E V 0 0 := hX
  unfold zf_X4_isMet at h
  refine zw_sub (lv' := [(0, .ref a0), (1, .int i1)]) (List.forall_mem_cons.mpr ⟨rfl, (List.forall_mem_cons.mpr ⟨rfl, zs_nil⟩)⟩) ?_
  refine zw_aload_n hX dX4_isMet_0 rfl ?_
  obtain ⟨b1, g, h⟩ := zb_some h
  refine zw_getr hX zl_X4_50 dX4_isMet_1 g ?_
  refine zw_aload_n hX dX4_isMet_4 rfl ?_
  obtain ⟨b2, g, h⟩ := zb_some h
  refine zw_getr hX zl_X4_32 dX4_isMet_5 g ?_
  refine zw_iload_n hX dX4_isMet_8 rfl ?_
  obtain ⟨b3, g, h⟩ := zb_some h
  refine zw_xr hX dX4_isMet_9 g ?_
  refine zw_iconst (v := (0 : Int32)) hX dX4_isMet_10 (by decide) ?_
  obtain ⟨v4, g, h⟩ := zb_some h
  refine zw_xi hX dX4_isMet_11 g ?_
  obtain ⟨v5, g, h⟩ := zb_some h
  refine zw_xz hX dX4_isMet_12 g ?_
  refine zw_if_eq (tgt := 48) hX dX4_isMet_13 (by decide) (fun c13 => ?_) (fun c13 => ?_)
  · rw [if_pos c13] at h
    refine zw_iconst (v := (0 : Int32)) hX dX4_isMet_48 (by decide) ?_
    obtain rfl := Option.some.inj h
    exact zw_iret hX hr dX4_isMet_49 rfl ⟨rfl, rfl⟩
  · rw [if_neg c13] at h
    refine zw_aload_n hX dX4_isMet_16 rfl ?_
    obtain ⟨b6, g, h⟩ := zb_some h
    refine zw_getr hX zl_X4_32 dX4_isMet_17 g ?_
    refine zw_iload_n hX dX4_isMet_20 rfl ?_
    obtain ⟨b7, g, h⟩ := zb_some h
    refine zw_xr hX dX4_isMet_21 g ?_
    refine zw_iconst (v := (1 : Int32)) hX dX4_isMet_22 (by decide) ?_
    obtain ⟨v8, g, h⟩ := zb_some h
    refine zw_xi hX dX4_isMet_23 g ?_
    refine zw_iconst (v := (-1 : Int32)) hX dX4_isMet_24 (by decide) ?_
    refine zw_icmp_eq (tgt := 44) hX dX4_isMet_25 (by decide) (fun c25 => ?_) (fun c25 => ?_)
    · rw [if_pos c25] at h
      refine zw_iconst (v := (1 : Int32)) hX dX4_isMet_44 (by decide) ?_
      refine zw_goto (tgt := 49) hX dX4_isMet_45 (by decide) ?_
      obtain rfl := Option.some.inj h
      exact zw_iret hX hr dX4_isMet_49 rfl ⟨rfl, rfl⟩
    · rw [if_neg c25] at h
      refine zw_aload_n hX dX4_isMet_28 rfl ?_
      obtain ⟨b9, g, h⟩ := zb_some h
      refine zw_getr hX zl_X4_50 dX4_isMet_29 g ?_
      refine zw_aload_n hX dX4_isMet_32 rfl ?_
      obtain ⟨b10, g, h⟩ := zb_some h
      refine zw_getr hX zl_X4_32 dX4_isMet_33 g ?_
      refine zw_iload_n hX dX4_isMet_36 rfl ?_
      obtain ⟨b11, g, h⟩ := zb_some h
      refine zw_xr hX dX4_isMet_37 g ?_
      refine zw_iconst (v := (1 : Int32)) hX dX4_isMet_38 (by decide) ?_
      obtain ⟨v12, g, h⟩ := zb_some h
      refine zw_xi hX dX4_isMet_39 g ?_
      obtain ⟨v13, g, h⟩ := zb_some h
      refine zw_xz hX dX4_isMet_40 g ?_
      refine zw_if_eq (tgt := 48) hX dX4_isMet_41 (by decide) (fun c41 => ?_) (fun c41 => ?_)
      · rw [if_pos c41] at h
        refine zw_iconst (v := (0 : Int32)) hX dX4_isMet_48 (by decide) ?_
        obtain rfl := Option.some.inj h
        exact zw_iret hX hr dX4_isMet_49 rfl ⟨rfl, rfl⟩
      · rw [if_neg c41] at h
        refine zw_iconst (v := (1 : Int32)) hX dX4_isMet_44 (by decide) ?_
        refine zw_goto (tgt := 49) hX dX4_isMet_45 (by decide) ?_
        obtain rfl := Option.some.inj h
        exact zw_iret hX hr dX4_isMet_49 rfl ⟨rfl, rfl⟩
def zf_X4_isCalled_L2 (N : Nat) : Nat → Nat → Int32 → Int32 → zm_S → Option ((Int32 × zm_S) ⊕ ((Unit) × zm_S))
  | 0, _, _, _, _ => none
  | n + 1, a0, i1, i2, S => (zg_i S a0 4 9).bind (fun v1 => if v1 ≤ i2 then some (.inr ((), S)) else (zg_r S a0 4 8).bind (fun b2 => (za_r S b2 i2).bind (fun b3 => (za_x S 0 b3 (2 : Int32)).bind (fun v4 => if v4 = i1 then (zi S a0 4).bind (fun _ => (zf_X4_isMet N a0 i2 S).bind (fun r7 => if r7.1 = 0 then zf_X4_isCalled_L2 N n a0 i1 (i2 + (1 : Int32)) r7.2 else some (.inl ((1 : Int32), r7.2)))) else zf_X4_isCalled_L2 N n a0 i1 (i2 + (1 : Int32)) S))))
set_option maxHeartbeats 4000000 in
set_option maxRecDepth 100000 in
theorem zt_X4_isCalled_L2 {p : Program} {l : Launch} {e : Env} {R : Room} {s : State} {m : MethodId} {args : Array Value} {below : List Frame} {meth : Method} {c : Code} {V : zm_V} {mc ms d rc rs : Nat} (hX : zm_X p R s m args meth c RX4 "isCalled" cX4_isCalled 3 zk_E V mc ms) (hr : meth.sig.returnType = (some .boolean)) (hR : R.frames = d ∧ R.locals = 64 * d) (hd : 2 ≤ d) {N : Nat} {res : (Int32 × zm_S) ⊕ ((Unit) × zm_S)} {out : (Int32 × zm_S)} (a0 : Nat) (i1 : Int32) (hf : ∀ o, res = .inl o → o = out) (hk : ∀ (S' : zm_S), res = .inr ((), S') → zw p l e R s m args below meth c (vx_MQ below (zm_Qc zk_E V (zo_i out)) (zm_XC zk_E V zo_x) args s mc ms (fun q => V.2.2.2.1 ≤ q)) 3 zk_E V mc ms 38 [] [] S' rc rs) : ∀ (n : Nat) (i2 : Int32) (S : zm_S), zf_X4_isCalled_L2 N n a0 i1 i2 S = some res → zw p l e R s m args below meth c (vx_MQ below (zm_Qc zk_E V (zo_i out)) (zm_XC zk_E V zo_x) args s mc ms (fun q => V.2.2.2.1 ≤ q)) 3 zk_E V mc ms 2 [(0, .ref a0), (1, .int i1), (2, .int i2)] [] S rc rs := by
  intro n
  induction n with
  | zero => intro i2 S h; cases h
  | succ n ih =>
    intro i2 S h
    rw [zf_X4_isCalled_L2] at h
    refine zw_iload_n hX dX4_isCalled_2 rfl ?_
    refine zw_aload_n hX dX4_isCalled_3 rfl ?_
    obtain ⟨v1, g, h⟩ := zb_some h
    refine zw_geti hX zl_X4_80 dX4_isCalled_4 g ?_
    refine zw_icmp_ge (tgt := 38) hX dX4_isCalled_7 (by decide) (fun c7 => ?_) (fun c7 => ?_)
    · rw [if_pos c7] at h
      refine zw_sub (lv' := []) zs_nil ?_
      exact hk  _ (Option.some.inj h).symm
    · rw [if_neg c7] at h
      refine zw_aload_n hX dX4_isCalled_10 rfl ?_
      obtain ⟨b2, g, h⟩ := zb_some h
      refine zw_getr hX zl_X4_32 dX4_isCalled_11 g ?_
      refine zw_iload_n hX dX4_isCalled_14 rfl ?_
      obtain ⟨b3, g, h⟩ := zb_some h
      refine zw_xr hX dX4_isCalled_15 g ?_
      refine zw_iconst (v := (2 : Int32)) hX dX4_isCalled_16 (by decide) ?_
      obtain ⟨v4, g, h⟩ := zb_some h
      refine zw_xi hX dX4_isCalled_17 g ?_
      refine zw_iload_n hX dX4_isCalled_18 rfl ?_
      refine zw_icmp_ne (tgt := 32) hX dX4_isCalled_19 (by decide) (fun c19 => ?_) (fun c19 => ?_)
      · rw [if_neg c19] at h
        refine zw_iinc (v := (i2 + (1 : Int32))) hX dX4_isCalled_32 rfl rfl (by decide) ?_
        refine zw_goto (tgt := 2) hX dX4_isCalled_35 (by decide) ?_
        refine zw_sub (lv' := [(0, .ref a0), (1, .int i1), (2, .int (i2 + (1 : Int32)))]) (List.forall_mem_cons.mpr ⟨rfl, (List.forall_mem_cons.mpr ⟨rfl, (List.forall_mem_cons.mpr ⟨rfl, zs_nil⟩)⟩)⟩) ?_
        exact ih _ _ h
      · rw [if_pos c19] at h
        refine zw_aload_n hX dX4_isCalled_22 rfl ?_
        refine zw_iload_n hX dX4_isCalled_23 rfl ?_
        obtain ⟨_, gi, h⟩ := zb_some h
        obtain ⟨r7, g, h⟩ := zb_some h
        refine zc_Vi (as := [.int i2]) hX gi (zt_X4_isMet (d := d - 1) (by omega) g) zl_X4_116 rfl dX4_isCalled_24 ⟨rfl, rfl, Nat.le_of_ble_eq_true rfl⟩ ⟨by omega, by omega⟩ ?_
        refine zw_if_eq (tgt := 32) hX dX4_isCalled_27 (by decide) (fun c27 => ?_) (fun c27 => ?_)
        · rw [if_pos c27] at h
          refine zw_iinc (v := (i2 + (1 : Int32))) hX dX4_isCalled_32 rfl rfl (by decide) ?_
          refine zw_goto (tgt := 2) hX dX4_isCalled_35 (by decide) ?_
          refine zw_sub (lv' := [(0, .ref a0), (1, .int i1), (2, .int (i2 + (1 : Int32)))]) (List.forall_mem_cons.mpr ⟨rfl, (List.forall_mem_cons.mpr ⟨rfl, (List.forall_mem_cons.mpr ⟨rfl, zs_nil⟩)⟩)⟩) ?_
          exact ih _ _ h
        · rw [if_neg c27] at h
          refine zw_iconst (v := (1 : Int32)) hX dX4_isCalled_30 (by decide) ?_
          have hz := hf _ (Option.some.inj h).symm
          subst hz
          exact zw_iret hX hr dX4_isCalled_31 rfl ⟨rfl, rfl⟩
def zf_X4_isCalled (N : Nat) (a0 : Nat) (i1 : Int32) (S : zm_S) : Option (Int32 × zm_S) := (zf_X4_isCalled_L2 N N a0 i1 (0 : Int32) S).bind (fun r => match r with | .inl o => some o | .inr (_, S8) => some ((0 : Int32), S8))
set_option maxHeartbeats 4000000 in
set_option maxRecDepth 100000 in
theorem zt_X4_isCalled {l : Launch} {V : zm_V} {N : Nat} {S : zm_S} {out : (Int32 × zm_S)} {d : Nat} {a0 : Nat} {i1 : Int32} (hd : 2 ≤ d) (h : zf_X4_isCalled N a0 i1 S = some out) : zm_Met l zk_E V yX4_isCalled (.code yX4_isCalled cX4_isCalled 3 (some .boolean)) d [.ref a0, .int i1] S 0 0 (zo_i out) zo_x := by
  refine zm_of (by decide +kernel) (Nat.le_of_ble_eq_true rfl) ?_
  intro p e R s m args below meth c hRR hX hr hxt
  have hR : R.frames = d ∧ R.locals = 64 * d := by rw [hRR]; exact ⟨rfl, rfl⟩
  have hX : zm_X p R s m args meth c RX4 "isCalled" cX4_isCalled 3 zk_E V 0 0 := hX
  unfold zf_X4_isCalled at h
  refine zw_sub (lv' := [(0, .ref a0), (1, .int i1)]) (List.forall_mem_cons.mpr ⟨rfl, (List.forall_mem_cons.mpr ⟨rfl, zs_nil⟩)⟩) ?_
  refine zw_iconst (v := (0 : Int32)) hX dX4_isCalled_0 (by decide) ?_
  refine zw_istore_n hX dX4_isCalled_1 (by decide) ?_
  obtain ⟨r, g, h⟩ := zb_some h
  refine zw_sub (lv' := [(0, .ref a0), (1, .int i1), (2, .int (0 : Int32))]) (List.forall_mem_cons.mpr ⟨rfl, (List.forall_mem_cons.mpr ⟨rfl, (List.forall_mem_cons.mpr ⟨rfl, zs_nil⟩)⟩)⟩) ?_
  refine zt_X4_isCalled_L2 hX hr hR hd (res := r) (out := out) a0 i1 ?_ ?_ N _ _ g
  · intro o ho
    subst ho
    exact Option.some.inj h
  · intro  S8 hx
    subst hx
    try dsimp only at h
    refine zw_iconst (v := (0 : Int32)) hX dX4_isCalled_38 (by decide) ?_
    obtain rfl := Option.some.inj h
    exact zw_iret hX hr dX4_isCalled_39 rfl ⟨rfl, rfl⟩
def zf_X4_isSurelyCalled_J59 (N : Nat) (k : Nat → Int32 → Int32 → zm_S → Option ((Int32 × zm_S) ⊕ ((Unit) × zm_S))) (a0 : Nat) (i1 : Int32) (i2 : Int32) (t0 : Int32) (S : zm_S) : Option ((Int32 × zm_S) ⊕ ((Unit) × zm_S)) := (zg_r S a0 4 8).bind (fun b7 => (za_r S b7 i2).bind (fun b8 => (za_x S 0 b8 (2 : Int32)).bind (fun v9 => if v9 = i1 then (zi S a0 4).bind (fun _ => (zf_X4_isMet N a0 i2 S).bind (fun r12 => if r12.1 = 0 then k a0 i1 (i2 + (1 : Int32)) r12.2 else if t0 = 0 then k a0 i1 (i2 + (1 : Int32)) r12.2 else some (.inl ((1 : Int32), r12.2)))) else k a0 i1 (i2 + (1 : Int32)) S)))
set_option maxHeartbeats 4000000 in
set_option maxRecDepth 100000 in
theorem zt_X4_isSurelyCalled_J59 {p : Program} {l : Launch} {e : Env} {R : Room} {s : State} {m : MethodId} {args : Array Value} {below : List Frame} {meth : Method} {c : Code} {V : zm_V} {mc ms d rc rs : Nat} (hX : zm_X p R s m args meth c RX4 "isSurelyCalled" cX4_isSurelyCalled 4 zk_E V mc ms) (hr : meth.sig.returnType = (some .boolean)) (hR : R.frames = d ∧ R.locals = 64 * d) (hd : 2 ≤ d) {N : Nat} {k : Nat → Int32 → Int32 → zm_S → Option ((Int32 × zm_S) ⊕ ((Unit) × zm_S))} {a0 : Nat} {i1 : Int32} {i2 : Int32} {t0 : Int32} {res : (Int32 × zm_S) ⊕ ((Unit) × zm_S)} {out : (Int32 × zm_S)}   (hf : ∀ o, res = .inl o → o = out) (hk : ∀ (S' : zm_S), res = .inr ((), S') → zw p l e R s m args below meth c (vx_MQ below (zm_Qc zk_E V (zo_i out)) (zm_XC zk_E V zo_x) args s mc ms (fun q => V.2.2.2.1 ≤ q)) 4 zk_E V mc ms 92 [] [] S' rc rs) (hrec : ∀ (i2' : Int32) (S : zm_S), k a0 i1 i2' S = some res → zw p l e R s m args below meth c (vx_MQ below (zm_Qc zk_E V (zo_i out)) (zm_XC zk_E V zo_x) args s mc ms (fun q => V.2.2.2.1 ≤ q)) 4 zk_E V mc ms 2 [(0, .ref a0), (1, .int i1), (2, .int i2')] [] S rc rs) {S : zm_S} (h : zf_X4_isSurelyCalled_J59 N k a0 i1 i2 t0 S = some res) : zw p l e R s m args below meth c (vx_MQ below (zm_Qc zk_E V (zo_i out)) (zm_XC zk_E V zo_x) args s mc ms (fun q => V.2.2.2.1 ≤ q)) 4 zk_E V mc ms 59 [(0, .ref a0), (1, .int i1), (2, .int i2)] [.int t0] S rc rs := by
  unfold zf_X4_isSurelyCalled_J59 at h
  refine zw_istore_n hX dX4_isSurelyCalled_59 (by decide) ?_
  refine zw_aload_n hX dX4_isSurelyCalled_60 rfl ?_
  obtain ⟨b7, g, h⟩ := zb_some h
  refine zw_getr hX zl_X4_32 dX4_isSurelyCalled_61 g ?_
  refine zw_iload_n hX dX4_isSurelyCalled_64 rfl ?_
  obtain ⟨b8, g, h⟩ := zb_some h
  refine zw_xr hX dX4_isSurelyCalled_65 g ?_
  refine zw_iconst (v := (2 : Int32)) hX dX4_isSurelyCalled_66 (by decide) ?_
  obtain ⟨v9, g, h⟩ := zb_some h
  refine zw_xi hX dX4_isSurelyCalled_67 g ?_
  refine zw_iload_n hX dX4_isSurelyCalled_68 rfl ?_
  refine zw_icmp_ne (tgt := 86) hX dX4_isSurelyCalled_69 (by decide) (fun c69 => ?_) (fun c69 => ?_)
  · rw [if_neg c69] at h
    refine zw_iinc (v := (i2 + (1 : Int32))) hX dX4_isSurelyCalled_86 rfl rfl (by decide) ?_
    refine zw_goto (tgt := 2) hX dX4_isSurelyCalled_89 (by decide) ?_
    refine zw_sub (lv' := [(0, .ref a0), (1, .int i1), (2, .int (i2 + (1 : Int32)))]) (List.forall_mem_cons.mpr ⟨rfl, (List.forall_mem_cons.mpr ⟨rfl, (List.forall_mem_cons.mpr ⟨rfl, zs_nil⟩)⟩)⟩) ?_
    exact hrec _ _ h
  · rw [if_pos c69] at h
    refine zw_aload_n hX dX4_isSurelyCalled_72 rfl ?_
    refine zw_iload_n hX dX4_isSurelyCalled_73 rfl ?_
    obtain ⟨_, gi, h⟩ := zb_some h
    obtain ⟨r12, g, h⟩ := zb_some h
    refine zc_Vi (as := [.int i2]) hX gi (zt_X4_isMet (d := d - 1) (by omega) g) zl_X4_116 rfl dX4_isSurelyCalled_74 ⟨rfl, rfl, Nat.le_of_ble_eq_true rfl⟩ ⟨by omega, by omega⟩ ?_
    refine zw_if_eq (tgt := 86) hX dX4_isSurelyCalled_77 (by decide) (fun c77 => ?_) (fun c77 => ?_)
    · rw [if_pos c77] at h
      refine zw_iinc (v := (i2 + (1 : Int32))) hX dX4_isSurelyCalled_86 rfl rfl (by decide) ?_
      refine zw_goto (tgt := 2) hX dX4_isSurelyCalled_89 (by decide) ?_
      refine zw_sub (lv' := [(0, .ref a0), (1, .int i1), (2, .int (i2 + (1 : Int32)))]) (List.forall_mem_cons.mpr ⟨rfl, (List.forall_mem_cons.mpr ⟨rfl, (List.forall_mem_cons.mpr ⟨rfl, zs_nil⟩)⟩)⟩) ?_
      exact hrec _ _ h
    · rw [if_neg c77] at h
      refine zw_iload_n hX dX4_isSurelyCalled_80 rfl ?_
      refine zw_if_eq (tgt := 86) hX dX4_isSurelyCalled_81 (by decide) (fun c81 => ?_) (fun c81 => ?_)
      · rw [if_pos c81] at h
        refine zw_iinc (v := (i2 + (1 : Int32))) hX dX4_isSurelyCalled_86 rfl rfl (by decide) ?_
        refine zw_goto (tgt := 2) hX dX4_isSurelyCalled_89 (by decide) ?_
        refine zw_sub (lv' := [(0, .ref a0), (1, .int i1), (2, .int (i2 + (1 : Int32)))]) (List.forall_mem_cons.mpr ⟨rfl, (List.forall_mem_cons.mpr ⟨rfl, (List.forall_mem_cons.mpr ⟨rfl, zs_nil⟩)⟩)⟩) ?_
        exact hrec _ _ h
      · rw [if_neg c81] at h
        refine zw_iconst (v := (1 : Int32)) hX dX4_isSurelyCalled_84 (by decide) ?_
        have hz := hf _ (Option.some.inj h).symm
        subst hz
        exact zw_iret hX hr dX4_isSurelyCalled_85 rfl ⟨rfl, rfl⟩
def zf_X4_isSurelyCalled_J54 (N : Nat) (k : Nat → Int32 → Int32 → zm_S → Option ((Int32 × zm_S) ⊕ ((Unit) × zm_S))) (a0 : Nat) (i1 : Int32) (i2 : Int32) (S : zm_S) : Option ((Int32 × zm_S) ⊕ ((Unit) × zm_S)) := zf_X4_isSurelyCalled_J59 N (k) a0 i1 i2 (1 : Int32) S
set_option maxHeartbeats 4000000 in
set_option maxRecDepth 100000 in
theorem zt_X4_isSurelyCalled_J54 {p : Program} {l : Launch} {e : Env} {R : Room} {s : State} {m : MethodId} {args : Array Value} {below : List Frame} {meth : Method} {c : Code} {V : zm_V} {mc ms d rc rs : Nat} (hX : zm_X p R s m args meth c RX4 "isSurelyCalled" cX4_isSurelyCalled 4 zk_E V mc ms) (hr : meth.sig.returnType = (some .boolean)) (hR : R.frames = d ∧ R.locals = 64 * d) (hd : 2 ≤ d) {N : Nat} {k : Nat → Int32 → Int32 → zm_S → Option ((Int32 × zm_S) ⊕ ((Unit) × zm_S))} {a0 : Nat} {i1 : Int32} {i2 : Int32} {res : (Int32 × zm_S) ⊕ ((Unit) × zm_S)} {out : (Int32 × zm_S)}   (hf : ∀ o, res = .inl o → o = out) (hk : ∀ (S' : zm_S), res = .inr ((), S') → zw p l e R s m args below meth c (vx_MQ below (zm_Qc zk_E V (zo_i out)) (zm_XC zk_E V zo_x) args s mc ms (fun q => V.2.2.2.1 ≤ q)) 4 zk_E V mc ms 92 [] [] S' rc rs) (hrec : ∀ (i2' : Int32) (S : zm_S), k a0 i1 i2' S = some res → zw p l e R s m args below meth c (vx_MQ below (zm_Qc zk_E V (zo_i out)) (zm_XC zk_E V zo_x) args s mc ms (fun q => V.2.2.2.1 ≤ q)) 4 zk_E V mc ms 2 [(0, .ref a0), (1, .int i1), (2, .int i2')] [] S rc rs) {S : zm_S} (h : zf_X4_isSurelyCalled_J54 N k a0 i1 i2 S = some res) : zw p l e R s m args below meth c (vx_MQ below (zm_Qc zk_E V (zo_i out)) (zm_XC zk_E V zo_x) args s mc ms (fun q => V.2.2.2.1 ≤ q)) 4 zk_E V mc ms 54 [(0, .ref a0), (1, .int i1), (2, .int i2)] [] S rc rs := by
  unfold zf_X4_isSurelyCalled_J54 at h
  refine zw_iconst (v := (1 : Int32)) hX dX4_isSurelyCalled_54 (by decide) ?_
  refine zw_goto (tgt := 59) hX dX4_isSurelyCalled_55 (by decide) ?_
  refine zw_sub (lv' := [(0, .ref a0), (1, .int i1), (2, .int i2)]) (List.forall_mem_cons.mpr ⟨rfl, (List.forall_mem_cons.mpr ⟨rfl, (List.forall_mem_cons.mpr ⟨rfl, zs_nil⟩)⟩)⟩) ?_
  exact zt_X4_isSurelyCalled_J59 hX hr hR hd hf hk hrec h
def zf_X4_isSurelyCalled_J58 (N : Nat) (k : Nat → Int32 → Int32 → zm_S → Option ((Int32 × zm_S) ⊕ ((Unit) × zm_S))) (a0 : Nat) (i1 : Int32) (i2 : Int32) (S : zm_S) : Option ((Int32 × zm_S) ⊕ ((Unit) × zm_S)) := zf_X4_isSurelyCalled_J59 N (k) a0 i1 i2 (0 : Int32) S
set_option maxHeartbeats 4000000 in
set_option maxRecDepth 100000 in
theorem zt_X4_isSurelyCalled_J58 {p : Program} {l : Launch} {e : Env} {R : Room} {s : State} {m : MethodId} {args : Array Value} {below : List Frame} {meth : Method} {c : Code} {V : zm_V} {mc ms d rc rs : Nat} (hX : zm_X p R s m args meth c RX4 "isSurelyCalled" cX4_isSurelyCalled 4 zk_E V mc ms) (hr : meth.sig.returnType = (some .boolean)) (hR : R.frames = d ∧ R.locals = 64 * d) (hd : 2 ≤ d) {N : Nat} {k : Nat → Int32 → Int32 → zm_S → Option ((Int32 × zm_S) ⊕ ((Unit) × zm_S))} {a0 : Nat} {i1 : Int32} {i2 : Int32} {res : (Int32 × zm_S) ⊕ ((Unit) × zm_S)} {out : (Int32 × zm_S)}   (hf : ∀ o, res = .inl o → o = out) (hk : ∀ (S' : zm_S), res = .inr ((), S') → zw p l e R s m args below meth c (vx_MQ below (zm_Qc zk_E V (zo_i out)) (zm_XC zk_E V zo_x) args s mc ms (fun q => V.2.2.2.1 ≤ q)) 4 zk_E V mc ms 92 [] [] S' rc rs) (hrec : ∀ (i2' : Int32) (S : zm_S), k a0 i1 i2' S = some res → zw p l e R s m args below meth c (vx_MQ below (zm_Qc zk_E V (zo_i out)) (zm_XC zk_E V zo_x) args s mc ms (fun q => V.2.2.2.1 ≤ q)) 4 zk_E V mc ms 2 [(0, .ref a0), (1, .int i1), (2, .int i2')] [] S rc rs) {S : zm_S} (h : zf_X4_isSurelyCalled_J58 N k a0 i1 i2 S = some res) : zw p l e R s m args below meth c (vx_MQ below (zm_Qc zk_E V (zo_i out)) (zm_XC zk_E V zo_x) args s mc ms (fun q => V.2.2.2.1 ≤ q)) 4 zk_E V mc ms 58 [(0, .ref a0), (1, .int i1), (2, .int i2)] [] S rc rs := by
  unfold zf_X4_isSurelyCalled_J58 at h
  refine zw_iconst (v := (0 : Int32)) hX dX4_isSurelyCalled_58 (by decide) ?_
  refine zw_sub (lv' := [(0, .ref a0), (1, .int i1), (2, .int i2)]) (List.forall_mem_cons.mpr ⟨rfl, (List.forall_mem_cons.mpr ⟨rfl, (List.forall_mem_cons.mpr ⟨rfl, zs_nil⟩)⟩)⟩) ?_
  exact zt_X4_isSurelyCalled_J59 hX hr hR hd hf hk hrec h
def zf_X4_isSurelyCalled_L2 (N : Nat) : Nat → Nat → Int32 → Int32 → zm_S → Option ((Int32 × zm_S) ⊕ ((Unit) × zm_S))
  | 0, _, _, _, _ => none
  | n + 1, a0, i1, i2, S => (zg_i S a0 4 9).bind (fun v1 => if v1 ≤ i2 then some (.inr ((), S)) else (zg_r S a0 4 16).bind (fun b2 => (zg_r S a0 4 8).bind (fun b3 => (za_r S b3 i2).bind (fun b4 => (za_x S 0 b4 (0 : Int32)).bind (fun v5 => (za_x S 2 b2 v5).bind (fun v6 => if v6 = 0 then (zg_r S a0 4 8).bind (fun b13 => (za_r S b13 i2).bind (fun b14 => (za_x S 0 b14 (1 : Int32)).bind (fun v15 => if v15 = (-1 : Int32) then zf_X4_isSurelyCalled_J58 N (zf_X4_isSurelyCalled_L2 N n) a0 i1 i2 S else (zg_r S a0 4 16).bind (fun b16 => (zg_r S a0 4 8).bind (fun b17 => (za_r S b17 i2).bind (fun b18 => (za_x S 0 b18 (1 : Int32)).bind (fun v19 => (za_x S 2 b16 v19).bind (fun v20 => if v20 = 0 then zf_X4_isSurelyCalled_J58 N (zf_X4_isSurelyCalled_L2 N n) a0 i1 i2 S else zf_X4_isSurelyCalled_J54 N (zf_X4_isSurelyCalled_L2 N n) a0 i1 i2 S)))))))) else zf_X4_isSurelyCalled_J54 N (zf_X4_isSurelyCalled_L2 N n) a0 i1 i2 S))))))
set_option maxHeartbeats 4000000 in
set_option maxRecDepth 100000 in
theorem zt_X4_isSurelyCalled_L2 {p : Program} {l : Launch} {e : Env} {R : Room} {s : State} {m : MethodId} {args : Array Value} {below : List Frame} {meth : Method} {c : Code} {V : zm_V} {mc ms d rc rs : Nat} (hX : zm_X p R s m args meth c RX4 "isSurelyCalled" cX4_isSurelyCalled 4 zk_E V mc ms) (hr : meth.sig.returnType = (some .boolean)) (hR : R.frames = d ∧ R.locals = 64 * d) (hd : 2 ≤ d) {N : Nat} {res : (Int32 × zm_S) ⊕ ((Unit) × zm_S)} {out : (Int32 × zm_S)} (a0 : Nat) (i1 : Int32) (hf : ∀ o, res = .inl o → o = out) (hk : ∀ (S' : zm_S), res = .inr ((), S') → zw p l e R s m args below meth c (vx_MQ below (zm_Qc zk_E V (zo_i out)) (zm_XC zk_E V zo_x) args s mc ms (fun q => V.2.2.2.1 ≤ q)) 4 zk_E V mc ms 92 [] [] S' rc rs) : ∀ (n : Nat) (i2 : Int32) (S : zm_S), zf_X4_isSurelyCalled_L2 N n a0 i1 i2 S = some res → zw p l e R s m args below meth c (vx_MQ below (zm_Qc zk_E V (zo_i out)) (zm_XC zk_E V zo_x) args s mc ms (fun q => V.2.2.2.1 ≤ q)) 4 zk_E V mc ms 2 [(0, .ref a0), (1, .int i1), (2, .int i2)] [] S rc rs := by
  intro n
  induction n with
  | zero => intro i2 S h; cases h
  | succ n ih =>
    intro i2 S h
    rw [zf_X4_isSurelyCalled_L2] at h
    refine zw_iload_n hX dX4_isSurelyCalled_2 rfl ?_
    refine zw_aload_n hX dX4_isSurelyCalled_3 rfl ?_
    obtain ⟨v1, g, h⟩ := zb_some h
    refine zw_geti hX zl_X4_80 dX4_isSurelyCalled_4 g ?_
    refine zw_icmp_ge (tgt := 92) hX dX4_isSurelyCalled_7 (by decide) (fun c7 => ?_) (fun c7 => ?_)
    · rw [if_pos c7] at h
      refine zw_sub (lv' := []) zs_nil ?_
      exact hk  _ (Option.some.inj h).symm
    · rw [if_neg c7] at h
      refine zw_aload_n hX dX4_isSurelyCalled_10 rfl ?_
      obtain ⟨b2, g, h⟩ := zb_some h
      refine zw_getr hX zl_X4_53 dX4_isSurelyCalled_11 g ?_
      refine zw_aload_n hX dX4_isSurelyCalled_14 rfl ?_
      obtain ⟨b3, g, h⟩ := zb_some h
      refine zw_getr hX zl_X4_32 dX4_isSurelyCalled_15 g ?_
      refine zw_iload_n hX dX4_isSurelyCalled_18 rfl ?_
      obtain ⟨b4, g, h⟩ := zb_some h
      refine zw_xr hX dX4_isSurelyCalled_19 g ?_
      refine zw_iconst (v := (0 : Int32)) hX dX4_isSurelyCalled_20 (by decide) ?_
      obtain ⟨v5, g, h⟩ := zb_some h
      refine zw_xi hX dX4_isSurelyCalled_21 g ?_
      obtain ⟨v6, g, h⟩ := zb_some h
      refine zw_xz hX dX4_isSurelyCalled_22 g ?_
      refine zw_if_ne (tgt := 54) hX dX4_isSurelyCalled_23 (by decide) (fun c23 => ?_) (fun c23 => ?_)
      · rw [if_neg c23] at h
        refine zw_sub (lv' := [(0, .ref a0), (1, .int i1), (2, .int i2)]) (List.forall_mem_cons.mpr ⟨rfl, (List.forall_mem_cons.mpr ⟨rfl, (List.forall_mem_cons.mpr ⟨rfl, zs_nil⟩)⟩)⟩) ?_
        exact zt_X4_isSurelyCalled_J54 hX hr hR hd hf hk ih h
      · rw [if_pos c23] at h
        refine zw_aload_n hX dX4_isSurelyCalled_26 rfl ?_
        obtain ⟨b13, g, h⟩ := zb_some h
        refine zw_getr hX zl_X4_32 dX4_isSurelyCalled_27 g ?_
        refine zw_iload_n hX dX4_isSurelyCalled_30 rfl ?_
        obtain ⟨b14, g, h⟩ := zb_some h
        refine zw_xr hX dX4_isSurelyCalled_31 g ?_
        refine zw_iconst (v := (1 : Int32)) hX dX4_isSurelyCalled_32 (by decide) ?_
        obtain ⟨v15, g, h⟩ := zb_some h
        refine zw_xi hX dX4_isSurelyCalled_33 g ?_
        refine zw_iconst (v := (-1 : Int32)) hX dX4_isSurelyCalled_34 (by decide) ?_
        refine zw_icmp_eq (tgt := 58) hX dX4_isSurelyCalled_35 (by decide) (fun c35 => ?_) (fun c35 => ?_)
        · rw [if_pos c35] at h
          refine zw_sub (lv' := [(0, .ref a0), (1, .int i1), (2, .int i2)]) (List.forall_mem_cons.mpr ⟨rfl, (List.forall_mem_cons.mpr ⟨rfl, (List.forall_mem_cons.mpr ⟨rfl, zs_nil⟩)⟩)⟩) ?_
          exact zt_X4_isSurelyCalled_J58 hX hr hR hd hf hk ih h
        · rw [if_neg c35] at h
          refine zw_aload_n hX dX4_isSurelyCalled_38 rfl ?_
          obtain ⟨b16, g, h⟩ := zb_some h
          refine zw_getr hX zl_X4_53 dX4_isSurelyCalled_39 g ?_
          refine zw_aload_n hX dX4_isSurelyCalled_42 rfl ?_
          obtain ⟨b17, g, h⟩ := zb_some h
          refine zw_getr hX zl_X4_32 dX4_isSurelyCalled_43 g ?_
          refine zw_iload_n hX dX4_isSurelyCalled_46 rfl ?_
          obtain ⟨b18, g, h⟩ := zb_some h
          refine zw_xr hX dX4_isSurelyCalled_47 g ?_
          refine zw_iconst (v := (1 : Int32)) hX dX4_isSurelyCalled_48 (by decide) ?_
          obtain ⟨v19, g, h⟩ := zb_some h
          refine zw_xi hX dX4_isSurelyCalled_49 g ?_
          obtain ⟨v20, g, h⟩ := zb_some h
          refine zw_xz hX dX4_isSurelyCalled_50 g ?_
          refine zw_if_eq (tgt := 58) hX dX4_isSurelyCalled_51 (by decide) (fun c51 => ?_) (fun c51 => ?_)
          · rw [if_pos c51] at h
            refine zw_sub (lv' := [(0, .ref a0), (1, .int i1), (2, .int i2)]) (List.forall_mem_cons.mpr ⟨rfl, (List.forall_mem_cons.mpr ⟨rfl, (List.forall_mem_cons.mpr ⟨rfl, zs_nil⟩)⟩)⟩) ?_
            exact zt_X4_isSurelyCalled_J58 hX hr hR hd hf hk ih h
          · rw [if_neg c51] at h
            refine zw_sub (lv' := [(0, .ref a0), (1, .int i1), (2, .int i2)]) (List.forall_mem_cons.mpr ⟨rfl, (List.forall_mem_cons.mpr ⟨rfl, (List.forall_mem_cons.mpr ⟨rfl, zs_nil⟩)⟩)⟩) ?_
            exact zt_X4_isSurelyCalled_J54 hX hr hR hd hf hk ih h
def zf_X4_isSurelyCalled (N : Nat) (a0 : Nat) (i1 : Int32) (S : zm_S) : Option (Int32 × zm_S) := (zf_X4_isSurelyCalled_L2 N N a0 i1 (0 : Int32) S).bind (fun r => match r with | .inl o => some o | .inr (_, S21) => some ((0 : Int32), S21))
set_option maxHeartbeats 4000000 in
set_option maxRecDepth 100000 in
theorem zt_X4_isSurelyCalled {l : Launch} {V : zm_V} {N : Nat} {S : zm_S} {out : (Int32 × zm_S)} {d : Nat} {a0 : Nat} {i1 : Int32} (hd : 2 ≤ d) (h : zf_X4_isSurelyCalled N a0 i1 S = some out) : zm_Met l zk_E V yX4_isSurelyCalled (.code yX4_isSurelyCalled cX4_isSurelyCalled 4 (some .boolean)) d [.ref a0, .int i1] S 0 0 (zo_i out) zo_x := by
  refine zm_of (by decide +kernel) (Nat.le_of_ble_eq_true rfl) ?_
  intro p e R s m args below meth c hRR hX hr hxt
  have hR : R.frames = d ∧ R.locals = 64 * d := by rw [hRR]; exact ⟨rfl, rfl⟩
  have hX : zm_X p R s m args meth c RX4 "isSurelyCalled" cX4_isSurelyCalled 4 zk_E V 0 0 := hX
  unfold zf_X4_isSurelyCalled at h
  refine zw_sub (lv' := [(0, .ref a0), (1, .int i1)]) (List.forall_mem_cons.mpr ⟨rfl, (List.forall_mem_cons.mpr ⟨rfl, zs_nil⟩)⟩) ?_
  refine zw_iconst (v := (0 : Int32)) hX dX4_isSurelyCalled_0 (by decide) ?_
  refine zw_istore_n hX dX4_isSurelyCalled_1 (by decide) ?_
  obtain ⟨r, g, h⟩ := zb_some h
  refine zw_sub (lv' := [(0, .ref a0), (1, .int i1), (2, .int (0 : Int32))]) (List.forall_mem_cons.mpr ⟨rfl, (List.forall_mem_cons.mpr ⟨rfl, (List.forall_mem_cons.mpr ⟨rfl, zs_nil⟩)⟩)⟩) ?_
  refine zt_X4_isSurelyCalled_L2 hX hr hR hd (res := r) (out := out) a0 i1 ?_ ?_ N _ _ g
  · intro o ho
    subst ho
    exact Option.some.inj h
  · intro  S21 hx
    subst hx
    try dsimp only at h
    refine zw_iconst (v := (0 : Int32)) hX dX4_isSurelyCalled_92 (by decide) ?_
    obtain rfl := Option.some.inj h
    exact zw_iret hX hr dX4_isSurelyCalled_93 rfl ⟨rfl, rfl⟩
def zf_X4_setDone_J104 (N : Nat) (a0 : Nat) (i1 : Int32) (a4 : Nat) (S : zm_S) : Option (Unit × zm_S) := (zg_r S a0 4 7).bind (fun b14 => (za_r S b14 i1).bind (fun b15 => (za_x S 0 b15 (1 : Int32)).bind (fun v16 => if v16 = (3 : Int32) then (zg_r S a0 4 0).bind (fun b17 => (zg_r S b17 9 12).bind (fun b18 => (za_x S 0 a4 (2 : Int32)).bind (fun v19 => (zs_i S b18 ((4 : Int32) + (i1 - i1 / (6 : Int32) * (6 : Int32))) v19).bind (fun S20 => some ((), S20))))) else some ((), S))))
set_option maxHeartbeats 4000000 in
set_option maxRecDepth 100000 in
theorem zt_X4_setDone_J104 {p : Program} {l : Launch} {e : Env} {R : Room} {s : State} {m : MethodId} {args : Array Value} {below : List Frame} {meth : Method} {c : Code} {V : zm_V} {mc ms d rc rs : Nat} (hX : zm_X p R s m args meth c RX4 "setDone" cX4_setDone 5 zk_E V mc ms) (hr : meth.sig.returnType = none) (hR : R.frames = d ∧ R.locals = 64 * d) (hd : 3 ≤ d) {N : Nat} {a0 : Nat} {i1 : Int32} {a4 : Nat} {out : (Unit × zm_S)} {S : zm_S} (h : zf_X4_setDone_J104 N a0 i1 a4 S = some out) : zw p l e R s m args below meth c (vx_MQ below (zm_Qc zk_E V (zo_v out)) (zm_XC zk_E V zo_x) args s mc ms (fun q => V.2.2.2.1 ≤ q)) 5 zk_E V mc ms 104 [(0, .ref a0), (1, .int i1), (4, .ref a4)] [] S rc rs := by
  unfold zf_X4_setDone_J104 at h
  refine zw_aload_n hX dX4_setDone_104 rfl ?_
  obtain ⟨b14, g, h⟩ := zb_some h
  refine zw_getr hX zl_X4_29 dX4_setDone_105 g ?_
  refine zw_iload_n hX dX4_setDone_108 rfl ?_
  obtain ⟨b15, g, h⟩ := zb_some h
  refine zw_xr hX dX4_setDone_109 g ?_
  refine zw_iconst (v := (1 : Int32)) hX dX4_setDone_110 (by decide) ?_
  obtain ⟨v16, g, h⟩ := zb_some h
  refine zw_xi hX dX4_setDone_111 g ?_
  refine zw_iconst (v := (3 : Int32)) hX dX4_setDone_112 (by decide) ?_
  refine zw_icmp_ne (tgt := 134) hX dX4_setDone_113 (by decide) (fun c113 => ?_) (fun c113 => ?_)
  · rw [if_neg c113] at h
    obtain rfl := Option.some.inj h
    exact zw_vret hX hr dX4_setDone_134 ⟨rfl, rfl⟩
  · rw [if_pos c113] at h
    refine zw_aload_n hX dX4_setDone_116 rfl ?_
    obtain ⟨b17, g, h⟩ := zb_some h
    refine zw_getr hX zl_X4_59 dX4_setDone_117 g ?_
    obtain ⟨b18, g, h⟩ := zb_some h
    refine zw_getNr hX zl_X4_155 dX4_setDone_120 g ?_
    refine zw_iconst (v := (4 : Int32)) hX dX4_setDone_123 (by decide) ?_
    refine zw_iload_n hX dX4_setDone_124 rfl ?_
    refine zw_bipush (v := (6 : Int32)) hX dX4_setDone_125 (by decide) ?_
    refine zw_irem hX dX4_setDone_127 (by decide) ?_
    refine zw_iadd hX dX4_setDone_128 ?_
    refine zw_aload hX dX4_setDone_129 rfl ?_
    refine zw_iconst (v := (2 : Int32)) hX dX4_setDone_131 (by decide) ?_
    obtain ⟨v19, g, h⟩ := zb_some h
    refine zw_xi hX dX4_setDone_132 g ?_
    obtain ⟨S20, g, h⟩ := zb_some h
    refine zw_si hX dX4_setDone_133 g ?_
    obtain rfl := Option.some.inj h
    exact zw_vret hX hr dX4_setDone_134 ⟨rfl, rfl⟩
def zf_X4_setDone_J51 (N : Nat) (a0 : Nat) (i1 : Int32) (a4 : Nat) (t0 : Nat) (t1 : Int32) (t2 : Int32) (S : zm_S) : Option (Unit × zm_S) := (zs_i S t0 t1 t2).bind (fun S8 => (zg_i S8 a0 4 17).bind (fun v9 => (zp S8 a0 4 17 (.int (v9 + (1 : Int32)))).bind (fun S10 => (zg_r S10 a0 4 7).bind (fun b11 => (za_r S10 b11 i1).bind (fun b12 => (za_x S10 0 b12 (1 : Int32)).bind (fun v13 => if v13 = (2 : Int32) then (zg_r S10 a0 4 1).bind (fun b21 => (zi S10 b21 1).bind (fun _ => (zf_X1_hasRoomInQueue N b21 (7 : Int32) S10).bind (fun r24 => if r24.1 = 0 then zf_X4_setDone_J104 N a0 i1 a4 r24.2 else (zg_r r24.2 a0 4 1).bind (fun b25 => (za_x r24.2 0 a4 (2 : Int32)).bind (fun v26 => (zi r24.2 b25 1).bind (fun _ => (zf_X1_enqueue N b25 (7 : Int32) (0 : Int32) i1 (1 : Int32) (2 : Int32) v26 r24.2).bind (fun r29 => zf_X4_setDone_J104 N a0 i1 a4 r29.2))))))) else zf_X4_setDone_J104 N a0 i1 a4 S10))))))
set_option maxHeartbeats 4000000 in
set_option maxRecDepth 100000 in
theorem zt_X4_setDone_J51 {p : Program} {l : Launch} {e : Env} {R : Room} {s : State} {m : MethodId} {args : Array Value} {below : List Frame} {meth : Method} {c : Code} {V : zm_V} {mc ms d rc rs : Nat} (hX : zm_X p R s m args meth c RX4 "setDone" cX4_setDone 5 zk_E V mc ms) (hr : meth.sig.returnType = none) (hR : R.frames = d ∧ R.locals = 64 * d) (hd : 3 ≤ d) {N : Nat} {a0 : Nat} {i1 : Int32} {a4 : Nat} {t0 : Nat} {t1 : Int32} {t2 : Int32} {out : (Unit × zm_S)} {S : zm_S} (h : zf_X4_setDone_J51 N a0 i1 a4 t0 t1 t2 S = some out) : zw p l e R s m args below meth c (vx_MQ below (zm_Qc zk_E V (zo_v out)) (zm_XC zk_E V zo_x) args s mc ms (fun q => V.2.2.2.1 ≤ q)) 5 zk_E V mc ms 51 [(0, .ref a0), (1, .int i1), (4, .ref a4)] [.int t2, .int t1, .ref t0] S rc rs := by
  unfold zf_X4_setDone_J51 at h
  obtain ⟨S8, g, h⟩ := zb_some h
  refine zw_si hX dX4_setDone_51 g ?_
  refine zw_aload_n hX dX4_setDone_52 rfl ?_
  refine zw_dup hX dX4_setDone_53 rfl ?_
  obtain ⟨v9, g, h⟩ := zb_some h
  refine zw_geti hX zl_X4_143 dX4_setDone_54 g ?_
  refine zw_iconst (v := (1 : Int32)) hX dX4_setDone_57 (by decide) ?_
  refine zw_iadd hX dX4_setDone_58 ?_
  obtain ⟨S10, g, h⟩ := zb_some h
  refine zw_putv hX zl_X4_143 zt_4_17 dX4_setDone_59 rfl rfl g ?_
  refine zw_aload_n hX dX4_setDone_62 rfl ?_
  obtain ⟨b11, g, h⟩ := zb_some h
  refine zw_getr hX zl_X4_29 dX4_setDone_63 g ?_
  refine zw_iload_n hX dX4_setDone_66 rfl ?_
  obtain ⟨b12, g, h⟩ := zb_some h
  refine zw_xr hX dX4_setDone_67 g ?_
  refine zw_iconst (v := (1 : Int32)) hX dX4_setDone_68 (by decide) ?_
  obtain ⟨v13, g, h⟩ := zb_some h
  refine zw_xi hX dX4_setDone_69 g ?_
  refine zw_iconst (v := (2 : Int32)) hX dX4_setDone_70 (by decide) ?_
  refine zw_icmp_ne (tgt := 104) hX dX4_setDone_71 (by decide) (fun c71 => ?_) (fun c71 => ?_)
  · rw [if_neg c71] at h
    refine zw_sub (lv' := [(0, .ref a0), (1, .int i1), (4, .ref a4)]) (List.forall_mem_cons.mpr ⟨rfl, (List.forall_mem_cons.mpr ⟨rfl, (List.forall_mem_cons.mpr ⟨rfl, zs_nil⟩)⟩)⟩) ?_
    exact zt_X4_setDone_J104 hX hr hR hd h
  · rw [if_pos c71] at h
    refine zw_aload_n hX dX4_setDone_74 rfl ?_
    obtain ⟨b21, g, h⟩ := zb_some h
    refine zw_getr hX zl_X4_63 dX4_setDone_75 g ?_
    refine zw_bipush (v := (7 : Int32)) hX dX4_setDone_78 (by decide) ?_
    obtain ⟨_, gi, h⟩ := zb_some h
    obtain ⟨r24, g, h⟩ := zb_some h
    refine zc_Vi (as := [.int (7 : Int32)]) hX gi (zt_X1_hasRoomInQueue (d := d - 1) (by omega) g) zl_X4_146 rfl dX4_setDone_80 ⟨rfl, rfl, Nat.le_of_ble_eq_true rfl⟩ ⟨by omega, by omega⟩ ?_
    refine zw_if_eq (tgt := 104) hX dX4_setDone_83 (by decide) (fun c83 => ?_) (fun c83 => ?_)
    · rw [if_pos c83] at h
      refine zw_sub (lv' := [(0, .ref a0), (1, .int i1), (4, .ref a4)]) (List.forall_mem_cons.mpr ⟨rfl, (List.forall_mem_cons.mpr ⟨rfl, (List.forall_mem_cons.mpr ⟨rfl, zs_nil⟩)⟩)⟩) ?_
      exact zt_X4_setDone_J104 hX hr hR hd h
    · rw [if_neg c83] at h
      refine zw_aload_n hX dX4_setDone_86 rfl ?_
      obtain ⟨b25, g, h⟩ := zb_some h
      refine zw_getr hX zl_X4_63 dX4_setDone_87 g ?_
      refine zw_bipush (v := (7 : Int32)) hX dX4_setDone_90 (by decide) ?_
      refine zw_iconst (v := (0 : Int32)) hX dX4_setDone_92 (by decide) ?_
      refine zw_iload_n hX dX4_setDone_93 rfl ?_
      refine zw_iconst (v := (1 : Int32)) hX dX4_setDone_94 (by decide) ?_
      refine zw_iconst (v := (2 : Int32)) hX dX4_setDone_95 (by decide) ?_
      refine zw_aload hX dX4_setDone_96 rfl ?_
      refine zw_iconst (v := (2 : Int32)) hX dX4_setDone_98 (by decide) ?_
      obtain ⟨v26, g, h⟩ := zb_some h
      refine zw_xi hX dX4_setDone_99 g ?_
      obtain ⟨_, gi, h⟩ := zb_some h
      obtain ⟨r29, g, h⟩ := zb_some h
      refine zc_Vi (as := [.int (7 : Int32), .int (0 : Int32), .int i1, .int (1 : Int32), .int (2 : Int32), .int v26]) hX gi (zt_X1_enqueue (d := d - 1) (by omega) g) zl_X4_151 rfl dX4_setDone_100 ⟨rfl, rfl, Nat.le_of_ble_eq_true rfl⟩ ⟨by omega, by omega⟩ ?_
      refine zw_pop hX dX4_setDone_103 rfl ?_
      refine zw_sub (lv' := [(0, .ref a0), (1, .int i1), (4, .ref a4)]) (List.forall_mem_cons.mpr ⟨rfl, (List.forall_mem_cons.mpr ⟨rfl, (List.forall_mem_cons.mpr ⟨rfl, zs_nil⟩)⟩)⟩) ?_
      exact zt_X4_setDone_J104 hX hr hR hd h
def zf_X4_setDone_J14 (N : Nat) (a0 : Nat) (i1 : Int32) (i2 : Int32) (i3 : Int32) (t0 : Nat) (t1 : Int32) (t2 : Int32) (S : zm_S) : Option (Unit × zm_S) := (zs_i S t0 t1 t2).bind (fun S2 => (zg_r S2 a0 4 18).bind (fun b3 => (zg_i S2 a0 4 17).bind (fun v4 => (za_r S2 b3 (v4 - v4 / (60 : Int32) * (60 : Int32))).bind (fun b5 => (zs_i S2 b5 (0 : Int32) i3).bind (fun S6 => (zs_i S6 b5 (1 : Int32) i1).bind (fun S7 => if i2 = 0 then zf_X4_setDone_J51 N a0 i1 b5 b5 (2 : Int32) (0 : Int32) S7 else zf_X4_setDone_J51 N a0 i1 b5 b5 (2 : Int32) (1 : Int32) S7))))))
set_option maxHeartbeats 4000000 in
set_option maxRecDepth 100000 in
theorem zt_X4_setDone_J14 {p : Program} {l : Launch} {e : Env} {R : Room} {s : State} {m : MethodId} {args : Array Value} {below : List Frame} {meth : Method} {c : Code} {V : zm_V} {mc ms d rc rs : Nat} (hX : zm_X p R s m args meth c RX4 "setDone" cX4_setDone 5 zk_E V mc ms) (hr : meth.sig.returnType = none) (hR : R.frames = d ∧ R.locals = 64 * d) (hd : 3 ≤ d) {N : Nat} {a0 : Nat} {i1 : Int32} {i2 : Int32} {i3 : Int32} {t0 : Nat} {t1 : Int32} {t2 : Int32} {out : (Unit × zm_S)} {S : zm_S} (h : zf_X4_setDone_J14 N a0 i1 i2 i3 t0 t1 t2 S = some out) : zw p l e R s m args below meth c (vx_MQ below (zm_Qc zk_E V (zo_v out)) (zm_XC zk_E V zo_x) args s mc ms (fun q => V.2.2.2.1 ≤ q)) 5 zk_E V mc ms 14 [(0, .ref a0), (1, .int i1), (2, .int i2), (3, .int i3)] [.int t2, .int t1, .ref t0] S rc rs := by
  unfold zf_X4_setDone_J14 at h
  obtain ⟨S2, g, h⟩ := zb_some h
  refine zw_si hX dX4_setDone_14 g ?_
  refine zw_aload_n hX dX4_setDone_15 rfl ?_
  obtain ⟨b3, g, h⟩ := zb_some h
  refine zw_getr hX zl_X4_56 dX4_setDone_16 g ?_
  refine zw_aload_n hX dX4_setDone_19 rfl ?_
  obtain ⟨v4, g, h⟩ := zb_some h
  refine zw_geti hX zl_X4_143 dX4_setDone_20 g ?_
  refine zw_bipush (v := (60 : Int32)) hX dX4_setDone_23 (by decide) ?_
  refine zw_irem hX dX4_setDone_25 (by decide) ?_
  obtain ⟨b5, g, h⟩ := zb_some h
  refine zw_xr hX dX4_setDone_26 g ?_
  refine zw_astore hX dX4_setDone_27 (by decide) ?_
  refine zw_aload hX dX4_setDone_29 rfl ?_
  refine zw_iconst (v := (0 : Int32)) hX dX4_setDone_31 (by decide) ?_
  refine zw_iload_n hX dX4_setDone_32 rfl ?_
  obtain ⟨S6, g, h⟩ := zb_some h
  refine zw_si hX dX4_setDone_33 g ?_
  refine zw_aload hX dX4_setDone_34 rfl ?_
  refine zw_iconst (v := (1 : Int32)) hX dX4_setDone_36 (by decide) ?_
  refine zw_iload_n hX dX4_setDone_37 rfl ?_
  obtain ⟨S7, g, h⟩ := zb_some h
  refine zw_si hX dX4_setDone_38 g ?_
  refine zw_aload hX dX4_setDone_39 rfl ?_
  refine zw_iconst (v := (2 : Int32)) hX dX4_setDone_41 (by decide) ?_
  refine zw_iload_n hX dX4_setDone_42 rfl ?_
  refine zw_if_eq (tgt := 50) hX dX4_setDone_43 (by decide) (fun c43 => ?_) (fun c43 => ?_)
  · rw [if_pos c43] at h
    refine zw_iconst (v := (0 : Int32)) hX dX4_setDone_50 (by decide) ?_
    refine zw_sub (lv' := [(0, .ref a0), (1, .int i1), (4, .ref b5)]) (List.forall_mem_cons.mpr ⟨rfl, (List.forall_mem_cons.mpr ⟨rfl, (List.forall_mem_cons.mpr ⟨rfl, zs_nil⟩)⟩)⟩) ?_
    exact zt_X4_setDone_J51 hX hr hR hd h
  · rw [if_neg c43] at h
    refine zw_iconst (v := (1 : Int32)) hX dX4_setDone_46 (by decide) ?_
    refine zw_goto (tgt := 51) hX dX4_setDone_47 (by decide) ?_
    refine zw_sub (lv' := [(0, .ref a0), (1, .int i1), (4, .ref b5)]) (List.forall_mem_cons.mpr ⟨rfl, (List.forall_mem_cons.mpr ⟨rfl, (List.forall_mem_cons.mpr ⟨rfl, zs_nil⟩)⟩)⟩) ?_
    exact zt_X4_setDone_J51 hX hr hR hd h
def zf_X4_setDone (N : Nat) (a0 : Nat) (i1 : Int32) (i2 : Int32) (i3 : Int32) (S : zm_S) : Option (Unit × zm_S) := (zg_r S a0 4 11).bind (fun b1 => if i2 = 0 then zf_X4_setDone_J14 N a0 i1 i2 i3 b1 i1 (0 : Int32) S else zf_X4_setDone_J14 N a0 i1 i2 i3 b1 i1 (2 : Int32) S)
set_option maxHeartbeats 4000000 in
set_option maxRecDepth 100000 in
theorem zt_X4_setDone {l : Launch} {V : zm_V} {N : Nat} {S : zm_S} {out : (Unit × zm_S)} {d : Nat} {a0 : Nat} {i1 : Int32} {i2 : Int32} {i3 : Int32} (hd : 3 ≤ d) (h : zf_X4_setDone N a0 i1 i2 i3 S = some out) : zm_Met l zk_E V yX4_setDone (.code yX4_setDone cX4_setDone 5 none) d [.ref a0, .int i1, .int i2, .int i3] S 0 0 (zo_v out) zo_x := by
  refine zm_of (by decide +kernel) (Nat.le_of_ble_eq_true rfl) ?_
  intro p e R s m args below meth c hRR hX hr hxt
  have hR : R.frames = d ∧ R.locals = 64 * d := by rw [hRR]; exact ⟨rfl, rfl⟩
  have hX : zm_X p R s m args meth c RX4 "setDone" cX4_setDone 5 zk_E V 0 0 := hX
  unfold zf_X4_setDone at h
  refine zw_sub (lv' := [(0, .ref a0), (1, .int i1), (2, .int i2), (3, .int i3)]) (List.forall_mem_cons.mpr ⟨rfl, (List.forall_mem_cons.mpr ⟨rfl, (List.forall_mem_cons.mpr ⟨rfl, (List.forall_mem_cons.mpr ⟨rfl, zs_nil⟩)⟩)⟩)⟩) ?_
  refine zw_aload_n hX dX4_setDone_0 rfl ?_
  obtain ⟨b1, g, h⟩ := zb_some h
  refine zw_getr hX zl_X4_38 dX4_setDone_1 g ?_
  refine zw_iload_n hX dX4_setDone_4 rfl ?_
  refine zw_iload_n hX dX4_setDone_5 rfl ?_
  refine zw_if_eq (tgt := 13) hX dX4_setDone_6 (by decide) (fun c6 => ?_) (fun c6 => ?_)
  · rw [if_pos c6] at h
    refine zw_iconst (v := (0 : Int32)) hX dX4_setDone_13 (by decide) ?_
    refine zw_sub (lv' := [(0, .ref a0), (1, .int i1), (2, .int i2), (3, .int i3)]) (List.forall_mem_cons.mpr ⟨rfl, (List.forall_mem_cons.mpr ⟨rfl, (List.forall_mem_cons.mpr ⟨rfl, (List.forall_mem_cons.mpr ⟨rfl, zs_nil⟩)⟩)⟩)⟩) ?_
    exact zt_X4_setDone_J14 hX hr hR hd h
  · rw [if_neg c6] at h
    refine zw_iconst (v := (2 : Int32)) hX dX4_setDone_9 (by decide) ?_
    refine zw_goto (tgt := 14) hX dX4_setDone_10 (by decide) ?_
    refine zw_sub (lv' := [(0, .ref a0), (1, .int i1), (2, .int i2), (3, .int i3)]) (List.forall_mem_cons.mpr ⟨rfl, (List.forall_mem_cons.mpr ⟨rfl, (List.forall_mem_cons.mpr ⟨rfl, (List.forall_mem_cons.mpr ⟨rfl, zs_nil⟩)⟩)⟩)⟩) ?_
    exact zt_X4_setDone_J14 hX hr hR hd h
def zf_X4_isDue (N : Nat) (a0 : Nat) (i1 : Int32) (i2 : Int32) (S : zm_S) : Option (Int32 × zm_S) := (zg_r S a0 4 14).bind (fun b1 => (za_x S 2 b1 i1).bind (fun v2 => if v2 = 0 then (zg_r S a0 4 12).bind (fun b3 => (za_x S 0 b3 i1).bind (fun v4 => (zg_r S a0 4 7).bind (fun b5 => (za_r S b5 i1).bind (fun b6 => (za_x S 0 b6 (3 : Int32)).bind (fun v7 => if (v4 + v7) ≤ i2 then some ((1 : Int32), S) else (zi S a0 4).bind (fun _ => (zf_X4_isSurelyCalled N a0 i1 S).bind (fun r10 => if r10.1 = 0 then some ((0 : Int32), r10.2) else some ((1 : Int32), r10.2)))))))) else some ((1 : Int32), S)))
set_option maxHeartbeats 4000000 in
set_option maxRecDepth 100000 in
theorem zt_X4_isDue {l : Launch} {V : zm_V} {N : Nat} {S : zm_S} {out : (Int32 × zm_S)} {d : Nat} {a0 : Nat} {i1 : Int32} {i2 : Int32} (hd : 3 ≤ d) (h : zf_X4_isDue N a0 i1 i2 S = some out) : zm_Met l zk_E V yX4_isDue (.code yX4_isDue cX4_isDue 3 (some .boolean)) d [.ref a0, .int i1, .int i2] S 0 0 (zo_i out) zo_x := by
  refine zm_of (by decide +kernel) (Nat.le_of_ble_eq_true rfl) ?_
  intro p e R s m args below meth c hRR hX hr hxt
  have hR : R.frames = d ∧ R.locals = 64 * d := by rw [hRR]; exact ⟨rfl, rfl⟩
  have hX : zm_X p R s m args meth c RX4 "isDue" cX4_isDue 3 zk_E V 0 0 := hX
  unfold zf_X4_isDue at h
  refine zw_sub (lv' := [(0, .ref a0), (1, .int i1), (2, .int i2)]) (List.forall_mem_cons.mpr ⟨rfl, (List.forall_mem_cons.mpr ⟨rfl, (List.forall_mem_cons.mpr ⟨rfl, zs_nil⟩)⟩)⟩) ?_
  refine zw_aload_n hX dX4_isDue_0 rfl ?_
  obtain ⟨b1, g, h⟩ := zb_some h
  refine zw_getr hX zl_X4_47 dX4_isDue_1 g ?_
  refine zw_iload_n hX dX4_isDue_4 rfl ?_
  obtain ⟨v2, g, h⟩ := zb_some h
  refine zw_xz hX dX4_isDue_5 g ?_
  refine zw_if_ne (tgt := 36) hX dX4_isDue_6 (by decide) (fun c6 => ?_) (fun c6 => ?_)
  · rw [if_neg c6] at h
    refine zw_iconst (v := (1 : Int32)) hX dX4_isDue_36 (by decide) ?_
    refine zw_goto (tgt := 41) hX dX4_isDue_37 (by decide) ?_
    obtain rfl := Option.some.inj h
    exact zw_iret hX hr dX4_isDue_41 rfl ⟨rfl, rfl⟩
  · rw [if_pos c6] at h
    refine zw_iload_n hX dX4_isDue_9 rfl ?_
    refine zw_aload_n hX dX4_isDue_10 rfl ?_
    obtain ⟨b3, g, h⟩ := zb_some h
    refine zw_getr hX zl_X4_41 dX4_isDue_11 g ?_
    refine zw_iload_n hX dX4_isDue_14 rfl ?_
    obtain ⟨v4, g, h⟩ := zb_some h
    refine zw_xi hX dX4_isDue_15 g ?_
    refine zw_aload_n hX dX4_isDue_16 rfl ?_
    obtain ⟨b5, g, h⟩ := zb_some h
    refine zw_getr hX zl_X4_29 dX4_isDue_17 g ?_
    refine zw_iload_n hX dX4_isDue_20 rfl ?_
    obtain ⟨b6, g, h⟩ := zb_some h
    refine zw_xr hX dX4_isDue_21 g ?_
    refine zw_iconst (v := (3 : Int32)) hX dX4_isDue_22 (by decide) ?_
    obtain ⟨v7, g, h⟩ := zb_some h
    refine zw_xi hX dX4_isDue_23 g ?_
    refine zw_iadd hX dX4_isDue_24 ?_
    refine zw_icmp_ge (tgt := 36) hX dX4_isDue_25 (by decide) (fun c25 => ?_) (fun c25 => ?_)
    · rw [if_pos c25] at h
      refine zw_iconst (v := (1 : Int32)) hX dX4_isDue_36 (by decide) ?_
      refine zw_goto (tgt := 41) hX dX4_isDue_37 (by decide) ?_
      obtain rfl := Option.some.inj h
      exact zw_iret hX hr dX4_isDue_41 rfl ⟨rfl, rfl⟩
    · rw [if_neg c25] at h
      refine zw_aload_n hX dX4_isDue_28 rfl ?_
      refine zw_iload_n hX dX4_isDue_29 rfl ?_
      obtain ⟨_, gi, h⟩ := zb_some h
      obtain ⟨r10, g, h⟩ := zb_some h
      refine zc_Vi (as := [.int i1]) hX gi (zt_X4_isSurelyCalled (d := d - 1) (by omega) g) zl_X4_140 rfl dX4_isDue_30 ⟨rfl, rfl, Nat.le_of_ble_eq_true rfl⟩ ⟨by omega, by omega⟩ ?_
      refine zw_if_eq (tgt := 40) hX dX4_isDue_33 (by decide) (fun c33 => ?_) (fun c33 => ?_)
      · rw [if_pos c33] at h
        refine zw_iconst (v := (0 : Int32)) hX dX4_isDue_40 (by decide) ?_
        obtain rfl := Option.some.inj h
        exact zw_iret hX hr dX4_isDue_41 rfl ⟨rfl, rfl⟩
      · rw [if_neg c33] at h
        refine zw_iconst (v := (1 : Int32)) hX dX4_isDue_36 (by decide) ?_
        refine zw_goto (tgt := 41) hX dX4_isDue_37 (by decide) ?_
        obtain rfl := Option.some.inj h
        exact zw_iret hX hr dX4_isDue_41 rfl ⟨rfl, rfl⟩
def zf_X4_runAct_J106 (N : Nat) (a0 : Nat) (i1 : Int32) (i2 : Int32) (S : zm_S) : Option (Unit × zm_S) := (zg_r S a0 4 11).bind (fun b10 => (za_x S 0 b10 i1).bind (fun v11 => if v11 = (1 : Int32) then (zi S a0 4).bind (fun _ => (zf_X4_isDue N a0 i1 i2 S).bind (fun r14 => if r14.1 = 0 then some ((), r14.2) else (zi r14.2 a0 4).bind (fun _ => (zf_X4_setDone N a0 i1 (1 : Int32) i2 r14.2).bind (fun r17 => some ((), r17.2))))) else some ((), S)))
set_option maxHeartbeats 4000000 in
set_option maxRecDepth 100000 in
theorem zt_X4_runAct_J106 {p : Program} {l : Launch} {e : Env} {R : Room} {s : State} {m : MethodId} {args : Array Value} {below : List Frame} {meth : Method} {c : Code} {V : zm_V} {mc ms d rc rs : Nat} (hX : zm_X p R s m args meth c RX4 "runAct" cX4_runAct 4 zk_E V mc ms) (hr : meth.sig.returnType = none) (hR : R.frames = d ∧ R.locals = 64 * d) (hd : 4 ≤ d) {N : Nat} {a0 : Nat} {i1 : Int32} {i2 : Int32} {out : (Unit × zm_S)} {S : zm_S} (h : zf_X4_runAct_J106 N a0 i1 i2 S = some out) : zw p l e R s m args below meth c (vx_MQ below (zm_Qc zk_E V (zo_v out)) (zm_XC zk_E V zo_x) args s mc ms (fun q => V.2.2.2.1 ≤ q)) 4 zk_E V mc ms 106 [(0, .ref a0), (1, .int i1), (2, .int i2)] [] S rc rs := by
  unfold zf_X4_runAct_J106 at h
  refine zw_aload_n hX dX4_runAct_106 rfl ?_
  obtain ⟨b10, g, h⟩ := zb_some h
  refine zw_getr hX zl_X4_38 dX4_runAct_107 g ?_
  refine zw_iload_n hX dX4_runAct_110 rfl ?_
  obtain ⟨v11, g, h⟩ := zb_some h
  refine zw_xi hX dX4_runAct_111 g ?_
  refine zw_iconst (v := (1 : Int32)) hX dX4_runAct_112 (by decide) ?_
  refine zw_icmp_ne (tgt := 132) hX dX4_runAct_113 (by decide) (fun c113 => ?_) (fun c113 => ?_)
  · rw [if_neg c113] at h
    obtain rfl := Option.some.inj h
    exact zw_vret hX hr dX4_runAct_132 ⟨rfl, rfl⟩
  · rw [if_pos c113] at h
    refine zw_aload_n hX dX4_runAct_116 rfl ?_
    refine zw_iload_n hX dX4_runAct_117 rfl ?_
    refine zw_iload_n hX dX4_runAct_118 rfl ?_
    obtain ⟨_, gi, h⟩ := zb_some h
    obtain ⟨r14, g, h⟩ := zb_some h
    refine zc_Vi (as := [.int i1, .int i2]) hX gi (zt_X4_isDue (d := d - 1) (by omega) g) zl_X4_137 rfl dX4_runAct_119 ⟨rfl, rfl, Nat.le_of_ble_eq_true rfl⟩ ⟨by omega, by omega⟩ ?_
    refine zw_if_eq (tgt := 132) hX dX4_runAct_122 (by decide) (fun c122 => ?_) (fun c122 => ?_)
    · rw [if_pos c122] at h
      obtain rfl := Option.some.inj h
      exact zw_vret hX hr dX4_runAct_132 ⟨rfl, rfl⟩
    · rw [if_neg c122] at h
      refine zw_aload_n hX dX4_runAct_125 rfl ?_
      refine zw_iload_n hX dX4_runAct_126 rfl ?_
      refine zw_iconst (v := (1 : Int32)) hX dX4_runAct_127 (by decide) ?_
      refine zw_iload_n hX dX4_runAct_128 rfl ?_
      obtain ⟨_, gi, h⟩ := zb_some h
      obtain ⟨r17, g, h⟩ := zb_some h
      refine zc_Vv (as := [.int i1, .int (1 : Int32), .int i2]) hX gi (zt_X4_setDone (d := d - 1) (by omega) g) zl_X4_133 rfl dX4_runAct_129 ⟨rfl, rfl, Nat.le_of_ble_eq_true rfl⟩ ⟨by omega, by omega⟩ ?_
      obtain rfl := Option.some.inj h
      exact zw_vret hX hr dX4_runAct_132 ⟨rfl, rfl⟩
def zf_X4_runAct_J74 (N : Nat) (a0 : Nat) (i1 : Int32) (i2 : Int32) (i3 : Int32) (S : zm_S) : Option (Unit × zm_S) := (zg_r S a0 4 11).bind (fun b8 => (za_x S 0 b8 i1).bind (fun v9 => if v9 = (2 : Int32) then if i3 = 0 then (zg_r S a0 4 7).bind (fun b18 => (za_r S b18 i1).bind (fun b19 => (za_x S 0 b19 (4 : Int32)).bind (fun v20 => if v20 = 0 then (zi S a0 4).bind (fun _ => (zf_X4_setDone N a0 i1 (0 : Int32) i2 S).bind (fun r23 => zf_X4_runAct_J106 N a0 i1 i2 r23.2)) else zf_X4_runAct_J106 N a0 i1 i2 S))) else zf_X4_runAct_J106 N a0 i1 i2 S else zf_X4_runAct_J106 N a0 i1 i2 S))
set_option maxHeartbeats 4000000 in
set_option maxRecDepth 100000 in
theorem zt_X4_runAct_J74 {p : Program} {l : Launch} {e : Env} {R : Room} {s : State} {m : MethodId} {args : Array Value} {below : List Frame} {meth : Method} {c : Code} {V : zm_V} {mc ms d rc rs : Nat} (hX : zm_X p R s m args meth c RX4 "runAct" cX4_runAct 4 zk_E V mc ms) (hr : meth.sig.returnType = none) (hR : R.frames = d ∧ R.locals = 64 * d) (hd : 4 ≤ d) {N : Nat} {a0 : Nat} {i1 : Int32} {i2 : Int32} {i3 : Int32} {out : (Unit × zm_S)} {S : zm_S} (h : zf_X4_runAct_J74 N a0 i1 i2 i3 S = some out) : zw p l e R s m args below meth c (vx_MQ below (zm_Qc zk_E V (zo_v out)) (zm_XC zk_E V zo_x) args s mc ms (fun q => V.2.2.2.1 ≤ q)) 4 zk_E V mc ms 74 [(0, .ref a0), (1, .int i1), (2, .int i2), (3, .int i3)] [] S rc rs := by
  unfold zf_X4_runAct_J74 at h
  refine zw_aload_n hX dX4_runAct_74 rfl ?_
  obtain ⟨b8, g, h⟩ := zb_some h
  refine zw_getr hX zl_X4_38 dX4_runAct_75 g ?_
  refine zw_iload_n hX dX4_runAct_78 rfl ?_
  obtain ⟨v9, g, h⟩ := zb_some h
  refine zw_xi hX dX4_runAct_79 g ?_
  refine zw_iconst (v := (2 : Int32)) hX dX4_runAct_80 (by decide) ?_
  refine zw_icmp_ne (tgt := 106) hX dX4_runAct_81 (by decide) (fun c81 => ?_) (fun c81 => ?_)
  · rw [if_neg c81] at h
    refine zw_sub (lv' := [(0, .ref a0), (1, .int i1), (2, .int i2)]) (List.forall_mem_cons.mpr ⟨rfl, (List.forall_mem_cons.mpr ⟨rfl, (List.forall_mem_cons.mpr ⟨rfl, zs_nil⟩)⟩)⟩) ?_
    exact zt_X4_runAct_J106 hX hr hR hd h
  · rw [if_pos c81] at h
    refine zw_iload_n hX dX4_runAct_84 rfl ?_
    refine zw_if_ne (tgt := 106) hX dX4_runAct_85 (by decide) (fun c85 => ?_) (fun c85 => ?_)
    · rw [if_neg c85] at h
      refine zw_sub (lv' := [(0, .ref a0), (1, .int i1), (2, .int i2)]) (List.forall_mem_cons.mpr ⟨rfl, (List.forall_mem_cons.mpr ⟨rfl, (List.forall_mem_cons.mpr ⟨rfl, zs_nil⟩)⟩)⟩) ?_
      exact zt_X4_runAct_J106 hX hr hR hd h
    · rw [if_pos c85] at h
      refine zw_aload_n hX dX4_runAct_88 rfl ?_
      obtain ⟨b18, g, h⟩ := zb_some h
      refine zw_getr hX zl_X4_29 dX4_runAct_89 g ?_
      refine zw_iload_n hX dX4_runAct_92 rfl ?_
      obtain ⟨b19, g, h⟩ := zb_some h
      refine zw_xr hX dX4_runAct_93 g ?_
      refine zw_iconst (v := (4 : Int32)) hX dX4_runAct_94 (by decide) ?_
      obtain ⟨v20, g, h⟩ := zb_some h
      refine zw_xi hX dX4_runAct_95 g ?_
      refine zw_if_ne (tgt := 106) hX dX4_runAct_96 (by decide) (fun c96 => ?_) (fun c96 => ?_)
      · rw [if_neg c96] at h
        refine zw_sub (lv' := [(0, .ref a0), (1, .int i1), (2, .int i2)]) (List.forall_mem_cons.mpr ⟨rfl, (List.forall_mem_cons.mpr ⟨rfl, (List.forall_mem_cons.mpr ⟨rfl, zs_nil⟩)⟩)⟩) ?_
        exact zt_X4_runAct_J106 hX hr hR hd h
      · rw [if_pos c96] at h
        refine zw_aload_n hX dX4_runAct_99 rfl ?_
        refine zw_iload_n hX dX4_runAct_100 rfl ?_
        refine zw_iconst (v := (0 : Int32)) hX dX4_runAct_101 (by decide) ?_
        refine zw_iload_n hX dX4_runAct_102 rfl ?_
        obtain ⟨_, gi, h⟩ := zb_some h
        obtain ⟨r23, g, h⟩ := zb_some h
        refine zc_Vv (as := [.int i1, .int (0 : Int32), .int i2]) hX gi (zt_X4_setDone (d := d - 1) (by omega) g) zl_X4_133 rfl dX4_runAct_103 ⟨rfl, rfl, Nat.le_of_ble_eq_true rfl⟩ ⟨by omega, by omega⟩ ?_
        refine zw_sub (lv' := [(0, .ref a0), (1, .int i1), (2, .int i2)]) (List.forall_mem_cons.mpr ⟨rfl, (List.forall_mem_cons.mpr ⟨rfl, (List.forall_mem_cons.mpr ⟨rfl, zs_nil⟩)⟩)⟩) ?_
        exact zt_X4_runAct_J106 hX hr hR hd h
def zf_X4_runAct_J50 (N : Nat) (a0 : Nat) (i1 : Int32) (i2 : Int32) (i3 : Int32) (S : zm_S) : Option (Unit × zm_S) := (zg_r S a0 4 11).bind (fun b6 => (za_x S 0 b6 i1).bind (fun v7 => if v7 = (1 : Int32) then if i3 = 0 then (zg_r S a0 4 11).bind (fun b24 => (zs_i S b24 i1 (0 : Int32)).bind (fun S25 => zf_X4_runAct_J106 N a0 i1 i2 S25)) else zf_X4_runAct_J74 N a0 i1 i2 i3 S else zf_X4_runAct_J74 N a0 i1 i2 i3 S))
set_option maxHeartbeats 4000000 in
set_option maxRecDepth 100000 in
theorem zt_X4_runAct_J50 {p : Program} {l : Launch} {e : Env} {R : Room} {s : State} {m : MethodId} {args : Array Value} {below : List Frame} {meth : Method} {c : Code} {V : zm_V} {mc ms d rc rs : Nat} (hX : zm_X p R s m args meth c RX4 "runAct" cX4_runAct 4 zk_E V mc ms) (hr : meth.sig.returnType = none) (hR : R.frames = d ∧ R.locals = 64 * d) (hd : 4 ≤ d) {N : Nat} {a0 : Nat} {i1 : Int32} {i2 : Int32} {i3 : Int32} {out : (Unit × zm_S)} {S : zm_S} (h : zf_X4_runAct_J50 N a0 i1 i2 i3 S = some out) : zw p l e R s m args below meth c (vx_MQ below (zm_Qc zk_E V (zo_v out)) (zm_XC zk_E V zo_x) args s mc ms (fun q => V.2.2.2.1 ≤ q)) 4 zk_E V mc ms 50 [(0, .ref a0), (1, .int i1), (2, .int i2), (3, .int i3)] [] S rc rs := by
  unfold zf_X4_runAct_J50 at h
  refine zw_aload_n hX dX4_runAct_50 rfl ?_
  obtain ⟨b6, g, h⟩ := zb_some h
  refine zw_getr hX zl_X4_38 dX4_runAct_51 g ?_
  refine zw_iload_n hX dX4_runAct_54 rfl ?_
  obtain ⟨v7, g, h⟩ := zb_some h
  refine zw_xi hX dX4_runAct_55 g ?_
  refine zw_iconst (v := (1 : Int32)) hX dX4_runAct_56 (by decide) ?_
  refine zw_icmp_ne (tgt := 74) hX dX4_runAct_57 (by decide) (fun c57 => ?_) (fun c57 => ?_)
  · rw [if_neg c57] at h
    refine zw_sub (lv' := [(0, .ref a0), (1, .int i1), (2, .int i2), (3, .int i3)]) (List.forall_mem_cons.mpr ⟨rfl, (List.forall_mem_cons.mpr ⟨rfl, (List.forall_mem_cons.mpr ⟨rfl, (List.forall_mem_cons.mpr ⟨rfl, zs_nil⟩)⟩)⟩)⟩) ?_
    exact zt_X4_runAct_J74 hX hr hR hd h
  · rw [if_pos c57] at h
    refine zw_iload_n hX dX4_runAct_60 rfl ?_
    refine zw_if_ne (tgt := 74) hX dX4_runAct_61 (by decide) (fun c61 => ?_) (fun c61 => ?_)
    · rw [if_neg c61] at h
      refine zw_sub (lv' := [(0, .ref a0), (1, .int i1), (2, .int i2), (3, .int i3)]) (List.forall_mem_cons.mpr ⟨rfl, (List.forall_mem_cons.mpr ⟨rfl, (List.forall_mem_cons.mpr ⟨rfl, (List.forall_mem_cons.mpr ⟨rfl, zs_nil⟩)⟩)⟩)⟩) ?_
      exact zt_X4_runAct_J74 hX hr hR hd h
    · rw [if_pos c61] at h
      refine zw_aload_n hX dX4_runAct_64 rfl ?_
      obtain ⟨b24, g, h⟩ := zb_some h
      refine zw_getr hX zl_X4_38 dX4_runAct_65 g ?_
      refine zw_iload_n hX dX4_runAct_68 rfl ?_
      refine zw_iconst (v := (0 : Int32)) hX dX4_runAct_69 (by decide) ?_
      obtain ⟨S25, g, h⟩ := zb_some h
      refine zw_si hX dX4_runAct_70 g ?_
      refine zw_goto (tgt := 106) hX dX4_runAct_71 (by decide) ?_
      refine zw_sub (lv' := [(0, .ref a0), (1, .int i1), (2, .int i2)]) (List.forall_mem_cons.mpr ⟨rfl, (List.forall_mem_cons.mpr ⟨rfl, (List.forall_mem_cons.mpr ⟨rfl, zs_nil⟩)⟩)⟩) ?_
      exact zt_X4_runAct_J106 hX hr hR hd h
def zf_X4_runAct (N : Nat) (a0 : Nat) (i1 : Int32) (i2 : Int32) (S : zm_S) : Option (Unit × zm_S) := (zi S a0 4).bind (fun _ => (zf_X4_isCalled N a0 i1 S).bind (fun r3 => (zg_r r3.2 a0 4 11).bind (fun b4 => (za_x r3.2 0 b4 i1).bind (fun v5 => if v5 = 0 then if r3.1 = 0 then zf_X4_runAct_J50 N a0 i1 i2 r3.1 r3.2 else (zg_r r3.2 a0 4 11).bind (fun b26 => (zs_i r3.2 b26 i1 (1 : Int32)).bind (fun S27 => (zg_r S27 a0 4 12).bind (fun b28 => (zs_i S27 b28 i1 i2).bind (fun S29 => (zg_r S29 a0 4 13).bind (fun b30 => (zs_z S29 b30 i1 (0 : Int32)).bind (fun S31 => (zg_r S31 a0 4 14).bind (fun b32 => (zs_z S31 b32 i1 (0 : Int32)).bind (fun S33 => zf_X4_runAct_J106 N a0 i1 i2 S33)))))))) else zf_X4_runAct_J50 N a0 i1 i2 r3.1 r3.2))))
set_option maxHeartbeats 4000000 in
set_option maxRecDepth 100000 in
theorem zt_X4_runAct {l : Launch} {V : zm_V} {N : Nat} {S : zm_S} {out : (Unit × zm_S)} {d : Nat} {a0 : Nat} {i1 : Int32} {i2 : Int32} (hd : 4 ≤ d) (h : zf_X4_runAct N a0 i1 i2 S = some out) : zm_Met l zk_E V yX4_runAct (.code yX4_runAct cX4_runAct 4 none) d [.ref a0, .int i1, .int i2] S 0 0 (zo_v out) zo_x := by
  refine zm_of (by decide +kernel) (Nat.le_of_ble_eq_true rfl) ?_
  intro p e R s m args below meth c hRR hX hr hxt
  have hR : R.frames = d ∧ R.locals = 64 * d := by rw [hRR]; exact ⟨rfl, rfl⟩
  have hX : zm_X p R s m args meth c RX4 "runAct" cX4_runAct 4 zk_E V 0 0 := hX
  unfold zf_X4_runAct at h
  refine zw_sub (lv' := [(0, .ref a0), (1, .int i1), (2, .int i2)]) (List.forall_mem_cons.mpr ⟨rfl, (List.forall_mem_cons.mpr ⟨rfl, (List.forall_mem_cons.mpr ⟨rfl, zs_nil⟩)⟩)⟩) ?_
  refine zw_aload_n hX dX4_runAct_0 rfl ?_
  refine zw_iload_n hX dX4_runAct_1 rfl ?_
  obtain ⟨_, gi, h⟩ := zb_some h
  obtain ⟨r3, g, h⟩ := zb_some h
  refine zc_Vi (as := [.int i1]) hX gi (zt_X4_isCalled (d := d - 1) (by omega) g) zl_X4_130 rfl dX4_runAct_2 ⟨rfl, rfl, Nat.le_of_ble_eq_true rfl⟩ ⟨by omega, by omega⟩ ?_
  refine zw_istore_n hX dX4_runAct_5 (by decide) ?_
  refine zw_aload_n hX dX4_runAct_6 rfl ?_
  obtain ⟨b4, g, h⟩ := zb_some h
  refine zw_getr hX zl_X4_38 dX4_runAct_7 g ?_
  refine zw_iload_n hX dX4_runAct_10 rfl ?_
  obtain ⟨v5, g, h⟩ := zb_some h
  refine zw_xi hX dX4_runAct_11 g ?_
  refine zw_if_ne (tgt := 50) hX dX4_runAct_12 (by decide) (fun c12 => ?_) (fun c12 => ?_)
  · rw [if_neg c12] at h
    refine zw_sub (lv' := [(0, .ref a0), (1, .int i1), (2, .int i2), (3, .int r3.1)]) (List.forall_mem_cons.mpr ⟨rfl, (List.forall_mem_cons.mpr ⟨rfl, (List.forall_mem_cons.mpr ⟨rfl, (List.forall_mem_cons.mpr ⟨rfl, zs_nil⟩)⟩)⟩)⟩) ?_
    exact zt_X4_runAct_J50 hX hr hR hd h
  · rw [if_pos c12] at h
    refine zw_iload_n hX dX4_runAct_15 rfl ?_
    refine zw_if_eq (tgt := 50) hX dX4_runAct_16 (by decide) (fun c16 => ?_) (fun c16 => ?_)
    · rw [if_pos c16] at h
      refine zw_sub (lv' := [(0, .ref a0), (1, .int i1), (2, .int i2), (3, .int r3.1)]) (List.forall_mem_cons.mpr ⟨rfl, (List.forall_mem_cons.mpr ⟨rfl, (List.forall_mem_cons.mpr ⟨rfl, (List.forall_mem_cons.mpr ⟨rfl, zs_nil⟩)⟩)⟩)⟩) ?_
      exact zt_X4_runAct_J50 hX hr hR hd h
    · rw [if_neg c16] at h
      refine zw_aload_n hX dX4_runAct_19 rfl ?_
      obtain ⟨b26, g, h⟩ := zb_some h
      refine zw_getr hX zl_X4_38 dX4_runAct_20 g ?_
      refine zw_iload_n hX dX4_runAct_23 rfl ?_
      refine zw_iconst (v := (1 : Int32)) hX dX4_runAct_24 (by decide) ?_
      obtain ⟨S27, g, h⟩ := zb_some h
      refine zw_si hX dX4_runAct_25 g ?_
      refine zw_aload_n hX dX4_runAct_26 rfl ?_
      obtain ⟨b28, g, h⟩ := zb_some h
      refine zw_getr hX zl_X4_41 dX4_runAct_27 g ?_
      refine zw_iload_n hX dX4_runAct_30 rfl ?_
      refine zw_iload_n hX dX4_runAct_31 rfl ?_
      obtain ⟨S29, g, h⟩ := zb_some h
      refine zw_si hX dX4_runAct_32 g ?_
      refine zw_aload_n hX dX4_runAct_33 rfl ?_
      obtain ⟨b30, g, h⟩ := zb_some h
      refine zw_getr hX zl_X4_44 dX4_runAct_34 g ?_
      refine zw_iload_n hX dX4_runAct_37 rfl ?_
      refine zw_iconst (v := (0 : Int32)) hX dX4_runAct_38 (by decide) ?_
      obtain ⟨S31, g, h⟩ := zb_some h
      refine zw_sz hX dX4_runAct_39 g ?_
      refine zw_aload_n hX dX4_runAct_40 rfl ?_
      obtain ⟨b32, g, h⟩ := zb_some h
      refine zw_getr hX zl_X4_47 dX4_runAct_41 g ?_
      refine zw_iload_n hX dX4_runAct_44 rfl ?_
      refine zw_iconst (v := (0 : Int32)) hX dX4_runAct_45 (by decide) ?_
      obtain ⟨S33, g, h⟩ := zb_some h
      refine zw_sz hX dX4_runAct_46 g ?_
      refine zw_goto (tgt := 106) hX dX4_runAct_47 (by decide) ?_
      refine zw_sub (lv' := [(0, .ref a0), (1, .int i1), (2, .int i2)]) (List.forall_mem_cons.mpr ⟨rfl, (List.forall_mem_cons.mpr ⟨rfl, (List.forall_mem_cons.mpr ⟨rfl, zs_nil⟩)⟩)⟩) ?_
      exact zt_X4_runAct_J106 hX hr hR hd h
def zf_X4_runActs_L7 (N : Nat) : Nat → Nat → Int32 → Int32 → zm_S → Option ((Unit × zm_S) ⊕ ((Unit) × zm_S))
  | 0, _, _, _, _ => none
  | n + 1, a0, i1, i2, S => (zg_r S a0 4 10).bind (fun b4 => (za_n S b4).bind (fun v5 => if v5 ≤ i2 then some (.inr ((), S)) else (zg_r S a0 4 10).bind (fun b6 => (za_x S 0 b6 i2).bind (fun v7 => (zi S a0 4).bind (fun _ => (zf_X4_isAct N a0 v7 S).bind (fun r10 => if r10.1 = 0 then zf_X4_runActs_L7 N n a0 i1 (i2 + (1 : Int32)) r10.2 else (zg_r r10.2 a0 4 10).bind (fun b11 => (za_x r10.2 0 b11 i2).bind (fun v12 => (zi r10.2 a0 4).bind (fun _ => (zf_X4_runAct N a0 v12 i1 r10.2).bind (fun r15 => zf_X4_runActs_L7 N n a0 i1 (i2 + (1 : Int32)) r15.2))))))))))
set_option maxHeartbeats 4000000 in
set_option maxRecDepth 100000 in
theorem zt_X4_runActs_L7 {p : Program} {l : Launch} {e : Env} {R : Room} {s : State} {m : MethodId} {args : Array Value} {below : List Frame} {meth : Method} {c : Code} {V : zm_V} {mc ms d rc rs : Nat} (hX : zm_X p R s m args meth c RX4 "runActs" cX4_runActs 3 zk_E V mc ms) (hr : meth.sig.returnType = none) (hR : R.frames = d ∧ R.locals = 64 * d) (hd : 5 ≤ d) {N : Nat} {res : (Unit × zm_S) ⊕ ((Unit) × zm_S)} {out : (Unit × zm_S)} (a0 : Nat) (i1 : Int32) (hf : ∀ o, res = .inl o → o = out) (hk : ∀ (S' : zm_S), res = .inr ((), S') → zw p l e R s m args below meth c (vx_MQ below (zm_Qc zk_E V (zo_v out)) (zm_XC zk_E V zo_x) args s mc ms (fun q => V.2.2.2.1 ≤ q)) 3 zk_E V mc ms 46 [] [] S' rc rs) : ∀ (n : Nat) (i2 : Int32) (S : zm_S), zf_X4_runActs_L7 N n a0 i1 i2 S = some res → zw p l e R s m args below meth c (vx_MQ below (zm_Qc zk_E V (zo_v out)) (zm_XC zk_E V zo_x) args s mc ms (fun q => V.2.2.2.1 ≤ q)) 3 zk_E V mc ms 7 [(0, .ref a0), (1, .int i1), (2, .int i2)] [] S rc rs := by
  intro n
  induction n with
  | zero => intro i2 S h; cases h
  | succ n ih =>
    intro i2 S h
    rw [zf_X4_runActs_L7] at h
    refine zw_iload_n hX dX4_runActs_7 rfl ?_
    refine zw_aload_n hX dX4_runActs_8 rfl ?_
    obtain ⟨b4, g, h⟩ := zb_some h
    refine zw_getr hX zl_X4_35 dX4_runActs_9 g ?_
    obtain ⟨v5, g, h⟩ := zb_some h
    refine zw_len hX dX4_runActs_12 g ?_
    refine zw_icmp_ge (tgt := 46) hX dX4_runActs_13 (by decide) (fun c13 => ?_) (fun c13 => ?_)
    · rw [if_pos c13] at h
      refine zw_sub (lv' := []) zs_nil ?_
      exact hk  _ (Option.some.inj h).symm
    · rw [if_neg c13] at h
      refine zw_aload_n hX dX4_runActs_16 rfl ?_
      refine zw_aload_n hX dX4_runActs_17 rfl ?_
      obtain ⟨b6, g, h⟩ := zb_some h
      refine zw_getr hX zl_X4_35 dX4_runActs_18 g ?_
      refine zw_iload_n hX dX4_runActs_21 rfl ?_
      obtain ⟨v7, g, h⟩ := zb_some h
      refine zw_xi hX dX4_runActs_22 g ?_
      obtain ⟨_, gi, h⟩ := zb_some h
      obtain ⟨r10, g, h⟩ := zb_some h
      refine zc_Vi (as := [.int v7]) hX gi (zt_X4_isAct (d := d - 1) (by omega) g) zl_X4_123 rfl dX4_runActs_23 ⟨rfl, rfl, Nat.le_of_ble_eq_true rfl⟩ ⟨by omega, by omega⟩ ?_
      refine zw_if_eq (tgt := 40) hX dX4_runActs_26 (by decide) (fun c26 => ?_) (fun c26 => ?_)
      · rw [if_pos c26] at h
        refine zw_iinc (v := (i2 + (1 : Int32))) hX dX4_runActs_40 rfl rfl (by decide) ?_
        refine zw_goto (tgt := 7) hX dX4_runActs_43 (by decide) ?_
        refine zw_sub (lv' := [(0, .ref a0), (1, .int i1), (2, .int (i2 + (1 : Int32)))]) (List.forall_mem_cons.mpr ⟨rfl, (List.forall_mem_cons.mpr ⟨rfl, (List.forall_mem_cons.mpr ⟨rfl, zs_nil⟩)⟩)⟩) ?_
        exact ih _ _ h
      · rw [if_neg c26] at h
        refine zw_aload_n hX dX4_runActs_29 rfl ?_
        refine zw_aload_n hX dX4_runActs_30 rfl ?_
        obtain ⟨b11, g, h⟩ := zb_some h
        refine zw_getr hX zl_X4_35 dX4_runActs_31 g ?_
        refine zw_iload_n hX dX4_runActs_34 rfl ?_
        obtain ⟨v12, g, h⟩ := zb_some h
        refine zw_xi hX dX4_runActs_35 g ?_
        refine zw_iload_n hX dX4_runActs_36 rfl ?_
        obtain ⟨_, gi, h⟩ := zb_some h
        obtain ⟨r15, g, h⟩ := zb_some h
        refine zc_Vv (as := [.int v12, .int i1]) hX gi (zt_X4_runAct (d := d - 1) (by omega) g) zl_X4_126 rfl dX4_runActs_37 ⟨rfl, rfl, Nat.le_of_ble_eq_true rfl⟩ ⟨by omega, by omega⟩ ?_
        refine zw_iinc (v := (i2 + (1 : Int32))) hX dX4_runActs_40 rfl rfl (by decide) ?_
        refine zw_goto (tgt := 7) hX dX4_runActs_43 (by decide) ?_
        refine zw_sub (lv' := [(0, .ref a0), (1, .int i1), (2, .int (i2 + (1 : Int32)))]) (List.forall_mem_cons.mpr ⟨rfl, (List.forall_mem_cons.mpr ⟨rfl, (List.forall_mem_cons.mpr ⟨rfl, zs_nil⟩)⟩)⟩) ?_
        exact ih _ _ h
def zf_X4_runActs (N : Nat) (a0 : Nat) (i1 : Int32) (S : zm_S) : Option (Unit × zm_S) := (zi S a0 4).bind (fun _ => (zf_X4_lookAtZones N a0 i1 S).bind (fun r3 => (zf_X4_runActs_L7 N N a0 i1 (0 : Int32) r3.2).bind (fun r => match r with | .inl o => some o | .inr (_, S16) => some ((), S16))))
set_option maxHeartbeats 4000000 in
set_option maxRecDepth 100000 in
theorem zt_X4_runActs {l : Launch} {V : zm_V} {N : Nat} {S : zm_S} {out : (Unit × zm_S)} {d : Nat} {a0 : Nat} {i1 : Int32} (hd : 5 ≤ d) (h : zf_X4_runActs N a0 i1 S = some out) : zm_Met l zk_E V yX4_runActs (.code yX4_runActs cX4_runActs 3 none) d [.ref a0, .int i1] S 0 0 (zo_v out) zo_x := by
  refine zm_of (by decide +kernel) (Nat.le_of_ble_eq_true rfl) ?_
  intro p e R s m args below meth c hRR hX hr hxt
  have hR : R.frames = d ∧ R.locals = 64 * d := by rw [hRR]; exact ⟨rfl, rfl⟩
  have hX : zm_X p R s m args meth c RX4 "runActs" cX4_runActs 3 zk_E V 0 0 := hX
  unfold zf_X4_runActs at h
  refine zw_sub (lv' := [(0, .ref a0), (1, .int i1)]) (List.forall_mem_cons.mpr ⟨rfl, (List.forall_mem_cons.mpr ⟨rfl, zs_nil⟩)⟩) ?_
  refine zw_aload_n hX dX4_runActs_0 rfl ?_
  refine zw_iload_n hX dX4_runActs_1 rfl ?_
  obtain ⟨_, gi, h⟩ := zb_some h
  obtain ⟨r3, g, h⟩ := zb_some h
  refine zc_Vv (as := [.int i1]) hX gi (zt_X4_lookAtZones (d := d - 1) (by omega) g) zl_X4_119 rfl dX4_runActs_2 ⟨rfl, rfl, Nat.le_of_ble_eq_true rfl⟩ ⟨by omega, by omega⟩ ?_
  refine zw_iconst (v := (0 : Int32)) hX dX4_runActs_5 (by decide) ?_
  refine zw_istore_n hX dX4_runActs_6 (by decide) ?_
  obtain ⟨r, g, h⟩ := zb_some h
  refine zw_sub (lv' := [(0, .ref a0), (1, .int i1), (2, .int (0 : Int32))]) (List.forall_mem_cons.mpr ⟨rfl, (List.forall_mem_cons.mpr ⟨rfl, (List.forall_mem_cons.mpr ⟨rfl, zs_nil⟩)⟩)⟩) ?_
  refine zt_X4_runActs_L7 hX hr hR hd (res := r) (out := out) a0 i1 ?_ ?_ N _ _ g
  · intro o ho
    subst ho
    exact Option.some.inj h
  · intro  S16 hx
    subst hx
    try dsimp only at h
    obtain rfl := Option.some.inj h
    exact zw_vret hX hr dX4_runActs_46 ⟨rfl, rfl⟩
def zf_X4_lookAtActs_L4 (N : Nat) : Nat → Nat → Int32 → Int32 → Int32 → zm_S → Option ((Int32 × zm_S) ⊕ ((Int32) × zm_S))
  | 0, _, _, _, _, _ => none
  | n + 1, a0, i1, i2, i3, S => (zg_r S a0 4 11).bind (fun b1 => (za_n S b1).bind (fun v2 => if v2 ≤ i3 then some (.inr (i2, S)) else (zg_r S a0 4 11).bind (fun b3 => (za_x S 0 b3 i3).bind (fun v4 => if v4 = (1 : Int32) then (zg_r S a0 4 13).bind (fun b5 => (za_x S 2 b5 i3).bind (fun v6 => if v6 = 0 then (zg_r S a0 4 13).bind (fun b7 => (zs_z S b7 i3 (1 : Int32)).bind (fun S8 => (zg_r S8 a0 4 12).bind (fun b9 => (zs_i S8 b9 i3 i1).bind (fun S10 => zf_X4_lookAtActs_L4 N n a0 i1 (i2 + (1 : Int32)) (i3 + (1 : Int32)) S10)))) else zf_X4_lookAtActs_L4 N n a0 i1 i2 (i3 + (1 : Int32)) S)) else zf_X4_lookAtActs_L4 N n a0 i1 i2 (i3 + (1 : Int32)) S))))
set_option maxHeartbeats 4000000 in
set_option maxRecDepth 100000 in
theorem zt_X4_lookAtActs_L4 {p : Program} {l : Launch} {e : Env} {R : Room} {s : State} {m : MethodId} {args : Array Value} {below : List Frame} {meth : Method} {c : Code} {V : zm_V} {mc ms d rc rs : Nat} (hX : zm_X p R s m args meth c RX4 "lookAtActs" cX4_lookAtActs 4 zk_E V mc ms) (hr : meth.sig.returnType = (some .int)) (hR : R.frames = d ∧ R.locals = 64 * d) (hd : 1 ≤ d) {N : Nat} {res : (Int32 × zm_S) ⊕ ((Int32) × zm_S)} {out : (Int32 × zm_S)} (a0 : Nat) (i1 : Int32) (hf : ∀ o, res = .inl o → o = out) (hk : ∀ (x2 : Int32) (S' : zm_S), res = .inr (x2, S') → zw p l e R s m args below meth c (vx_MQ below (zm_Qc zk_E V (zo_i out)) (zm_XC zk_E V zo_x) args s mc ms (fun q => V.2.2.2.1 ≤ q)) 4 zk_E V mc ms 55 [(2, .int x2)] [] S' rc rs) : ∀ (n : Nat) (i2 : Int32) (i3 : Int32) (S : zm_S), zf_X4_lookAtActs_L4 N n a0 i1 i2 i3 S = some res → zw p l e R s m args below meth c (vx_MQ below (zm_Qc zk_E V (zo_i out)) (zm_XC zk_E V zo_x) args s mc ms (fun q => V.2.2.2.1 ≤ q)) 4 zk_E V mc ms 4 [(0, .ref a0), (1, .int i1), (2, .int i2), (3, .int i3)] [] S rc rs := by
  intro n
  induction n with
  | zero => intro i2 i3 S h; cases h
  | succ n ih =>
    intro i2 i3 S h
    rw [zf_X4_lookAtActs_L4] at h
    refine zw_iload_n hX dX4_lookAtActs_4 rfl ?_
    refine zw_aload_n hX dX4_lookAtActs_5 rfl ?_
    obtain ⟨b1, g, h⟩ := zb_some h
    refine zw_getr hX zl_X4_38 dX4_lookAtActs_6 g ?_
    obtain ⟨v2, g, h⟩ := zb_some h
    refine zw_len hX dX4_lookAtActs_9 g ?_
    refine zw_icmp_ge (tgt := 55) hX dX4_lookAtActs_10 (by decide) (fun c10 => ?_) (fun c10 => ?_)
    · rw [if_pos c10] at h
      refine zw_sub (lv' := [(2, .int i2)]) (List.forall_mem_cons.mpr ⟨rfl, zs_nil⟩) ?_
      exact hk _ _ (Option.some.inj h).symm
    · rw [if_neg c10] at h
      refine zw_aload_n hX dX4_lookAtActs_13 rfl ?_
      obtain ⟨b3, g, h⟩ := zb_some h
      refine zw_getr hX zl_X4_38 dX4_lookAtActs_14 g ?_
      refine zw_iload_n hX dX4_lookAtActs_17 rfl ?_
      obtain ⟨v4, g, h⟩ := zb_some h
      refine zw_xi hX dX4_lookAtActs_18 g ?_
      refine zw_iconst (v := (1 : Int32)) hX dX4_lookAtActs_19 (by decide) ?_
      refine zw_icmp_ne (tgt := 49) hX dX4_lookAtActs_20 (by decide) (fun c20 => ?_) (fun c20 => ?_)
      · rw [if_neg c20] at h
        refine zw_iinc (v := (i3 + (1 : Int32))) hX dX4_lookAtActs_49 rfl rfl (by decide) ?_
        refine zw_goto (tgt := 4) hX dX4_lookAtActs_52 (by decide) ?_
        refine zw_sub (lv' := [(0, .ref a0), (1, .int i1), (2, .int i2), (3, .int (i3 + (1 : Int32)))]) (List.forall_mem_cons.mpr ⟨rfl, (List.forall_mem_cons.mpr ⟨rfl, (List.forall_mem_cons.mpr ⟨rfl, (List.forall_mem_cons.mpr ⟨rfl, zs_nil⟩)⟩)⟩)⟩) ?_
        exact ih _ _ _ h
      · rw [if_pos c20] at h
        refine zw_aload_n hX dX4_lookAtActs_23 rfl ?_
        obtain ⟨b5, g, h⟩ := zb_some h
        refine zw_getr hX zl_X4_44 dX4_lookAtActs_24 g ?_
        refine zw_iload_n hX dX4_lookAtActs_27 rfl ?_
        obtain ⟨v6, g, h⟩ := zb_some h
        refine zw_xz hX dX4_lookAtActs_28 g ?_
        refine zw_if_ne (tgt := 49) hX dX4_lookAtActs_29 (by decide) (fun c29 => ?_) (fun c29 => ?_)
        · rw [if_neg c29] at h
          refine zw_iinc (v := (i3 + (1 : Int32))) hX dX4_lookAtActs_49 rfl rfl (by decide) ?_
          refine zw_goto (tgt := 4) hX dX4_lookAtActs_52 (by decide) ?_
          refine zw_sub (lv' := [(0, .ref a0), (1, .int i1), (2, .int i2), (3, .int (i3 + (1 : Int32)))]) (List.forall_mem_cons.mpr ⟨rfl, (List.forall_mem_cons.mpr ⟨rfl, (List.forall_mem_cons.mpr ⟨rfl, (List.forall_mem_cons.mpr ⟨rfl, zs_nil⟩)⟩)⟩)⟩) ?_
          exact ih _ _ _ h
        · rw [if_pos c29] at h
          refine zw_aload_n hX dX4_lookAtActs_32 rfl ?_
          obtain ⟨b7, g, h⟩ := zb_some h
          refine zw_getr hX zl_X4_44 dX4_lookAtActs_33 g ?_
          refine zw_iload_n hX dX4_lookAtActs_36 rfl ?_
          refine zw_iconst (v := (1 : Int32)) hX dX4_lookAtActs_37 (by decide) ?_
          obtain ⟨S8, g, h⟩ := zb_some h
          refine zw_sz hX dX4_lookAtActs_38 g ?_
          refine zw_aload_n hX dX4_lookAtActs_39 rfl ?_
          obtain ⟨b9, g, h⟩ := zb_some h
          refine zw_getr hX zl_X4_41 dX4_lookAtActs_40 g ?_
          refine zw_iload_n hX dX4_lookAtActs_43 rfl ?_
          refine zw_iload_n hX dX4_lookAtActs_44 rfl ?_
          obtain ⟨S10, g, h⟩ := zb_some h
          refine zw_si hX dX4_lookAtActs_45 g ?_
          refine zw_iinc (v := (i2 + (1 : Int32))) hX dX4_lookAtActs_46 rfl rfl (by decide) ?_
          refine zw_iinc (v := (i3 + (1 : Int32))) hX dX4_lookAtActs_49 rfl rfl (by decide) ?_
          refine zw_goto (tgt := 4) hX dX4_lookAtActs_52 (by decide) ?_
          refine zw_sub (lv' := [(0, .ref a0), (1, .int i1), (2, .int (i2 + (1 : Int32))), (3, .int (i3 + (1 : Int32)))]) (List.forall_mem_cons.mpr ⟨rfl, (List.forall_mem_cons.mpr ⟨rfl, (List.forall_mem_cons.mpr ⟨rfl, (List.forall_mem_cons.mpr ⟨rfl, zs_nil⟩)⟩)⟩)⟩) ?_
          exact ih _ _ _ h
def zf_X4_lookAtActs (N : Nat) (a0 : Nat) (i1 : Int32) (S : zm_S) : Option (Int32 × zm_S) := (zf_X4_lookAtActs_L4 N N a0 i1 (0 : Int32) (0 : Int32) S).bind (fun r => match r with | .inl o => some o | .inr (v12, S11) => some (v12, S11))
set_option maxHeartbeats 4000000 in
set_option maxRecDepth 100000 in
theorem zt_X4_lookAtActs {l : Launch} {V : zm_V} {N : Nat} {S : zm_S} {out : (Int32 × zm_S)} {d : Nat} {a0 : Nat} {i1 : Int32} (hd : 1 ≤ d) (h : zf_X4_lookAtActs N a0 i1 S = some out) : zm_Met l zk_E V yX4_lookAtActs (.code yX4_lookAtActs cX4_lookAtActs 4 (some .int)) d [.ref a0, .int i1] S 0 0 (zo_i out) zo_x := by
  refine zm_of (by decide +kernel) (Nat.le_of_ble_eq_true rfl) ?_
  intro p e R s m args below meth c hRR hX hr hxt
  have hR : R.frames = d ∧ R.locals = 64 * d := by rw [hRR]; exact ⟨rfl, rfl⟩
  have hX : zm_X p R s m args meth c RX4 "lookAtActs" cX4_lookAtActs 4 zk_E V 0 0 := hX
  unfold zf_X4_lookAtActs at h
  refine zw_sub (lv' := [(0, .ref a0), (1, .int i1)]) (List.forall_mem_cons.mpr ⟨rfl, (List.forall_mem_cons.mpr ⟨rfl, zs_nil⟩)⟩) ?_
  refine zw_iconst (v := (0 : Int32)) hX dX4_lookAtActs_0 (by decide) ?_
  refine zw_istore_n hX dX4_lookAtActs_1 (by decide) ?_
  refine zw_iconst (v := (0 : Int32)) hX dX4_lookAtActs_2 (by decide) ?_
  refine zw_istore_n hX dX4_lookAtActs_3 (by decide) ?_
  obtain ⟨r, g, h⟩ := zb_some h
  refine zw_sub (lv' := [(0, .ref a0), (1, .int i1), (2, .int (0 : Int32)), (3, .int (0 : Int32))]) (List.forall_mem_cons.mpr ⟨rfl, (List.forall_mem_cons.mpr ⟨rfl, (List.forall_mem_cons.mpr ⟨rfl, (List.forall_mem_cons.mpr ⟨rfl, zs_nil⟩)⟩)⟩)⟩) ?_
  refine zt_X4_lookAtActs_L4 hX hr hR hd (res := r) (out := out) a0 i1 ?_ ?_ N _ _ _ g
  · intro o ho
    subst ho
    exact Option.some.inj h
  · intro v12 S11 hx
    subst hx
    try dsimp only at h
    refine zw_iload_n hX dX4_lookAtActs_55 rfl ?_
    obtain rfl := Option.some.inj h
    exact zw_iret hX hr dX4_lookAtActs_56 rfl ⟨rfl, rfl⟩
def zf_X4_confirmActs_L4 (N : Nat) : Nat → Nat → Int32 → Int32 → zm_S → Option ((Int32 × zm_S) ⊕ ((Int32) × zm_S))
  | 0, _, _, _, _ => none
  | n + 1, a0, i1, i2, S => (zg_r S a0 4 11).bind (fun b1 => (za_n S b1).bind (fun v2 => if v2 ≤ i2 then some (.inr (i1, S)) else (zg_r S a0 4 11).bind (fun b3 => (za_x S 0 b3 i2).bind (fun v4 => if v4 = (1 : Int32) then (zg_r S a0 4 14).bind (fun b5 => (za_x S 2 b5 i2).bind (fun v6 => if v6 = 0 then (zg_r S a0 4 14).bind (fun b7 => (zs_z S b7 i2 (1 : Int32)).bind (fun S8 => zf_X4_confirmActs_L4 N n a0 (i1 + (1 : Int32)) (i2 + (1 : Int32)) S8)) else zf_X4_confirmActs_L4 N n a0 i1 (i2 + (1 : Int32)) S)) else zf_X4_confirmActs_L4 N n a0 i1 (i2 + (1 : Int32)) S))))
set_option maxHeartbeats 4000000 in
set_option maxRecDepth 100000 in
theorem zt_X4_confirmActs_L4 {p : Program} {l : Launch} {e : Env} {R : Room} {s : State} {m : MethodId} {args : Array Value} {below : List Frame} {meth : Method} {c : Code} {V : zm_V} {mc ms d rc rs : Nat} (hX : zm_X p R s m args meth c RX4 "confirmActs" cX4_confirmActs 3 zk_E V mc ms) (hr : meth.sig.returnType = (some .int)) (hR : R.frames = d ∧ R.locals = 64 * d) (hd : 1 ≤ d) {N : Nat} {res : (Int32 × zm_S) ⊕ ((Int32) × zm_S)} {out : (Int32 × zm_S)} (a0 : Nat) (hf : ∀ o, res = .inl o → o = out) (hk : ∀ (x1 : Int32) (S' : zm_S), res = .inr (x1, S') → zw p l e R s m args below meth c (vx_MQ below (zm_Qc zk_E V (zo_i out)) (zm_XC zk_E V zo_x) args s mc ms (fun q => V.2.2.2.1 ≤ q)) 3 zk_E V mc ms 48 [(1, .int x1)] [] S' rc rs) : ∀ (n : Nat) (i1 : Int32) (i2 : Int32) (S : zm_S), zf_X4_confirmActs_L4 N n a0 i1 i2 S = some res → zw p l e R s m args below meth c (vx_MQ below (zm_Qc zk_E V (zo_i out)) (zm_XC zk_E V zo_x) args s mc ms (fun q => V.2.2.2.1 ≤ q)) 3 zk_E V mc ms 4 [(0, .ref a0), (1, .int i1), (2, .int i2)] [] S rc rs := by
  intro n
  induction n with
  | zero => intro i1 i2 S h; cases h
  | succ n ih =>
    intro i1 i2 S h
    rw [zf_X4_confirmActs_L4] at h
    refine zw_iload_n hX dX4_confirmActs_4 rfl ?_
    refine zw_aload_n hX dX4_confirmActs_5 rfl ?_
    obtain ⟨b1, g, h⟩ := zb_some h
    refine zw_getr hX zl_X4_38 dX4_confirmActs_6 g ?_
    obtain ⟨v2, g, h⟩ := zb_some h
    refine zw_len hX dX4_confirmActs_9 g ?_
    refine zw_icmp_ge (tgt := 48) hX dX4_confirmActs_10 (by decide) (fun c10 => ?_) (fun c10 => ?_)
    · rw [if_pos c10] at h
      refine zw_sub (lv' := [(1, .int i1)]) (List.forall_mem_cons.mpr ⟨rfl, zs_nil⟩) ?_
      exact hk _ _ (Option.some.inj h).symm
    · rw [if_neg c10] at h
      refine zw_aload_n hX dX4_confirmActs_13 rfl ?_
      obtain ⟨b3, g, h⟩ := zb_some h
      refine zw_getr hX zl_X4_38 dX4_confirmActs_14 g ?_
      refine zw_iload_n hX dX4_confirmActs_17 rfl ?_
      obtain ⟨v4, g, h⟩ := zb_some h
      refine zw_xi hX dX4_confirmActs_18 g ?_
      refine zw_iconst (v := (1 : Int32)) hX dX4_confirmActs_19 (by decide) ?_
      refine zw_icmp_ne (tgt := 42) hX dX4_confirmActs_20 (by decide) (fun c20 => ?_) (fun c20 => ?_)
      · rw [if_neg c20] at h
        refine zw_iinc (v := (i2 + (1 : Int32))) hX dX4_confirmActs_42 rfl rfl (by decide) ?_
        refine zw_goto (tgt := 4) hX dX4_confirmActs_45 (by decide) ?_
        refine zw_sub (lv' := [(0, .ref a0), (1, .int i1), (2, .int (i2 + (1 : Int32)))]) (List.forall_mem_cons.mpr ⟨rfl, (List.forall_mem_cons.mpr ⟨rfl, (List.forall_mem_cons.mpr ⟨rfl, zs_nil⟩)⟩)⟩) ?_
        exact ih _ _ _ h
      · rw [if_pos c20] at h
        refine zw_aload_n hX dX4_confirmActs_23 rfl ?_
        obtain ⟨b5, g, h⟩ := zb_some h
        refine zw_getr hX zl_X4_47 dX4_confirmActs_24 g ?_
        refine zw_iload_n hX dX4_confirmActs_27 rfl ?_
        obtain ⟨v6, g, h⟩ := zb_some h
        refine zw_xz hX dX4_confirmActs_28 g ?_
        refine zw_if_ne (tgt := 42) hX dX4_confirmActs_29 (by decide) (fun c29 => ?_) (fun c29 => ?_)
        · rw [if_neg c29] at h
          refine zw_iinc (v := (i2 + (1 : Int32))) hX dX4_confirmActs_42 rfl rfl (by decide) ?_
          refine zw_goto (tgt := 4) hX dX4_confirmActs_45 (by decide) ?_
          refine zw_sub (lv' := [(0, .ref a0), (1, .int i1), (2, .int (i2 + (1 : Int32)))]) (List.forall_mem_cons.mpr ⟨rfl, (List.forall_mem_cons.mpr ⟨rfl, (List.forall_mem_cons.mpr ⟨rfl, zs_nil⟩)⟩)⟩) ?_
          exact ih _ _ _ h
        · rw [if_pos c29] at h
          refine zw_aload_n hX dX4_confirmActs_32 rfl ?_
          obtain ⟨b7, g, h⟩ := zb_some h
          refine zw_getr hX zl_X4_47 dX4_confirmActs_33 g ?_
          refine zw_iload_n hX dX4_confirmActs_36 rfl ?_
          refine zw_iconst (v := (1 : Int32)) hX dX4_confirmActs_37 (by decide) ?_
          obtain ⟨S8, g, h⟩ := zb_some h
          refine zw_sz hX dX4_confirmActs_38 g ?_
          refine zw_iinc (v := (i1 + (1 : Int32))) hX dX4_confirmActs_39 rfl rfl (by decide) ?_
          refine zw_iinc (v := (i2 + (1 : Int32))) hX dX4_confirmActs_42 rfl rfl (by decide) ?_
          refine zw_goto (tgt := 4) hX dX4_confirmActs_45 (by decide) ?_
          refine zw_sub (lv' := [(0, .ref a0), (1, .int (i1 + (1 : Int32))), (2, .int (i2 + (1 : Int32)))]) (List.forall_mem_cons.mpr ⟨rfl, (List.forall_mem_cons.mpr ⟨rfl, (List.forall_mem_cons.mpr ⟨rfl, zs_nil⟩)⟩)⟩) ?_
          exact ih _ _ _ h
def zf_X4_confirmActs (N : Nat) (a0 : Nat) (S : zm_S) : Option (Int32 × zm_S) := (zf_X4_confirmActs_L4 N N a0 (0 : Int32) (0 : Int32) S).bind (fun r => match r with | .inl o => some o | .inr (v10, S9) => some (v10, S9))
set_option maxHeartbeats 4000000 in
set_option maxRecDepth 100000 in
theorem zt_X4_confirmActs {l : Launch} {V : zm_V} {N : Nat} {S : zm_S} {out : (Int32 × zm_S)} {d : Nat} {a0 : Nat} (hd : 1 ≤ d) (h : zf_X4_confirmActs N a0 S = some out) : zm_Met l zk_E V yX4_confirmActs (.code yX4_confirmActs cX4_confirmActs 3 (some .int)) d [.ref a0] S 0 0 (zo_i out) zo_x := by
  refine zm_of (by decide +kernel) (Nat.le_of_ble_eq_true rfl) ?_
  intro p e R s m args below meth c hRR hX hr hxt
  have hR : R.frames = d ∧ R.locals = 64 * d := by rw [hRR]; exact ⟨rfl, rfl⟩
  have hX : zm_X p R s m args meth c RX4 "confirmActs" cX4_confirmActs 3 zk_E V 0 0 := hX
  unfold zf_X4_confirmActs at h
  refine zw_sub (lv' := [(0, .ref a0)]) (List.forall_mem_cons.mpr ⟨rfl, zs_nil⟩) ?_
  refine zw_iconst (v := (0 : Int32)) hX dX4_confirmActs_0 (by decide) ?_
  refine zw_istore_n hX dX4_confirmActs_1 (by decide) ?_
  refine zw_iconst (v := (0 : Int32)) hX dX4_confirmActs_2 (by decide) ?_
  refine zw_istore_n hX dX4_confirmActs_3 (by decide) ?_
  obtain ⟨r, g, h⟩ := zb_some h
  refine zw_sub (lv' := [(0, .ref a0), (1, .int (0 : Int32)), (2, .int (0 : Int32))]) (List.forall_mem_cons.mpr ⟨rfl, (List.forall_mem_cons.mpr ⟨rfl, (List.forall_mem_cons.mpr ⟨rfl, zs_nil⟩)⟩)⟩) ?_
  refine zt_X4_confirmActs_L4 hX hr hR hd (res := r) (out := out) a0 ?_ ?_ N _ _ _ g
  · intro o ho
    subst ho
    exact Option.some.inj h
  · intro v10 S9 hx
    subst hx
    try dsimp only at h
    refine zw_iload_n hX dX4_confirmActs_48 rfl ?_
    obtain rfl := Option.some.inj h
    exact zw_iret hX hr dX4_confirmActs_49 rfl ⟨rfl, rfl⟩
def zf_X4_resetLatched_L9 (N : Nat) : Nat → Nat → Int32 → Int32 → Int32 → zm_S → Option ((Int32 × zm_S) ⊕ ((Int32) × zm_S))
  | 0, _, _, _, _, _ => none
  | n + 1, a0, i1, i2, i3, S => (zg_r S a0 4 10).bind (fun b4 => (za_n S b4).bind (fun v5 => if v5 ≤ i3 then some (.inr (i2, S)) else (zg_r S a0 4 10).bind (fun b6 => (za_x S 0 b6 i3).bind (fun v7 => (zg_r S a0 4 11).bind (fun b8 => (za_x S 0 b8 v7).bind (fun v9 => if v9 = (2 : Int32) then (zg_r S a0 4 7).bind (fun b10 => (za_r S b10 v7).bind (fun b11 => (za_x S 0 b11 (4 : Int32)).bind (fun v12 => if v12 = 0 then zf_X4_resetLatched_L9 N n a0 i1 i2 (i3 + (1 : Int32)) S else (zi S a0 4).bind (fun _ => (zf_X4_isCalled N a0 v7 S).bind (fun r15 => if r15.1 = 0 then (zi r15.2 a0 4).bind (fun _ => (zf_X4_setDone N a0 v7 (0 : Int32) i1 r15.2).bind (fun r18 => zf_X4_resetLatched_L9 N n a0 i1 (i2 + (1 : Int32)) (i3 + (1 : Int32)) r18.2)) else zf_X4_resetLatched_L9 N n a0 i1 i2 (i3 + (1 : Int32)) r15.2))))) else zf_X4_resetLatched_L9 N n a0 i1 i2 (i3 + (1 : Int32)) S))))))
set_option maxHeartbeats 4000000 in
set_option maxRecDepth 100000 in
theorem zt_X4_resetLatched_L9 {p : Program} {l : Launch} {e : Env} {R : Room} {s : State} {m : MethodId} {args : Array Value} {below : List Frame} {meth : Method} {c : Code} {V : zm_V} {mc ms d rc rs : Nat} (hX : zm_X p R s m args meth c RX4 "resetLatched" cX4_resetLatched 5 zk_E V mc ms) (hr : meth.sig.returnType = (some .int)) (hR : R.frames = d ∧ R.locals = 64 * d) (hd : 5 ≤ d) {N : Nat} {res : (Int32 × zm_S) ⊕ ((Int32) × zm_S)} {out : (Int32 × zm_S)} (a0 : Nat) (i1 : Int32) (hf : ∀ o, res = .inl o → o = out) (hk : ∀ (x2 : Int32) (S' : zm_S), res = .inr (x2, S') → zw p l e R s m args below meth c (vx_MQ below (zm_Qc zk_E V (zo_i out)) (zm_XC zk_E V zo_x) args s mc ms (fun q => V.2.2.2.1 ≤ q)) 5 zk_E V mc ms 75 [(2, .int x2)] [] S' rc rs) : ∀ (n : Nat) (i2 : Int32) (i3 : Int32) (S : zm_S), zf_X4_resetLatched_L9 N n a0 i1 i2 i3 S = some res → zw p l e R s m args below meth c (vx_MQ below (zm_Qc zk_E V (zo_i out)) (zm_XC zk_E V zo_x) args s mc ms (fun q => V.2.2.2.1 ≤ q)) 5 zk_E V mc ms 9 [(0, .ref a0), (1, .int i1), (2, .int i2), (3, .int i3)] [] S rc rs := by
  intro n
  induction n with
  | zero => intro i2 i3 S h; cases h
  | succ n ih =>
    intro i2 i3 S h
    rw [zf_X4_resetLatched_L9] at h
    refine zw_iload_n hX dX4_resetLatched_9 rfl ?_
    refine zw_aload_n hX dX4_resetLatched_10 rfl ?_
    obtain ⟨b4, g, h⟩ := zb_some h
    refine zw_getr hX zl_X4_35 dX4_resetLatched_11 g ?_
    obtain ⟨v5, g, h⟩ := zb_some h
    refine zw_len hX dX4_resetLatched_14 g ?_
    refine zw_icmp_ge (tgt := 75) hX dX4_resetLatched_15 (by decide) (fun c15 => ?_) (fun c15 => ?_)
    · rw [if_pos c15] at h
      refine zw_sub (lv' := [(2, .int i2)]) (List.forall_mem_cons.mpr ⟨rfl, zs_nil⟩) ?_
      exact hk _ _ (Option.some.inj h).symm
    · rw [if_neg c15] at h
      refine zw_aload_n hX dX4_resetLatched_18 rfl ?_
      obtain ⟨b6, g, h⟩ := zb_some h
      refine zw_getr hX zl_X4_35 dX4_resetLatched_19 g ?_
      refine zw_iload_n hX dX4_resetLatched_22 rfl ?_
      obtain ⟨v7, g, h⟩ := zb_some h
      refine zw_xi hX dX4_resetLatched_23 g ?_
      refine zw_istore hX dX4_resetLatched_24 (by decide) ?_
      refine zw_aload_n hX dX4_resetLatched_26 rfl ?_
      obtain ⟨b8, g, h⟩ := zb_some h
      refine zw_getr hX zl_X4_38 dX4_resetLatched_27 g ?_
      refine zw_iload hX dX4_resetLatched_30 rfl ?_
      obtain ⟨v9, g, h⟩ := zb_some h
      refine zw_xi hX dX4_resetLatched_32 g ?_
      refine zw_iconst (v := (2 : Int32)) hX dX4_resetLatched_33 (by decide) ?_
      refine zw_icmp_ne (tgt := 69) hX dX4_resetLatched_34 (by decide) (fun c34 => ?_) (fun c34 => ?_)
      · rw [if_neg c34] at h
        refine zw_iinc (v := (i3 + (1 : Int32))) hX dX4_resetLatched_69 rfl rfl (by decide) ?_
        refine zw_goto (tgt := 9) hX dX4_resetLatched_72 (by decide) ?_
        refine zw_sub (lv' := [(0, .ref a0), (1, .int i1), (2, .int i2), (3, .int (i3 + (1 : Int32)))]) (List.forall_mem_cons.mpr ⟨rfl, (List.forall_mem_cons.mpr ⟨rfl, (List.forall_mem_cons.mpr ⟨rfl, (List.forall_mem_cons.mpr ⟨rfl, zs_nil⟩)⟩)⟩)⟩) ?_
        exact ih _ _ _ h
      · rw [if_pos c34] at h
        refine zw_aload_n hX dX4_resetLatched_37 rfl ?_
        obtain ⟨b10, g, h⟩ := zb_some h
        refine zw_getr hX zl_X4_29 dX4_resetLatched_38 g ?_
        refine zw_iload hX dX4_resetLatched_41 rfl ?_
        obtain ⟨b11, g, h⟩ := zb_some h
        refine zw_xr hX dX4_resetLatched_43 g ?_
        refine zw_iconst (v := (4 : Int32)) hX dX4_resetLatched_44 (by decide) ?_
        obtain ⟨v12, g, h⟩ := zb_some h
        refine zw_xi hX dX4_resetLatched_45 g ?_
        refine zw_if_eq (tgt := 69) hX dX4_resetLatched_46 (by decide) (fun c46 => ?_) (fun c46 => ?_)
        · rw [if_pos c46] at h
          refine zw_iinc (v := (i3 + (1 : Int32))) hX dX4_resetLatched_69 rfl rfl (by decide) ?_
          refine zw_goto (tgt := 9) hX dX4_resetLatched_72 (by decide) ?_
          refine zw_sub (lv' := [(0, .ref a0), (1, .int i1), (2, .int i2), (3, .int (i3 + (1 : Int32)))]) (List.forall_mem_cons.mpr ⟨rfl, (List.forall_mem_cons.mpr ⟨rfl, (List.forall_mem_cons.mpr ⟨rfl, (List.forall_mem_cons.mpr ⟨rfl, zs_nil⟩)⟩)⟩)⟩) ?_
          exact ih _ _ _ h
        · rw [if_neg c46] at h
          refine zw_aload_n hX dX4_resetLatched_49 rfl ?_
          refine zw_iload hX dX4_resetLatched_50 rfl ?_
          obtain ⟨_, gi, h⟩ := zb_some h
          obtain ⟨r15, g, h⟩ := zb_some h
          refine zc_Vi (as := [.int v7]) hX gi (zt_X4_isCalled (d := d - 1) (by omega) g) zl_X4_130 rfl dX4_resetLatched_52 ⟨rfl, rfl, Nat.le_of_ble_eq_true rfl⟩ ⟨by omega, by omega⟩ ?_
          refine zw_if_ne (tgt := 69) hX dX4_resetLatched_55 (by decide) (fun c55 => ?_) (fun c55 => ?_)
          · rw [if_neg c55] at h
            refine zw_iinc (v := (i3 + (1 : Int32))) hX dX4_resetLatched_69 rfl rfl (by decide) ?_
            refine zw_goto (tgt := 9) hX dX4_resetLatched_72 (by decide) ?_
            refine zw_sub (lv' := [(0, .ref a0), (1, .int i1), (2, .int i2), (3, .int (i3 + (1 : Int32)))]) (List.forall_mem_cons.mpr ⟨rfl, (List.forall_mem_cons.mpr ⟨rfl, (List.forall_mem_cons.mpr ⟨rfl, (List.forall_mem_cons.mpr ⟨rfl, zs_nil⟩)⟩)⟩)⟩) ?_
            exact ih _ _ _ h
          · rw [if_pos c55] at h
            refine zw_aload_n hX dX4_resetLatched_58 rfl ?_
            refine zw_iload hX dX4_resetLatched_59 rfl ?_
            refine zw_iconst (v := (0 : Int32)) hX dX4_resetLatched_61 (by decide) ?_
            refine zw_iload_n hX dX4_resetLatched_62 rfl ?_
            obtain ⟨_, gi, h⟩ := zb_some h
            obtain ⟨r18, g, h⟩ := zb_some h
            refine zc_Vv (as := [.int v7, .int (0 : Int32), .int i1]) hX gi (zt_X4_setDone (d := d - 1) (by omega) g) zl_X4_133 rfl dX4_resetLatched_63 ⟨rfl, rfl, Nat.le_of_ble_eq_true rfl⟩ ⟨by omega, by omega⟩ ?_
            refine zw_iinc (v := (i2 + (1 : Int32))) hX dX4_resetLatched_66 rfl rfl (by decide) ?_
            refine zw_iinc (v := (i3 + (1 : Int32))) hX dX4_resetLatched_69 rfl rfl (by decide) ?_
            refine zw_goto (tgt := 9) hX dX4_resetLatched_72 (by decide) ?_
            refine zw_sub (lv' := [(0, .ref a0), (1, .int i1), (2, .int (i2 + (1 : Int32))), (3, .int (i3 + (1 : Int32)))]) (List.forall_mem_cons.mpr ⟨rfl, (List.forall_mem_cons.mpr ⟨rfl, (List.forall_mem_cons.mpr ⟨rfl, (List.forall_mem_cons.mpr ⟨rfl, zs_nil⟩)⟩)⟩)⟩) ?_
            exact ih _ _ _ h
def zf_X4_resetLatched (N : Nat) (a0 : Nat) (i1 : Int32) (S : zm_S) : Option (Int32 × zm_S) := (zi S a0 4).bind (fun _ => (zf_X4_lookAtZones N a0 i1 S).bind (fun r3 => (zf_X4_resetLatched_L9 N N a0 i1 (0 : Int32) (0 : Int32) r3.2).bind (fun r => match r with | .inl o => some o | .inr (v20, S19) => some (v20, S19))))
set_option maxHeartbeats 4000000 in
set_option maxRecDepth 100000 in
theorem zt_X4_resetLatched {l : Launch} {V : zm_V} {N : Nat} {S : zm_S} {out : (Int32 × zm_S)} {d : Nat} {a0 : Nat} {i1 : Int32} (hd : 5 ≤ d) (h : zf_X4_resetLatched N a0 i1 S = some out) : zm_Met l zk_E V yX4_resetLatched (.code yX4_resetLatched cX4_resetLatched 5 (some .int)) d [.ref a0, .int i1] S 0 0 (zo_i out) zo_x := by
  refine zm_of (by decide +kernel) (Nat.le_of_ble_eq_true rfl) ?_
  intro p e R s m args below meth c hRR hX hr hxt
  have hR : R.frames = d ∧ R.locals = 64 * d := by rw [hRR]; exact ⟨rfl, rfl⟩
  have hX : zm_X p R s m args meth c RX4 "resetLatched" cX4_resetLatched 5 zk_E V 0 0 := hX
  unfold zf_X4_resetLatched at h
  refine zw_sub (lv' := [(0, .ref a0), (1, .int i1)]) (List.forall_mem_cons.mpr ⟨rfl, (List.forall_mem_cons.mpr ⟨rfl, zs_nil⟩)⟩) ?_
  refine zw_iconst (v := (0 : Int32)) hX dX4_resetLatched_0 (by decide) ?_
  refine zw_istore_n hX dX4_resetLatched_1 (by decide) ?_
  refine zw_aload_n hX dX4_resetLatched_2 rfl ?_
  refine zw_iload_n hX dX4_resetLatched_3 rfl ?_
  obtain ⟨_, gi, h⟩ := zb_some h
  obtain ⟨r3, g, h⟩ := zb_some h
  refine zc_Vv (as := [.int i1]) hX gi (zt_X4_lookAtZones (d := d - 1) (by omega) g) zl_X4_119 rfl dX4_resetLatched_4 ⟨rfl, rfl, Nat.le_of_ble_eq_true rfl⟩ ⟨by omega, by omega⟩ ?_
  refine zw_iconst (v := (0 : Int32)) hX dX4_resetLatched_7 (by decide) ?_
  refine zw_istore_n hX dX4_resetLatched_8 (by decide) ?_
  obtain ⟨r, g, h⟩ := zb_some h
  refine zw_sub (lv' := [(0, .ref a0), (1, .int i1), (2, .int (0 : Int32)), (3, .int (0 : Int32))]) (List.forall_mem_cons.mpr ⟨rfl, (List.forall_mem_cons.mpr ⟨rfl, (List.forall_mem_cons.mpr ⟨rfl, (List.forall_mem_cons.mpr ⟨rfl, zs_nil⟩)⟩)⟩)⟩) ?_
  refine zt_X4_resetLatched_L9 hX hr hR hd (res := r) (out := out) a0 i1 ?_ ?_ N _ _ _ g
  · intro o ho
    subst ho
    exact Option.some.inj h
  · intro v20 S19 hx
    subst hx
    try dsimp only at h
    refine zw_iload_n hX dX4_resetLatched_75 rfl ?_
    obtain rfl := Option.some.inj h
    exact zw_iret hX hr dX4_resetLatched_76 rfl ⟨rfl, rfl⟩
def zf_X4_isKindDone_L2 (N : Nat) : Nat → Nat → Int32 → Int32 → zm_S → Option ((Int32 × zm_S) ⊕ ((Unit) × zm_S))
  | 0, _, _, _, _ => none
  | n + 1, a0, i1, i2, S => (zg_r S a0 4 11).bind (fun b1 => (za_n S b1).bind (fun v2 => if v2 ≤ i2 then some (.inr ((), S)) else (zg_r S a0 4 11).bind (fun b3 => (za_x S 0 b3 i2).bind (fun v4 => if v4 = (2 : Int32) then (zg_r S a0 4 7).bind (fun b5 => (za_r S b5 i2).bind (fun b6 => (za_x S 0 b6 (1 : Int32)).bind (fun v7 => if v7 = i1 then some (.inl ((1 : Int32), S)) else zf_X4_isKindDone_L2 N n a0 i1 (i2 + (1 : Int32)) S))) else zf_X4_isKindDone_L2 N n a0 i1 (i2 + (1 : Int32)) S))))
set_option maxHeartbeats 4000000 in
set_option maxRecDepth 100000 in
theorem zt_X4_isKindDone_L2 {p : Program} {l : Launch} {e : Env} {R : Room} {s : State} {m : MethodId} {args : Array Value} {below : List Frame} {meth : Method} {c : Code} {V : zm_V} {mc ms d rc rs : Nat} (hX : zm_X p R s m args meth c RX4 "isKindDone" cX4_isKindDone 3 zk_E V mc ms) (hr : meth.sig.returnType = (some .boolean)) (hR : R.frames = d ∧ R.locals = 64 * d) (hd : 1 ≤ d) {N : Nat} {res : (Int32 × zm_S) ⊕ ((Unit) × zm_S)} {out : (Int32 × zm_S)} (a0 : Nat) (i1 : Int32) (hf : ∀ o, res = .inl o → o = out) (hk : ∀ (S' : zm_S), res = .inr ((), S') → zw p l e R s m args below meth c (vx_MQ below (zm_Qc zk_E V (zo_i out)) (zm_XC zk_E V zo_x) args s mc ms (fun q => V.2.2.2.1 ≤ q)) 3 zk_E V mc ms 41 [] [] S' rc rs) : ∀ (n : Nat) (i2 : Int32) (S : zm_S), zf_X4_isKindDone_L2 N n a0 i1 i2 S = some res → zw p l e R s m args below meth c (vx_MQ below (zm_Qc zk_E V (zo_i out)) (zm_XC zk_E V zo_x) args s mc ms (fun q => V.2.2.2.1 ≤ q)) 3 zk_E V mc ms 2 [(0, .ref a0), (1, .int i1), (2, .int i2)] [] S rc rs := by
  intro n
  induction n with
  | zero => intro i2 S h; cases h
  | succ n ih =>
    intro i2 S h
    rw [zf_X4_isKindDone_L2] at h
    refine zw_iload_n hX dX4_isKindDone_2 rfl ?_
    refine zw_aload_n hX dX4_isKindDone_3 rfl ?_
    obtain ⟨b1, g, h⟩ := zb_some h
    refine zw_getr hX zl_X4_38 dX4_isKindDone_4 g ?_
    obtain ⟨v2, g, h⟩ := zb_some h
    refine zw_len hX dX4_isKindDone_7 g ?_
    refine zw_icmp_ge (tgt := 41) hX dX4_isKindDone_8 (by decide) (fun c8 => ?_) (fun c8 => ?_)
    · rw [if_pos c8] at h
      refine zw_sub (lv' := []) zs_nil ?_
      exact hk  _ (Option.some.inj h).symm
    · rw [if_neg c8] at h
      refine zw_aload_n hX dX4_isKindDone_11 rfl ?_
      obtain ⟨b3, g, h⟩ := zb_some h
      refine zw_getr hX zl_X4_38 dX4_isKindDone_12 g ?_
      refine zw_iload_n hX dX4_isKindDone_15 rfl ?_
      obtain ⟨v4, g, h⟩ := zb_some h
      refine zw_xi hX dX4_isKindDone_16 g ?_
      refine zw_iconst (v := (2 : Int32)) hX dX4_isKindDone_17 (by decide) ?_
      refine zw_icmp_ne (tgt := 35) hX dX4_isKindDone_18 (by decide) (fun c18 => ?_) (fun c18 => ?_)
      · rw [if_neg c18] at h
        refine zw_iinc (v := (i2 + (1 : Int32))) hX dX4_isKindDone_35 rfl rfl (by decide) ?_
        refine zw_goto (tgt := 2) hX dX4_isKindDone_38 (by decide) ?_
        refine zw_sub (lv' := [(0, .ref a0), (1, .int i1), (2, .int (i2 + (1 : Int32)))]) (List.forall_mem_cons.mpr ⟨rfl, (List.forall_mem_cons.mpr ⟨rfl, (List.forall_mem_cons.mpr ⟨rfl, zs_nil⟩)⟩)⟩) ?_
        exact ih _ _ h
      · rw [if_pos c18] at h
        refine zw_aload_n hX dX4_isKindDone_21 rfl ?_
        obtain ⟨b5, g, h⟩ := zb_some h
        refine zw_getr hX zl_X4_29 dX4_isKindDone_22 g ?_
        refine zw_iload_n hX dX4_isKindDone_25 rfl ?_
        obtain ⟨b6, g, h⟩ := zb_some h
        refine zw_xr hX dX4_isKindDone_26 g ?_
        refine zw_iconst (v := (1 : Int32)) hX dX4_isKindDone_27 (by decide) ?_
        obtain ⟨v7, g, h⟩ := zb_some h
        refine zw_xi hX dX4_isKindDone_28 g ?_
        refine zw_iload_n hX dX4_isKindDone_29 rfl ?_
        refine zw_icmp_ne (tgt := 35) hX dX4_isKindDone_30 (by decide) (fun c30 => ?_) (fun c30 => ?_)
        · rw [if_neg c30] at h
          refine zw_iinc (v := (i2 + (1 : Int32))) hX dX4_isKindDone_35 rfl rfl (by decide) ?_
          refine zw_goto (tgt := 2) hX dX4_isKindDone_38 (by decide) ?_
          refine zw_sub (lv' := [(0, .ref a0), (1, .int i1), (2, .int (i2 + (1 : Int32)))]) (List.forall_mem_cons.mpr ⟨rfl, (List.forall_mem_cons.mpr ⟨rfl, (List.forall_mem_cons.mpr ⟨rfl, zs_nil⟩)⟩)⟩) ?_
          exact ih _ _ h
        · rw [if_pos c30] at h
          refine zw_iconst (v := (1 : Int32)) hX dX4_isKindDone_33 (by decide) ?_
          have hz := hf _ (Option.some.inj h).symm
          subst hz
          exact zw_iret hX hr dX4_isKindDone_34 rfl ⟨rfl, rfl⟩
def zf_X4_isKindDone (N : Nat) (a0 : Nat) (i1 : Int32) (S : zm_S) : Option (Int32 × zm_S) := (zf_X4_isKindDone_L2 N N a0 i1 (0 : Int32) S).bind (fun r => match r with | .inl o => some o | .inr (_, S8) => some ((0 : Int32), S8))
set_option maxHeartbeats 4000000 in
set_option maxRecDepth 100000 in
theorem zt_X4_isKindDone {l : Launch} {V : zm_V} {N : Nat} {S : zm_S} {out : (Int32 × zm_S)} {d : Nat} {a0 : Nat} {i1 : Int32} (hd : 1 ≤ d) (h : zf_X4_isKindDone N a0 i1 S = some out) : zm_Met l zk_E V yX4_isKindDone (.code yX4_isKindDone cX4_isKindDone 3 (some .boolean)) d [.ref a0, .int i1] S 0 0 (zo_i out) zo_x := by
  refine zm_of (by decide +kernel) (Nat.le_of_ble_eq_true rfl) ?_
  intro p e R s m args below meth c hRR hX hr hxt
  have hR : R.frames = d ∧ R.locals = 64 * d := by rw [hRR]; exact ⟨rfl, rfl⟩
  have hX : zm_X p R s m args meth c RX4 "isKindDone" cX4_isKindDone 3 zk_E V 0 0 := hX
  unfold zf_X4_isKindDone at h
  refine zw_sub (lv' := [(0, .ref a0), (1, .int i1)]) (List.forall_mem_cons.mpr ⟨rfl, (List.forall_mem_cons.mpr ⟨rfl, zs_nil⟩)⟩) ?_
  refine zw_iconst (v := (0 : Int32)) hX dX4_isKindDone_0 (by decide) ?_
  refine zw_istore_n hX dX4_isKindDone_1 (by decide) ?_
  obtain ⟨r, g, h⟩ := zb_some h
  refine zw_sub (lv' := [(0, .ref a0), (1, .int i1), (2, .int (0 : Int32))]) (List.forall_mem_cons.mpr ⟨rfl, (List.forall_mem_cons.mpr ⟨rfl, (List.forall_mem_cons.mpr ⟨rfl, zs_nil⟩)⟩)⟩) ?_
  refine zt_X4_isKindDone_L2 hX hr hR hd (res := r) (out := out) a0 i1 ?_ ?_ N _ _ g
  · intro o ho
    subst ho
    exact Option.some.inj h
  · intro  S8 hx
    subst hx
    try dsimp only at h
    refine zw_iconst (v := (0 : Int32)) hX dX4_isKindDone_41 (by decide) ?_
    obtain rfl := Option.some.inj h
    exact zw_iret hX hr dX4_isKindDone_42 rfl ⟨rfl, rfl⟩
def zf_X4_countDone_J29 (N : Nat) (k : Nat → Int32 → Int32 → zm_S → Option ((Int32 × zm_S) ⊕ ((Int32) × zm_S))) (a0 : Nat) (i2 : Int32) (t0 : Int32) (t1 : Int32) (S : zm_S) : Option ((Int32 × zm_S) ⊕ ((Int32) × zm_S)) := k a0 (t0 + t1) (i2 + (1 : Int32)) S
set_option maxHeartbeats 4000000 in
set_option maxRecDepth 100000 in
theorem zt_X4_countDone_J29 {p : Program} {l : Launch} {e : Env} {R : Room} {s : State} {m : MethodId} {args : Array Value} {below : List Frame} {meth : Method} {c : Code} {V : zm_V} {mc ms d rc rs : Nat} (hX : zm_X p R s m args meth c RX4 "countDone" cX4_countDone 3 zk_E V mc ms) (hr : meth.sig.returnType = (some .int)) (hR : R.frames = d ∧ R.locals = 64 * d) (hd : 1 ≤ d) {N : Nat} {k : Nat → Int32 → Int32 → zm_S → Option ((Int32 × zm_S) ⊕ ((Int32) × zm_S))} {a0 : Nat} {i2 : Int32} {t0 : Int32} {t1 : Int32} {res : (Int32 × zm_S) ⊕ ((Int32) × zm_S)} {out : (Int32 × zm_S)}   (hf : ∀ o, res = .inl o → o = out) (hk : ∀ (x1 : Int32) (S' : zm_S), res = .inr (x1, S') → zw p l e R s m args below meth c (vx_MQ below (zm_Qc zk_E V (zo_i out)) (zm_XC zk_E V zo_x) args s mc ms (fun q => V.2.2.2.1 ≤ q)) 3 zk_E V mc ms 37 [(1, .int x1)] [] S' rc rs) (hrec : ∀ (i1' : Int32) (i2' : Int32) (S : zm_S), k a0 i1' i2' S = some res → zw p l e R s m args below meth c (vx_MQ below (zm_Qc zk_E V (zo_i out)) (zm_XC zk_E V zo_x) args s mc ms (fun q => V.2.2.2.1 ≤ q)) 3 zk_E V mc ms 4 [(0, .ref a0), (1, .int i1'), (2, .int i2')] [] S rc rs) {S : zm_S} (h : zf_X4_countDone_J29 N k a0 i2 t0 t1 S = some res) : zw p l e R s m args below meth c (vx_MQ below (zm_Qc zk_E V (zo_i out)) (zm_XC zk_E V zo_x) args s mc ms (fun q => V.2.2.2.1 ≤ q)) 3 zk_E V mc ms 29 [(0, .ref a0), (2, .int i2)] [.int t1, .int t0] S rc rs := by
  unfold zf_X4_countDone_J29 at h
  refine zw_iadd hX dX4_countDone_29 ?_
  refine zw_istore_n hX dX4_countDone_30 (by decide) ?_
  refine zw_iinc (v := (i2 + (1 : Int32))) hX dX4_countDone_31 rfl rfl (by decide) ?_
  refine zw_goto (tgt := 4) hX dX4_countDone_34 (by decide) ?_
  refine zw_sub (lv' := [(0, .ref a0), (1, .int (t0 + t1)), (2, .int (i2 + (1 : Int32)))]) (List.forall_mem_cons.mpr ⟨rfl, (List.forall_mem_cons.mpr ⟨rfl, (List.forall_mem_cons.mpr ⟨rfl, zs_nil⟩)⟩)⟩) ?_
  exact hrec _ _ _ h
def zf_X4_countDone_L4 (N : Nat) : Nat → Nat → Int32 → Int32 → zm_S → Option ((Int32 × zm_S) ⊕ ((Int32) × zm_S))
  | 0, _, _, _, _ => none
  | n + 1, a0, i1, i2, S => (zg_r S a0 4 11).bind (fun b1 => (za_n S b1).bind (fun v2 => if v2 ≤ i2 then some (.inr (i1, S)) else (zg_r S a0 4 11).bind (fun b3 => (za_x S 0 b3 i2).bind (fun v4 => if v4 = (2 : Int32) then zf_X4_countDone_J29 N (zf_X4_countDone_L4 N n) a0 i2 i1 (1 : Int32) S else zf_X4_countDone_J29 N (zf_X4_countDone_L4 N n) a0 i2 i1 (0 : Int32) S))))
set_option maxHeartbeats 4000000 in
set_option maxRecDepth 100000 in
theorem zt_X4_countDone_L4 {p : Program} {l : Launch} {e : Env} {R : Room} {s : State} {m : MethodId} {args : Array Value} {below : List Frame} {meth : Method} {c : Code} {V : zm_V} {mc ms d rc rs : Nat} (hX : zm_X p R s m args meth c RX4 "countDone" cX4_countDone 3 zk_E V mc ms) (hr : meth.sig.returnType = (some .int)) (hR : R.frames = d ∧ R.locals = 64 * d) (hd : 1 ≤ d) {N : Nat} {res : (Int32 × zm_S) ⊕ ((Int32) × zm_S)} {out : (Int32 × zm_S)} (a0 : Nat) (hf : ∀ o, res = .inl o → o = out) (hk : ∀ (x1 : Int32) (S' : zm_S), res = .inr (x1, S') → zw p l e R s m args below meth c (vx_MQ below (zm_Qc zk_E V (zo_i out)) (zm_XC zk_E V zo_x) args s mc ms (fun q => V.2.2.2.1 ≤ q)) 3 zk_E V mc ms 37 [(1, .int x1)] [] S' rc rs) : ∀ (n : Nat) (i1 : Int32) (i2 : Int32) (S : zm_S), zf_X4_countDone_L4 N n a0 i1 i2 S = some res → zw p l e R s m args below meth c (vx_MQ below (zm_Qc zk_E V (zo_i out)) (zm_XC zk_E V zo_x) args s mc ms (fun q => V.2.2.2.1 ≤ q)) 3 zk_E V mc ms 4 [(0, .ref a0), (1, .int i1), (2, .int i2)] [] S rc rs := by
  intro n
  induction n with
  | zero => intro i1 i2 S h; cases h
  | succ n ih =>
    intro i1 i2 S h
    rw [zf_X4_countDone_L4] at h
    refine zw_iload_n hX dX4_countDone_4 rfl ?_
    refine zw_aload_n hX dX4_countDone_5 rfl ?_
    obtain ⟨b1, g, h⟩ := zb_some h
    refine zw_getr hX zl_X4_38 dX4_countDone_6 g ?_
    obtain ⟨v2, g, h⟩ := zb_some h
    refine zw_len hX dX4_countDone_9 g ?_
    refine zw_icmp_ge (tgt := 37) hX dX4_countDone_10 (by decide) (fun c10 => ?_) (fun c10 => ?_)
    · rw [if_pos c10] at h
      refine zw_sub (lv' := [(1, .int i1)]) (List.forall_mem_cons.mpr ⟨rfl, zs_nil⟩) ?_
      exact hk _ _ (Option.some.inj h).symm
    · rw [if_neg c10] at h
      refine zw_iload_n hX dX4_countDone_13 rfl ?_
      refine zw_aload_n hX dX4_countDone_14 rfl ?_
      obtain ⟨b3, g, h⟩ := zb_some h
      refine zw_getr hX zl_X4_38 dX4_countDone_15 g ?_
      refine zw_iload_n hX dX4_countDone_18 rfl ?_
      obtain ⟨v4, g, h⟩ := zb_some h
      refine zw_xi hX dX4_countDone_19 g ?_
      refine zw_iconst (v := (2 : Int32)) hX dX4_countDone_20 (by decide) ?_
      refine zw_icmp_ne (tgt := 28) hX dX4_countDone_21 (by decide) (fun c21 => ?_) (fun c21 => ?_)
      · rw [if_neg c21] at h
        refine zw_iconst (v := (0 : Int32)) hX dX4_countDone_28 (by decide) ?_
        refine zw_sub (lv' := [(0, .ref a0), (2, .int i2)]) (List.forall_mem_cons.mpr ⟨rfl, (List.forall_mem_cons.mpr ⟨rfl, zs_nil⟩)⟩) ?_
        exact zt_X4_countDone_J29 hX hr hR hd hf hk ih h
      · rw [if_pos c21] at h
        refine zw_iconst (v := (1 : Int32)) hX dX4_countDone_24 (by decide) ?_
        refine zw_goto (tgt := 29) hX dX4_countDone_25 (by decide) ?_
        refine zw_sub (lv' := [(0, .ref a0), (2, .int i2)]) (List.forall_mem_cons.mpr ⟨rfl, (List.forall_mem_cons.mpr ⟨rfl, zs_nil⟩)⟩) ?_
        exact zt_X4_countDone_J29 hX hr hR hd hf hk ih h
def zf_X4_countDone (N : Nat) (a0 : Nat) (S : zm_S) : Option (Int32 × zm_S) := (zf_X4_countDone_L4 N N a0 (0 : Int32) (0 : Int32) S).bind (fun r => match r with | .inl o => some o | .inr (v6, S5) => some (v6, S5))
set_option maxHeartbeats 4000000 in
set_option maxRecDepth 100000 in
theorem zt_X4_countDone {l : Launch} {V : zm_V} {N : Nat} {S : zm_S} {out : (Int32 × zm_S)} {d : Nat} {a0 : Nat} (hd : 1 ≤ d) (h : zf_X4_countDone N a0 S = some out) : zm_Met l zk_E V yX4_countDone (.code yX4_countDone cX4_countDone 3 (some .int)) d [.ref a0] S 0 0 (zo_i out) zo_x := by
  refine zm_of (by decide +kernel) (Nat.le_of_ble_eq_true rfl) ?_
  intro p e R s m args below meth c hRR hX hr hxt
  have hR : R.frames = d ∧ R.locals = 64 * d := by rw [hRR]; exact ⟨rfl, rfl⟩
  have hX : zm_X p R s m args meth c RX4 "countDone" cX4_countDone 3 zk_E V 0 0 := hX
  unfold zf_X4_countDone at h
  refine zw_sub (lv' := [(0, .ref a0)]) (List.forall_mem_cons.mpr ⟨rfl, zs_nil⟩) ?_
  refine zw_iconst (v := (0 : Int32)) hX dX4_countDone_0 (by decide) ?_
  refine zw_istore_n hX dX4_countDone_1 (by decide) ?_
  refine zw_iconst (v := (0 : Int32)) hX dX4_countDone_2 (by decide) ?_
  refine zw_istore_n hX dX4_countDone_3 (by decide) ?_
  obtain ⟨r, g, h⟩ := zb_some h
  refine zw_sub (lv' := [(0, .ref a0), (1, .int (0 : Int32)), (2, .int (0 : Int32))]) (List.forall_mem_cons.mpr ⟨rfl, (List.forall_mem_cons.mpr ⟨rfl, (List.forall_mem_cons.mpr ⟨rfl, zs_nil⟩)⟩)⟩) ?_
  refine zt_X4_countDone_L4 hX hr hR hd (res := r) (out := out) a0 ?_ ?_ N _ _ _ g
  · intro o ho
    subst ho
    exact Option.some.inj h
  · intro v6 S5 hx
    subst hx
    try dsimp only at h
    refine zw_iload_n hX dX4_countDone_37 rfl ?_
    obtain rfl := Option.some.inj h
    exact zw_iret hX hr dX4_countDone_38 rfl ⟨rfl, rfl⟩
def zf_X4_actFact (N : Nat) (a0 : Nat) (i1 : Int32) (i2 : Int32) (S : zm_S) : Option (Int32 × zm_S) := if (i2).toInt = 0 then (zg_r S a0 4 11).bind (fun b4 => (za_x S 0 b4 i1).bind (fun v5 => some (v5, S))) else if (i2).toInt = 1 then (zg_r S a0 4 11).bind (fun b6 => (za_x S 0 b6 i1).bind (fun v7 => if v7 = (1 : Int32) then (zg_r S a0 4 12).bind (fun b8 => (za_x S 0 b8 i1).bind (fun v9 => some (v9, S))) else some ((-1 : Int32), S))) else if (i2).toInt = 2 then (zg_r S a0 4 7).bind (fun b10 => (za_r S b10 i1).bind (fun b11 => (za_x S 0 b11 (1 : Int32)).bind (fun v12 => some (v12, S)))) else if (i2).toInt = 3 then (zg_r S a0 4 7).bind (fun b13 => (za_r S b13 i1).bind (fun b14 => (za_x S 0 b14 (2 : Int32)).bind (fun v15 => some (v15, S)))) else if (i2).toInt = 4 then (zg_r S a0 4 7).bind (fun b16 => (za_r S b16 i1).bind (fun b17 => (za_x S 0 b17 (3 : Int32)).bind (fun v18 => some (v18, S)))) else (zg_r S a0 4 7).bind (fun b1 => (za_r S b1 i1).bind (fun b2 => (za_x S 0 b2 (4 : Int32)).bind (fun v3 => some (v3, S))))
set_option maxHeartbeats 4000000 in
set_option maxRecDepth 100000 in
theorem zt_X4_actFact {l : Launch} {V : zm_V} {N : Nat} {S : zm_S} {out : (Int32 × zm_S)} {d : Nat} {a0 : Nat} {i1 : Int32} {i2 : Int32} (hd : 1 ≤ d) (h : zf_X4_actFact N a0 i1 i2 S = some out) : zm_Met l zk_E V yX4_actFact (.code yX4_actFact cX4_actFact 3 (some .int)) d [.ref a0, .int i1, .int i2] S 0 0 (zo_i out) zo_x := by
  refine zm_of (by decide +kernel) (Nat.le_of_ble_eq_true rfl) ?_
  intro p e R s m args below meth c hRR hX hr hxt
  have hR : R.frames = d ∧ R.locals = 64 * d := by rw [hRR]; exact ⟨rfl, rfl⟩
  have hX : zm_X p R s m args meth c RX4 "actFact" cX4_actFact 3 zk_E V 0 0 := hX
  unfold zf_X4_actFact at h
  refine zw_sub (lv' := [(0, .ref a0), (1, .int i1), (2, .int i2)]) (List.forall_mem_cons.mpr ⟨rfl, (List.forall_mem_cons.mpr ⟨rfl, (List.forall_mem_cons.mpr ⟨rfl, zs_nil⟩)⟩)⟩) ?_
  refine zw_iload_n hX dX4_actFact_0 rfl ?_
  by_cases c1_0 : (i2).toInt = 0
  · rw [if_pos c1_0] at h
    refine zw_tableIn (off := 35) (tgt := 36) hX dX4_actFact_1 (by rw [c1_0]; decide) (by rw [c1_0]; decide) (by rw [c1_0]; decide) (by decide) ?_
    refine zw_aload_n hX dX4_actFact_36 rfl ?_
    obtain ⟨b4, g, h⟩ := zb_some h
    refine zw_getr hX zl_X4_38 dX4_actFact_37 g ?_
    refine zw_iload_n hX dX4_actFact_40 rfl ?_
    obtain ⟨v5, g, h⟩ := zb_some h
    refine zw_xi hX dX4_actFact_41 g ?_
    obtain rfl := Option.some.inj h
    exact zw_iret hX hr dX4_actFact_42 rfl ⟨rfl, rfl⟩
  rw [if_neg c1_0] at h
  by_cases c1_1 : (i2).toInt = 1
  · rw [if_pos c1_1] at h
    refine zw_tableIn (off := 42) (tgt := 43) hX dX4_actFact_1 (by rw [c1_1]; decide) (by rw [c1_1]; decide) (by rw [c1_1]; decide) (by decide) ?_
    refine zw_aload_n hX dX4_actFact_43 rfl ?_
    obtain ⟨b6, g, h⟩ := zb_some h
    refine zw_getr hX zl_X4_38 dX4_actFact_44 g ?_
    refine zw_iload_n hX dX4_actFact_47 rfl ?_
    obtain ⟨v7, g, h⟩ := zb_some h
    refine zw_xi hX dX4_actFact_48 g ?_
    refine zw_iconst (v := (1 : Int32)) hX dX4_actFact_49 (by decide) ?_
    refine zw_icmp_ne (tgt := 62) hX dX4_actFact_50 (by decide) (fun c50 => ?_) (fun c50 => ?_)
    · rw [if_neg c50] at h
      refine zw_iconst (v := (-1 : Int32)) hX dX4_actFact_62 (by decide) ?_
      obtain rfl := Option.some.inj h
      exact zw_iret hX hr dX4_actFact_63 rfl ⟨rfl, rfl⟩
    · rw [if_pos c50] at h
      refine zw_aload_n hX dX4_actFact_53 rfl ?_
      obtain ⟨b8, g, h⟩ := zb_some h
      refine zw_getr hX zl_X4_41 dX4_actFact_54 g ?_
      refine zw_iload_n hX dX4_actFact_57 rfl ?_
      obtain ⟨v9, g, h⟩ := zb_some h
      refine zw_xi hX dX4_actFact_58 g ?_
      refine zw_goto (tgt := 63) hX dX4_actFact_59 (by decide) ?_
      obtain rfl := Option.some.inj h
      exact zw_iret hX hr dX4_actFact_63 rfl ⟨rfl, rfl⟩
  rw [if_neg c1_1] at h
  by_cases c1_2 : (i2).toInt = 2
  · rw [if_pos c1_2] at h
    refine zw_tableIn (off := 63) (tgt := 64) hX dX4_actFact_1 (by rw [c1_2]; decide) (by rw [c1_2]; decide) (by rw [c1_2]; decide) (by decide) ?_
    refine zw_aload_n hX dX4_actFact_64 rfl ?_
    obtain ⟨b10, g, h⟩ := zb_some h
    refine zw_getr hX zl_X4_29 dX4_actFact_65 g ?_
    refine zw_iload_n hX dX4_actFact_68 rfl ?_
    obtain ⟨b11, g, h⟩ := zb_some h
    refine zw_xr hX dX4_actFact_69 g ?_
    refine zw_iconst (v := (1 : Int32)) hX dX4_actFact_70 (by decide) ?_
    obtain ⟨v12, g, h⟩ := zb_some h
    refine zw_xi hX dX4_actFact_71 g ?_
    obtain rfl := Option.some.inj h
    exact zw_iret hX hr dX4_actFact_72 rfl ⟨rfl, rfl⟩
  rw [if_neg c1_2] at h
  by_cases c1_3 : (i2).toInt = 3
  · rw [if_pos c1_3] at h
    refine zw_tableIn (off := 72) (tgt := 73) hX dX4_actFact_1 (by rw [c1_3]; decide) (by rw [c1_3]; decide) (by rw [c1_3]; decide) (by decide) ?_
    refine zw_aload_n hX dX4_actFact_73 rfl ?_
    obtain ⟨b13, g, h⟩ := zb_some h
    refine zw_getr hX zl_X4_29 dX4_actFact_74 g ?_
    refine zw_iload_n hX dX4_actFact_77 rfl ?_
    obtain ⟨b14, g, h⟩ := zb_some h
    refine zw_xr hX dX4_actFact_78 g ?_
    refine zw_iconst (v := (2 : Int32)) hX dX4_actFact_79 (by decide) ?_
    obtain ⟨v15, g, h⟩ := zb_some h
    refine zw_xi hX dX4_actFact_80 g ?_
    obtain rfl := Option.some.inj h
    exact zw_iret hX hr dX4_actFact_81 rfl ⟨rfl, rfl⟩
  rw [if_neg c1_3] at h
  by_cases c1_4 : (i2).toInt = 4
  · rw [if_pos c1_4] at h
    refine zw_tableIn (off := 81) (tgt := 82) hX dX4_actFact_1 (by rw [c1_4]; decide) (by rw [c1_4]; decide) (by rw [c1_4]; decide) (by decide) ?_
    refine zw_aload_n hX dX4_actFact_82 rfl ?_
    obtain ⟨b16, g, h⟩ := zb_some h
    refine zw_getr hX zl_X4_29 dX4_actFact_83 g ?_
    refine zw_iload_n hX dX4_actFact_86 rfl ?_
    obtain ⟨b17, g, h⟩ := zb_some h
    refine zw_xr hX dX4_actFact_87 g ?_
    refine zw_iconst (v := (3 : Int32)) hX dX4_actFact_88 (by decide) ?_
    obtain ⟨v18, g, h⟩ := zb_some h
    refine zw_xi hX dX4_actFact_89 g ?_
    obtain rfl := Option.some.inj h
    exact zw_iret hX hr dX4_actFact_90 rfl ⟨rfl, rfl⟩
  rw [if_neg c1_4] at h
  refine zw_tableOut (tgt := 91) hX dX4_actFact_1 (by omega) (by decide) ?_
  refine zw_aload_n hX dX4_actFact_91 rfl ?_
  obtain ⟨b1, g, h⟩ := zb_some h
  refine zw_getr hX zl_X4_29 dX4_actFact_92 g ?_
  refine zw_iload_n hX dX4_actFact_95 rfl ?_
  obtain ⟨b2, g, h⟩ := zb_some h
  refine zw_xr hX dX4_actFact_96 g ?_
  refine zw_iconst (v := (4 : Int32)) hX dX4_actFact_97 (by decide) ?_
  obtain ⟨v3, g, h⟩ := zb_some h
  refine zw_xi hX dX4_actFact_98 g ?_
  obtain rfl := Option.some.inj h
  exact zw_iret hX hr dX4_actFact_99 rfl ⟨rfl, rfl⟩
def zf_X4_zoneFact (N : Nat) (a0 : Nat) (i1 : Int32) (i2 : Int32) (i3 : Int32) (S : zm_S) : Option (Int32 × zm_S) := (zi S a0 4).bind (fun _ => (zf_X4_countOn N a0 i1 i3 S).bind (fun r3 => if (i2).toInt = 0 then (zg_r r3.2 a0 4 6).bind (fun b4 => (za_r r3.2 b4 i1).bind (fun b5 => (za_x r3.2 0 b5 (0 : Int32)).bind (fun v6 => if r3.1 < v6 then some ((0 : Int32), r3.2) else some ((1 : Int32), r3.2)))) else if (i2).toInt = 1 then (zi r3.2 a0 4).bind (fun _ => (zf_X4_countAsked N a0 i1 i3 r3.2).bind (fun r9 => (zi r9.2 a0 4).bind (fun _ => (zf_X4_isSure N a0 r3.1 r9.1 r9.2).bind (fun r12 => if r12.1 = 0 then some ((0 : Int32), r12.2) else some ((1 : Int32), r12.2))))) else if (i2).toInt = 2 then (zg_r r3.2 a0 4 6).bind (fun b13 => (za_r r3.2 b13 i1).bind (fun b14 => (za_x r3.2 0 b14 (0 : Int32)).bind (fun v15 => some (v15, r3.2)))) else some (r3.1, r3.2)))
set_option maxHeartbeats 4000000 in
set_option maxRecDepth 100000 in
theorem zt_X4_zoneFact {l : Launch} {V : zm_V} {N : Nat} {S : zm_S} {out : (Int32 × zm_S)} {d : Nat} {a0 : Nat} {i1 : Int32} {i2 : Int32} {i3 : Int32} (hd : 4 ≤ d) (h : zf_X4_zoneFact N a0 i1 i2 i3 S = some out) : zm_Met l zk_E V yX4_zoneFact (.code yX4_zoneFact cX4_zoneFact 5 (some .int)) d [.ref a0, .int i1, .int i2, .int i3] S 0 0 (zo_i out) zo_x := by
  refine zm_of (by decide +kernel) (Nat.le_of_ble_eq_true rfl) ?_
  intro p e R s m args below meth c hRR hX hr hxt
  have hR : R.frames = d ∧ R.locals = 64 * d := by rw [hRR]; exact ⟨rfl, rfl⟩
  have hX : zm_X p R s m args meth c RX4 "zoneFact" cX4_zoneFact 5 zk_E V 0 0 := hX
  unfold zf_X4_zoneFact at h
  refine zw_sub (lv' := [(0, .ref a0), (1, .int i1), (2, .int i2), (3, .int i3)]) (List.forall_mem_cons.mpr ⟨rfl, (List.forall_mem_cons.mpr ⟨rfl, (List.forall_mem_cons.mpr ⟨rfl, (List.forall_mem_cons.mpr ⟨rfl, zs_nil⟩)⟩)⟩)⟩) ?_
  refine zw_aload_n hX dX4_zoneFact_0 rfl ?_
  refine zw_iload_n hX dX4_zoneFact_1 rfl ?_
  refine zw_iload_n hX dX4_zoneFact_2 rfl ?_
  obtain ⟨_, gi, h⟩ := zb_some h
  obtain ⟨r3, g, h⟩ := zb_some h
  refine zc_Vi (as := [.int i1, .int i3]) hX gi (zt_X4_countOn (d := d - 1) (by omega) g) zl_X4_103 rfl dX4_zoneFact_3 ⟨rfl, rfl, Nat.le_of_ble_eq_true rfl⟩ ⟨by omega, by omega⟩ ?_
  refine zw_istore hX dX4_zoneFact_6 (by decide) ?_
  refine zw_iload_n hX dX4_zoneFact_8 rfl ?_
  by_cases c9_0 : (i2).toInt = 0
  · rw [if_pos c9_0] at h
    refine zw_tableIn (off := 27) (tgt := 36) hX dX4_zoneFact_9 (by rw [c9_0]; decide) (by rw [c9_0]; decide) (by rw [c9_0]; decide) (by decide) ?_
    refine zw_iload hX dX4_zoneFact_36 rfl ?_
    refine zw_aload_n hX dX4_zoneFact_38 rfl ?_
    obtain ⟨b4, g, h⟩ := zb_some h
    refine zw_getr hX zl_X4_26 dX4_zoneFact_39 g ?_
    refine zw_iload_n hX dX4_zoneFact_42 rfl ?_
    obtain ⟨b5, g, h⟩ := zb_some h
    refine zw_xr hX dX4_zoneFact_43 g ?_
    refine zw_iconst (v := (0 : Int32)) hX dX4_zoneFact_44 (by decide) ?_
    obtain ⟨v6, g, h⟩ := zb_some h
    refine zw_xi hX dX4_zoneFact_45 g ?_
    refine zw_icmp_lt (tgt := 53) hX dX4_zoneFact_46 (by decide) (fun c46 => ?_) (fun c46 => ?_)
    · rw [if_pos c46] at h
      refine zw_iconst (v := (0 : Int32)) hX dX4_zoneFact_53 (by decide) ?_
      obtain rfl := Option.some.inj h
      exact zw_iret hX hr dX4_zoneFact_54 rfl ⟨rfl, rfl⟩
    · rw [if_neg c46] at h
      refine zw_iconst (v := (1 : Int32)) hX dX4_zoneFact_49 (by decide) ?_
      refine zw_goto (tgt := 54) hX dX4_zoneFact_50 (by decide) ?_
      obtain rfl := Option.some.inj h
      exact zw_iret hX hr dX4_zoneFact_54 rfl ⟨rfl, rfl⟩
  rw [if_neg c9_0] at h
  by_cases c9_1 : (i2).toInt = 1
  · rw [if_pos c9_1] at h
    refine zw_tableIn (off := 46) (tgt := 55) hX dX4_zoneFact_9 (by rw [c9_1]; decide) (by rw [c9_1]; decide) (by rw [c9_1]; decide) (by decide) ?_
    refine zw_aload_n hX dX4_zoneFact_55 rfl ?_
    refine zw_iload hX dX4_zoneFact_56 rfl ?_
    refine zw_aload_n hX dX4_zoneFact_58 rfl ?_
    refine zw_iload_n hX dX4_zoneFact_59 rfl ?_
    refine zw_iload_n hX dX4_zoneFact_60 rfl ?_
    obtain ⟨_, gi, h⟩ := zb_some h
    obtain ⟨r9, g, h⟩ := zb_some h
    refine zc_Vi (as := [.int i1, .int i3]) hX gi (zt_X4_countAsked (d := d - 1) (by omega) g) zl_X4_110 rfl dX4_zoneFact_61 ⟨rfl, rfl, Nat.le_of_ble_eq_true rfl⟩ ⟨by omega, by omega⟩ ?_
    obtain ⟨_, gi, h⟩ := zb_some h
    obtain ⟨r12, g, h⟩ := zb_some h
    refine zc_Vi (as := [.int r3.1, .int r9.1]) hX gi (zt_X4_isSure (d := d - 1) (by omega) g) zl_X4_113 rfl dX4_zoneFact_64 ⟨rfl, rfl, Nat.le_of_ble_eq_true rfl⟩ ⟨by omega, by omega⟩ ?_
    refine zw_if_eq (tgt := 74) hX dX4_zoneFact_67 (by decide) (fun c67 => ?_) (fun c67 => ?_)
    · rw [if_pos c67] at h
      refine zw_iconst (v := (0 : Int32)) hX dX4_zoneFact_74 (by decide) ?_
      obtain rfl := Option.some.inj h
      exact zw_iret hX hr dX4_zoneFact_75 rfl ⟨rfl, rfl⟩
    · rw [if_neg c67] at h
      refine zw_iconst (v := (1 : Int32)) hX dX4_zoneFact_70 (by decide) ?_
      refine zw_goto (tgt := 75) hX dX4_zoneFact_71 (by decide) ?_
      obtain rfl := Option.some.inj h
      exact zw_iret hX hr dX4_zoneFact_75 rfl ⟨rfl, rfl⟩
  rw [if_neg c9_1] at h
  by_cases c9_2 : (i2).toInt = 2
  · rw [if_pos c9_2] at h
    refine zw_tableIn (off := 67) (tgt := 76) hX dX4_zoneFact_9 (by rw [c9_2]; decide) (by rw [c9_2]; decide) (by rw [c9_2]; decide) (by decide) ?_
    refine zw_aload_n hX dX4_zoneFact_76 rfl ?_
    obtain ⟨b13, g, h⟩ := zb_some h
    refine zw_getr hX zl_X4_26 dX4_zoneFact_77 g ?_
    refine zw_iload_n hX dX4_zoneFact_80 rfl ?_
    obtain ⟨b14, g, h⟩ := zb_some h
    refine zw_xr hX dX4_zoneFact_81 g ?_
    refine zw_iconst (v := (0 : Int32)) hX dX4_zoneFact_82 (by decide) ?_
    obtain ⟨v15, g, h⟩ := zb_some h
    refine zw_xi hX dX4_zoneFact_83 g ?_
    obtain rfl := Option.some.inj h
    exact zw_iret hX hr dX4_zoneFact_84 rfl ⟨rfl, rfl⟩
  rw [if_neg c9_2] at h
  refine zw_tableOut (tgt := 85) hX dX4_zoneFact_9 (by omega) (by decide) ?_
  refine zw_iload hX dX4_zoneFact_85 rfl ?_
  obtain rfl := Option.some.inj h
  exact zw_iret hX hr dX4_zoneFact_87 rfl ⟨rfl, rfl⟩
