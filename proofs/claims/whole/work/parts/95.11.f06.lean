/-! ===== functions of methods, by program (wip/whole/tools/gen11.py) ===== -/
theorem dX4_runActs_0 : decode cX4_runActs 0 = .ok (.aload_n 0, 1) := by decide +kernel
theorem dX4_runActs_1 : decode cX4_runActs 1 = .ok (.iload_n 1, 1) := by decide +kernel
theorem dX4_runActs_2 : decode cX4_runActs 2 = .ok (.invokevirtual 119, 3) := by decide +kernel
theorem dX4_runActs_5 : decode cX4_runActs 5 = .ok (.iconst 0, 1) := by decide +kernel
theorem dX4_runActs_6 : decode cX4_runActs 6 = .ok (.istore_n 2, 1) := by decide +kernel
theorem dX4_runActs_7 : decode cX4_runActs 7 = .ok (.iload_n 2, 1) := by decide +kernel
theorem dX4_runActs_8 : decode cX4_runActs 8 = .ok (.aload_n 0, 1) := by decide +kernel
theorem dX4_runActs_9 : decode cX4_runActs 9 = .ok (.getfield 35, 3) := by decide +kernel
theorem dX4_runActs_12 : decode cX4_runActs 12 = .ok (.arraylength, 1) := by decide +kernel
theorem dX4_runActs_13 : decode cX4_runActs 13 = .ok (.if_icmp .ge 33, 3) := by decide +kernel
theorem dX4_runActs_16 : decode cX4_runActs 16 = .ok (.aload_n 0, 1) := by decide +kernel
theorem dX4_runActs_17 : decode cX4_runActs 17 = .ok (.aload_n 0, 1) := by decide +kernel
theorem dX4_runActs_18 : decode cX4_runActs 18 = .ok (.getfield 35, 3) := by decide +kernel
theorem dX4_runActs_21 : decode cX4_runActs 21 = .ok (.iload_n 2, 1) := by decide +kernel
theorem dX4_runActs_22 : decode cX4_runActs 22 = .ok (.iaload, 1) := by decide +kernel
theorem dX4_runActs_23 : decode cX4_runActs 23 = .ok (.invokevirtual 123, 3) := by decide +kernel
theorem dX4_runActs_26 : decode cX4_runActs 26 = .ok (.ifCond .eq 14, 3) := by decide +kernel
theorem dX4_runActs_40 : decode cX4_runActs 40 = .ok (.iinc 2 1, 3) := by decide +kernel
theorem dX4_runActs_43 : decode cX4_runActs 43 = .ok (.goto (-36), 3) := by decide +kernel
theorem dX4_runActs_29 : decode cX4_runActs 29 = .ok (.aload_n 0, 1) := by decide +kernel
theorem dX4_runActs_30 : decode cX4_runActs 30 = .ok (.aload_n 0, 1) := by decide +kernel
theorem dX4_runActs_31 : decode cX4_runActs 31 = .ok (.getfield 35, 3) := by decide +kernel
theorem dX4_runActs_34 : decode cX4_runActs 34 = .ok (.iload_n 2, 1) := by decide +kernel
theorem dX4_runActs_35 : decode cX4_runActs 35 = .ok (.iaload, 1) := by decide +kernel
theorem dX4_runActs_36 : decode cX4_runActs 36 = .ok (.iload_n 1, 1) := by decide +kernel
theorem dX4_runActs_37 : decode cX4_runActs 37 = .ok (.invokevirtual 126, 3) := by decide +kernel
theorem dX4_runActs_46 : decode cX4_runActs 46 = .ok (.return_, 1) := by decide +kernel
theorem dX4_lookAtActs_0 : decode cX4_lookAtActs 0 = .ok (.iconst 0, 1) := by decide +kernel
theorem dX4_lookAtActs_1 : decode cX4_lookAtActs 1 = .ok (.istore_n 2, 1) := by decide +kernel
theorem dX4_lookAtActs_2 : decode cX4_lookAtActs 2 = .ok (.iconst 0, 1) := by decide +kernel
theorem dX4_lookAtActs_3 : decode cX4_lookAtActs 3 = .ok (.istore_n 3, 1) := by decide +kernel
theorem dX4_lookAtActs_4 : decode cX4_lookAtActs 4 = .ok (.iload_n 3, 1) := by decide +kernel
theorem dX4_lookAtActs_5 : decode cX4_lookAtActs 5 = .ok (.aload_n 0, 1) := by decide +kernel
theorem dX4_lookAtActs_6 : decode cX4_lookAtActs 6 = .ok (.getfield 38, 3) := by decide +kernel
theorem dX4_lookAtActs_9 : decode cX4_lookAtActs 9 = .ok (.arraylength, 1) := by decide +kernel
theorem dX4_lookAtActs_10 : decode cX4_lookAtActs 10 = .ok (.if_icmp .ge 45, 3) := by decide +kernel
theorem dX4_lookAtActs_13 : decode cX4_lookAtActs 13 = .ok (.aload_n 0, 1) := by decide +kernel
theorem dX4_lookAtActs_14 : decode cX4_lookAtActs 14 = .ok (.getfield 38, 3) := by decide +kernel
theorem dX4_lookAtActs_17 : decode cX4_lookAtActs 17 = .ok (.iload_n 3, 1) := by decide +kernel
theorem dX4_lookAtActs_18 : decode cX4_lookAtActs 18 = .ok (.iaload, 1) := by decide +kernel
theorem dX4_lookAtActs_19 : decode cX4_lookAtActs 19 = .ok (.iconst 1, 1) := by decide +kernel
theorem dX4_lookAtActs_20 : decode cX4_lookAtActs 20 = .ok (.if_icmp .ne 29, 3) := by decide +kernel
theorem dX4_lookAtActs_49 : decode cX4_lookAtActs 49 = .ok (.iinc 3 1, 3) := by decide +kernel
theorem dX4_lookAtActs_52 : decode cX4_lookAtActs 52 = .ok (.goto (-48), 3) := by decide +kernel
theorem dX4_lookAtActs_23 : decode cX4_lookAtActs 23 = .ok (.aload_n 0, 1) := by decide +kernel
theorem dX4_lookAtActs_24 : decode cX4_lookAtActs 24 = .ok (.getfield 44, 3) := by decide +kernel
theorem dX4_lookAtActs_27 : decode cX4_lookAtActs 27 = .ok (.iload_n 3, 1) := by decide +kernel
theorem dX4_lookAtActs_28 : decode cX4_lookAtActs 28 = .ok (.baload, 1) := by decide +kernel
theorem dX4_lookAtActs_29 : decode cX4_lookAtActs 29 = .ok (.ifCond .ne 20, 3) := by decide +kernel
theorem dX4_lookAtActs_32 : decode cX4_lookAtActs 32 = .ok (.aload_n 0, 1) := by decide +kernel
theorem dX4_lookAtActs_33 : decode cX4_lookAtActs 33 = .ok (.getfield 44, 3) := by decide +kernel
theorem dX4_lookAtActs_36 : decode cX4_lookAtActs 36 = .ok (.iload_n 3, 1) := by decide +kernel
theorem dX4_lookAtActs_37 : decode cX4_lookAtActs 37 = .ok (.iconst 1, 1) := by decide +kernel
theorem dX4_lookAtActs_38 : decode cX4_lookAtActs 38 = .ok (.bastore, 1) := by decide +kernel
theorem dX4_lookAtActs_39 : decode cX4_lookAtActs 39 = .ok (.aload_n 0, 1) := by decide +kernel
theorem dX4_lookAtActs_40 : decode cX4_lookAtActs 40 = .ok (.getfield 41, 3) := by decide +kernel
theorem dX4_lookAtActs_43 : decode cX4_lookAtActs 43 = .ok (.iload_n 3, 1) := by decide +kernel
theorem dX4_lookAtActs_44 : decode cX4_lookAtActs 44 = .ok (.iload_n 1, 1) := by decide +kernel
theorem dX4_lookAtActs_45 : decode cX4_lookAtActs 45 = .ok (.iastore, 1) := by decide +kernel
theorem dX4_lookAtActs_46 : decode cX4_lookAtActs 46 = .ok (.iinc 2 1, 3) := by decide +kernel
theorem dX4_lookAtActs_55 : decode cX4_lookAtActs 55 = .ok (.iload_n 2, 1) := by decide +kernel
theorem dX4_lookAtActs_56 : decode cX4_lookAtActs 56 = .ok (.ireturn, 1) := by decide +kernel
theorem dX4_confirmActs_0 : decode cX4_confirmActs 0 = .ok (.iconst 0, 1) := by decide +kernel
theorem dX4_confirmActs_1 : decode cX4_confirmActs 1 = .ok (.istore_n 1, 1) := by decide +kernel
theorem dX4_confirmActs_2 : decode cX4_confirmActs 2 = .ok (.iconst 0, 1) := by decide +kernel
theorem dX4_confirmActs_3 : decode cX4_confirmActs 3 = .ok (.istore_n 2, 1) := by decide +kernel
theorem dX4_confirmActs_4 : decode cX4_confirmActs 4 = .ok (.iload_n 2, 1) := by decide +kernel
theorem dX4_confirmActs_5 : decode cX4_confirmActs 5 = .ok (.aload_n 0, 1) := by decide +kernel
theorem dX4_confirmActs_6 : decode cX4_confirmActs 6 = .ok (.getfield 38, 3) := by decide +kernel
theorem dX4_confirmActs_9 : decode cX4_confirmActs 9 = .ok (.arraylength, 1) := by decide +kernel
theorem dX4_confirmActs_10 : decode cX4_confirmActs 10 = .ok (.if_icmp .ge 38, 3) := by decide +kernel
theorem dX4_confirmActs_13 : decode cX4_confirmActs 13 = .ok (.aload_n 0, 1) := by decide +kernel
theorem dX4_confirmActs_14 : decode cX4_confirmActs 14 = .ok (.getfield 38, 3) := by decide +kernel
theorem dX4_confirmActs_17 : decode cX4_confirmActs 17 = .ok (.iload_n 2, 1) := by decide +kernel
theorem dX4_confirmActs_18 : decode cX4_confirmActs 18 = .ok (.iaload, 1) := by decide +kernel
theorem dX4_confirmActs_19 : decode cX4_confirmActs 19 = .ok (.iconst 1, 1) := by decide +kernel
theorem dX4_confirmActs_20 : decode cX4_confirmActs 20 = .ok (.if_icmp .ne 22, 3) := by decide +kernel
theorem dX4_confirmActs_42 : decode cX4_confirmActs 42 = .ok (.iinc 2 1, 3) := by decide +kernel
theorem dX4_confirmActs_45 : decode cX4_confirmActs 45 = .ok (.goto (-41), 3) := by decide +kernel
theorem dX4_confirmActs_23 : decode cX4_confirmActs 23 = .ok (.aload_n 0, 1) := by decide +kernel
theorem dX4_confirmActs_24 : decode cX4_confirmActs 24 = .ok (.getfield 47, 3) := by decide +kernel
theorem dX4_confirmActs_27 : decode cX4_confirmActs 27 = .ok (.iload_n 2, 1) := by decide +kernel
theorem dX4_confirmActs_28 : decode cX4_confirmActs 28 = .ok (.baload, 1) := by decide +kernel
theorem dX4_confirmActs_29 : decode cX4_confirmActs 29 = .ok (.ifCond .ne 13, 3) := by decide +kernel
theorem dX4_confirmActs_32 : decode cX4_confirmActs 32 = .ok (.aload_n 0, 1) := by decide +kernel
theorem dX4_confirmActs_33 : decode cX4_confirmActs 33 = .ok (.getfield 47, 3) := by decide +kernel
theorem dX4_confirmActs_36 : decode cX4_confirmActs 36 = .ok (.iload_n 2, 1) := by decide +kernel
theorem dX4_confirmActs_37 : decode cX4_confirmActs 37 = .ok (.iconst 1, 1) := by decide +kernel
theorem dX4_confirmActs_38 : decode cX4_confirmActs 38 = .ok (.bastore, 1) := by decide +kernel
theorem dX4_confirmActs_39 : decode cX4_confirmActs 39 = .ok (.iinc 1 1, 3) := by decide +kernel
theorem dX4_confirmActs_48 : decode cX4_confirmActs 48 = .ok (.iload_n 1, 1) := by decide +kernel
theorem dX4_confirmActs_49 : decode cX4_confirmActs 49 = .ok (.ireturn, 1) := by decide +kernel
theorem dX4_resetLatched_0 : decode cX4_resetLatched 0 = .ok (.iconst 0, 1) := by decide +kernel
theorem dX4_resetLatched_1 : decode cX4_resetLatched 1 = .ok (.istore_n 2, 1) := by decide +kernel
theorem dX4_resetLatched_2 : decode cX4_resetLatched 2 = .ok (.aload_n 0, 1) := by decide +kernel
theorem dX4_resetLatched_3 : decode cX4_resetLatched 3 = .ok (.iload_n 1, 1) := by decide +kernel
theorem dX4_resetLatched_4 : decode cX4_resetLatched 4 = .ok (.invokevirtual 119, 3) := by decide +kernel
theorem dX4_resetLatched_7 : decode cX4_resetLatched 7 = .ok (.iconst 0, 1) := by decide +kernel
theorem dX4_resetLatched_8 : decode cX4_resetLatched 8 = .ok (.istore_n 3, 1) := by decide +kernel
theorem dX4_resetLatched_9 : decode cX4_resetLatched 9 = .ok (.iload_n 3, 1) := by decide +kernel
theorem dX4_resetLatched_10 : decode cX4_resetLatched 10 = .ok (.aload_n 0, 1) := by decide +kernel
theorem dX4_resetLatched_11 : decode cX4_resetLatched 11 = .ok (.getfield 35, 3) := by decide +kernel
theorem dX4_resetLatched_14 : decode cX4_resetLatched 14 = .ok (.arraylength, 1) := by decide +kernel
theorem dX4_resetLatched_15 : decode cX4_resetLatched 15 = .ok (.if_icmp .ge 60, 3) := by decide +kernel
theorem dX4_resetLatched_18 : decode cX4_resetLatched 18 = .ok (.aload_n 0, 1) := by decide +kernel
theorem dX4_resetLatched_19 : decode cX4_resetLatched 19 = .ok (.getfield 35, 3) := by decide +kernel
theorem dX4_resetLatched_22 : decode cX4_resetLatched 22 = .ok (.iload_n 3, 1) := by decide +kernel
theorem dX4_resetLatched_23 : decode cX4_resetLatched 23 = .ok (.iaload, 1) := by decide +kernel
theorem dX4_resetLatched_24 : decode cX4_resetLatched 24 = .ok (.istore 4, 2) := by decide +kernel
theorem dX4_resetLatched_26 : decode cX4_resetLatched 26 = .ok (.aload_n 0, 1) := by decide +kernel
theorem dX4_resetLatched_27 : decode cX4_resetLatched 27 = .ok (.getfield 38, 3) := by decide +kernel
theorem dX4_resetLatched_30 : decode cX4_resetLatched 30 = .ok (.iload 4, 2) := by decide +kernel
theorem dX4_resetLatched_32 : decode cX4_resetLatched 32 = .ok (.iaload, 1) := by decide +kernel
theorem dX4_resetLatched_33 : decode cX4_resetLatched 33 = .ok (.iconst 2, 1) := by decide +kernel
theorem dX4_resetLatched_34 : decode cX4_resetLatched 34 = .ok (.if_icmp .ne 35, 3) := by decide +kernel
theorem dX4_resetLatched_69 : decode cX4_resetLatched 69 = .ok (.iinc 3 1, 3) := by decide +kernel
theorem dX4_resetLatched_72 : decode cX4_resetLatched 72 = .ok (.goto (-63), 3) := by decide +kernel
theorem dX4_resetLatched_37 : decode cX4_resetLatched 37 = .ok (.aload_n 0, 1) := by decide +kernel
theorem dX4_resetLatched_38 : decode cX4_resetLatched 38 = .ok (.getfield 29, 3) := by decide +kernel
theorem dX4_resetLatched_41 : decode cX4_resetLatched 41 = .ok (.iload 4, 2) := by decide +kernel
theorem dX4_resetLatched_43 : decode cX4_resetLatched 43 = .ok (.aaload, 1) := by decide +kernel
theorem dX4_resetLatched_44 : decode cX4_resetLatched 44 = .ok (.iconst 4, 1) := by decide +kernel
theorem dX4_resetLatched_45 : decode cX4_resetLatched 45 = .ok (.iaload, 1) := by decide +kernel
theorem dX4_resetLatched_46 : decode cX4_resetLatched 46 = .ok (.ifCond .eq 23, 3) := by decide +kernel
theorem dX4_resetLatched_49 : decode cX4_resetLatched 49 = .ok (.aload_n 0, 1) := by decide +kernel
theorem dX4_resetLatched_50 : decode cX4_resetLatched 50 = .ok (.iload 4, 2) := by decide +kernel
theorem dX4_resetLatched_52 : decode cX4_resetLatched 52 = .ok (.invokevirtual 130, 3) := by decide +kernel
theorem dX4_resetLatched_55 : decode cX4_resetLatched 55 = .ok (.ifCond .ne 14, 3) := by decide +kernel
theorem dX4_resetLatched_58 : decode cX4_resetLatched 58 = .ok (.aload_n 0, 1) := by decide +kernel
theorem dX4_resetLatched_59 : decode cX4_resetLatched 59 = .ok (.iload 4, 2) := by decide +kernel
theorem dX4_resetLatched_61 : decode cX4_resetLatched 61 = .ok (.iconst 0, 1) := by decide +kernel
theorem dX4_resetLatched_62 : decode cX4_resetLatched 62 = .ok (.iload_n 1, 1) := by decide +kernel
theorem dX4_resetLatched_63 : decode cX4_resetLatched 63 = .ok (.invokevirtual 133, 3) := by decide +kernel
theorem dX4_resetLatched_66 : decode cX4_resetLatched 66 = .ok (.iinc 2 1, 3) := by decide +kernel
theorem dX4_resetLatched_75 : decode cX4_resetLatched 75 = .ok (.iload_n 2, 1) := by decide +kernel
theorem dX4_resetLatched_76 : decode cX4_resetLatched 76 = .ok (.ireturn, 1) := by decide +kernel
theorem dX4_isKindDone_0 : decode cX4_isKindDone 0 = .ok (.iconst 0, 1) := by decide +kernel
theorem dX4_isKindDone_1 : decode cX4_isKindDone 1 = .ok (.istore_n 2, 1) := by decide +kernel
theorem dX4_isKindDone_2 : decode cX4_isKindDone 2 = .ok (.iload_n 2, 1) := by decide +kernel
theorem dX4_isKindDone_3 : decode cX4_isKindDone 3 = .ok (.aload_n 0, 1) := by decide +kernel
theorem dX4_isKindDone_4 : decode cX4_isKindDone 4 = .ok (.getfield 38, 3) := by decide +kernel
theorem dX4_isKindDone_7 : decode cX4_isKindDone 7 = .ok (.arraylength, 1) := by decide +kernel
theorem dX4_isKindDone_8 : decode cX4_isKindDone 8 = .ok (.if_icmp .ge 33, 3) := by decide +kernel
theorem dX4_isKindDone_11 : decode cX4_isKindDone 11 = .ok (.aload_n 0, 1) := by decide +kernel
theorem dX4_isKindDone_12 : decode cX4_isKindDone 12 = .ok (.getfield 38, 3) := by decide +kernel
theorem dX4_isKindDone_15 : decode cX4_isKindDone 15 = .ok (.iload_n 2, 1) := by decide +kernel
theorem dX4_isKindDone_16 : decode cX4_isKindDone 16 = .ok (.iaload, 1) := by decide +kernel
theorem dX4_isKindDone_17 : decode cX4_isKindDone 17 = .ok (.iconst 2, 1) := by decide +kernel
theorem dX4_isKindDone_18 : decode cX4_isKindDone 18 = .ok (.if_icmp .ne 17, 3) := by decide +kernel
theorem dX4_isKindDone_35 : decode cX4_isKindDone 35 = .ok (.iinc 2 1, 3) := by decide +kernel
theorem dX4_isKindDone_38 : decode cX4_isKindDone 38 = .ok (.goto (-36), 3) := by decide +kernel
theorem dX4_isKindDone_21 : decode cX4_isKindDone 21 = .ok (.aload_n 0, 1) := by decide +kernel
theorem dX4_isKindDone_22 : decode cX4_isKindDone 22 = .ok (.getfield 29, 3) := by decide +kernel
theorem dX4_isKindDone_25 : decode cX4_isKindDone 25 = .ok (.iload_n 2, 1) := by decide +kernel
theorem dX4_isKindDone_26 : decode cX4_isKindDone 26 = .ok (.aaload, 1) := by decide +kernel
theorem dX4_isKindDone_27 : decode cX4_isKindDone 27 = .ok (.iconst 1, 1) := by decide +kernel
theorem dX4_isKindDone_28 : decode cX4_isKindDone 28 = .ok (.iaload, 1) := by decide +kernel
theorem dX4_isKindDone_29 : decode cX4_isKindDone 29 = .ok (.iload_n 1, 1) := by decide +kernel
theorem dX4_isKindDone_30 : decode cX4_isKindDone 30 = .ok (.if_icmp .ne 5, 3) := by decide +kernel
theorem dX4_isKindDone_33 : decode cX4_isKindDone 33 = .ok (.iconst 1, 1) := by decide +kernel
theorem dX4_isKindDone_34 : decode cX4_isKindDone 34 = .ok (.ireturn, 1) := by decide +kernel
theorem dX4_isKindDone_41 : decode cX4_isKindDone 41 = .ok (.iconst 0, 1) := by decide +kernel
theorem dX4_isKindDone_42 : decode cX4_isKindDone 42 = .ok (.ireturn, 1) := by decide +kernel
theorem dX4_countDone_0 : decode cX4_countDone 0 = .ok (.iconst 0, 1) := by decide +kernel
theorem dX4_countDone_1 : decode cX4_countDone 1 = .ok (.istore_n 1, 1) := by decide +kernel
theorem dX4_countDone_2 : decode cX4_countDone 2 = .ok (.iconst 0, 1) := by decide +kernel
theorem dX4_countDone_3 : decode cX4_countDone 3 = .ok (.istore_n 2, 1) := by decide +kernel
theorem dX4_countDone_4 : decode cX4_countDone 4 = .ok (.iload_n 2, 1) := by decide +kernel
theorem dX4_countDone_5 : decode cX4_countDone 5 = .ok (.aload_n 0, 1) := by decide +kernel
theorem dX4_countDone_6 : decode cX4_countDone 6 = .ok (.getfield 38, 3) := by decide +kernel
theorem dX4_countDone_9 : decode cX4_countDone 9 = .ok (.arraylength, 1) := by decide +kernel
theorem dX4_countDone_10 : decode cX4_countDone 10 = .ok (.if_icmp .ge 27, 3) := by decide +kernel
theorem dX4_countDone_13 : decode cX4_countDone 13 = .ok (.iload_n 1, 1) := by decide +kernel
theorem dX4_countDone_14 : decode cX4_countDone 14 = .ok (.aload_n 0, 1) := by decide +kernel
theorem dX4_countDone_15 : decode cX4_countDone 15 = .ok (.getfield 38, 3) := by decide +kernel
theorem dX4_countDone_18 : decode cX4_countDone 18 = .ok (.iload_n 2, 1) := by decide +kernel
theorem dX4_countDone_19 : decode cX4_countDone 19 = .ok (.iaload, 1) := by decide +kernel
theorem dX4_countDone_20 : decode cX4_countDone 20 = .ok (.iconst 2, 1) := by decide +kernel
theorem dX4_countDone_21 : decode cX4_countDone 21 = .ok (.if_icmp .ne 7, 3) := by decide +kernel
theorem dX4_countDone_28 : decode cX4_countDone 28 = .ok (.iconst 0, 1) := by decide +kernel
theorem dX4_countDone_29 : decode cX4_countDone 29 = .ok (.iadd, 1) := by decide +kernel
theorem dX4_countDone_30 : decode cX4_countDone 30 = .ok (.istore_n 1, 1) := by decide +kernel
theorem dX4_countDone_31 : decode cX4_countDone 31 = .ok (.iinc 2 1, 3) := by decide +kernel
theorem dX4_countDone_34 : decode cX4_countDone 34 = .ok (.goto (-30), 3) := by decide +kernel
theorem dX4_countDone_24 : decode cX4_countDone 24 = .ok (.iconst 1, 1) := by decide +kernel
theorem dX4_countDone_25 : decode cX4_countDone 25 = .ok (.goto 4, 3) := by decide +kernel
theorem dX4_countDone_37 : decode cX4_countDone 37 = .ok (.iload_n 1, 1) := by decide +kernel
theorem dX4_countDone_38 : decode cX4_countDone 38 = .ok (.ireturn, 1) := by decide +kernel
theorem dX4_actFact_0 : decode cX4_actFact 0 = .ok (.iload_n 2, 1) := by decide +kernel
theorem dX4_actFact_1 : decode cX4_actFact 1 = .ok (.tableswitch 90 0 4 #[35, 42, 63, 72, 81], 35) := by decide +kernel
theorem dX4_actFact_91 : decode cX4_actFact 91 = .ok (.aload_n 0, 1) := by decide +kernel
theorem dX4_actFact_92 : decode cX4_actFact 92 = .ok (.getfield 29, 3) := by decide +kernel
theorem dX4_actFact_95 : decode cX4_actFact 95 = .ok (.iload_n 1, 1) := by decide +kernel
theorem dX4_actFact_96 : decode cX4_actFact 96 = .ok (.aaload, 1) := by decide +kernel
theorem dX4_actFact_97 : decode cX4_actFact 97 = .ok (.iconst 4, 1) := by decide +kernel
theorem dX4_actFact_98 : decode cX4_actFact 98 = .ok (.iaload, 1) := by decide +kernel
theorem dX4_actFact_99 : decode cX4_actFact 99 = .ok (.ireturn, 1) := by decide +kernel
theorem dX4_actFact_36 : decode cX4_actFact 36 = .ok (.aload_n 0, 1) := by decide +kernel
theorem dX4_actFact_37 : decode cX4_actFact 37 = .ok (.getfield 38, 3) := by decide +kernel
theorem dX4_actFact_40 : decode cX4_actFact 40 = .ok (.iload_n 1, 1) := by decide +kernel
theorem dX4_actFact_41 : decode cX4_actFact 41 = .ok (.iaload, 1) := by decide +kernel
theorem dX4_actFact_42 : decode cX4_actFact 42 = .ok (.ireturn, 1) := by decide +kernel
theorem dX4_actFact_43 : decode cX4_actFact 43 = .ok (.aload_n 0, 1) := by decide +kernel
theorem dX4_actFact_44 : decode cX4_actFact 44 = .ok (.getfield 38, 3) := by decide +kernel
theorem dX4_actFact_47 : decode cX4_actFact 47 = .ok (.iload_n 1, 1) := by decide +kernel
theorem dX4_actFact_48 : decode cX4_actFact 48 = .ok (.iaload, 1) := by decide +kernel
theorem dX4_actFact_49 : decode cX4_actFact 49 = .ok (.iconst 1, 1) := by decide +kernel
theorem dX4_actFact_50 : decode cX4_actFact 50 = .ok (.if_icmp .ne 12, 3) := by decide +kernel
theorem dX4_actFact_62 : decode cX4_actFact 62 = .ok (.iconst (-1), 1) := by decide +kernel
theorem dX4_actFact_63 : decode cX4_actFact 63 = .ok (.ireturn, 1) := by decide +kernel
theorem dX4_actFact_53 : decode cX4_actFact 53 = .ok (.aload_n 0, 1) := by decide +kernel
theorem dX4_actFact_54 : decode cX4_actFact 54 = .ok (.getfield 41, 3) := by decide +kernel
theorem dX4_actFact_57 : decode cX4_actFact 57 = .ok (.iload_n 1, 1) := by decide +kernel
theorem dX4_actFact_58 : decode cX4_actFact 58 = .ok (.iaload, 1) := by decide +kernel
theorem dX4_actFact_59 : decode cX4_actFact 59 = .ok (.goto 4, 3) := by decide +kernel
theorem dX4_actFact_64 : decode cX4_actFact 64 = .ok (.aload_n 0, 1) := by decide +kernel
theorem dX4_actFact_65 : decode cX4_actFact 65 = .ok (.getfield 29, 3) := by decide +kernel
theorem dX4_actFact_68 : decode cX4_actFact 68 = .ok (.iload_n 1, 1) := by decide +kernel
theorem dX4_actFact_69 : decode cX4_actFact 69 = .ok (.aaload, 1) := by decide +kernel
theorem dX4_actFact_70 : decode cX4_actFact 70 = .ok (.iconst 1, 1) := by decide +kernel
theorem dX4_actFact_71 : decode cX4_actFact 71 = .ok (.iaload, 1) := by decide +kernel
theorem dX4_actFact_72 : decode cX4_actFact 72 = .ok (.ireturn, 1) := by decide +kernel
theorem dX4_actFact_73 : decode cX4_actFact 73 = .ok (.aload_n 0, 1) := by decide +kernel
theorem dX4_actFact_74 : decode cX4_actFact 74 = .ok (.getfield 29, 3) := by decide +kernel
theorem dX4_actFact_77 : decode cX4_actFact 77 = .ok (.iload_n 1, 1) := by decide +kernel
theorem dX4_actFact_78 : decode cX4_actFact 78 = .ok (.aaload, 1) := by decide +kernel
theorem dX4_actFact_79 : decode cX4_actFact 79 = .ok (.iconst 2, 1) := by decide +kernel
theorem dX4_actFact_80 : decode cX4_actFact 80 = .ok (.iaload, 1) := by decide +kernel
theorem dX4_actFact_81 : decode cX4_actFact 81 = .ok (.ireturn, 1) := by decide +kernel
theorem dX4_actFact_82 : decode cX4_actFact 82 = .ok (.aload_n 0, 1) := by decide +kernel
theorem dX4_actFact_83 : decode cX4_actFact 83 = .ok (.getfield 29, 3) := by decide +kernel
theorem dX4_actFact_86 : decode cX4_actFact 86 = .ok (.iload_n 1, 1) := by decide +kernel
theorem dX4_actFact_87 : decode cX4_actFact 87 = .ok (.aaload, 1) := by decide +kernel
theorem dX4_actFact_88 : decode cX4_actFact 88 = .ok (.iconst 3, 1) := by decide +kernel
theorem dX4_actFact_89 : decode cX4_actFact 89 = .ok (.iaload, 1) := by decide +kernel
theorem dX4_actFact_90 : decode cX4_actFact 90 = .ok (.ireturn, 1) := by decide +kernel
theorem dX4_zoneFact_0 : decode cX4_zoneFact 0 = .ok (.aload_n 0, 1) := by decide +kernel
theorem dX4_zoneFact_1 : decode cX4_zoneFact 1 = .ok (.iload_n 1, 1) := by decide +kernel
theorem dX4_zoneFact_2 : decode cX4_zoneFact 2 = .ok (.iload_n 3, 1) := by decide +kernel
theorem dX4_zoneFact_3 : decode cX4_zoneFact 3 = .ok (.invokevirtual 103, 3) := by decide +kernel
theorem dX4_zoneFact_6 : decode cX4_zoneFact 6 = .ok (.istore 4, 2) := by decide +kernel
theorem dX4_zoneFact_8 : decode cX4_zoneFact 8 = .ok (.iload_n 2, 1) := by decide +kernel
theorem dX4_zoneFact_9 : decode cX4_zoneFact 9 = .ok (.tableswitch 76 0 2 #[27, 46, 67], 27) := by decide +kernel
theorem dX4_zoneFact_85 : decode cX4_zoneFact 85 = .ok (.iload 4, 2) := by decide +kernel
theorem dX4_zoneFact_87 : decode cX4_zoneFact 87 = .ok (.ireturn, 1) := by decide +kernel
theorem dX4_zoneFact_36 : decode cX4_zoneFact 36 = .ok (.iload 4, 2) := by decide +kernel
theorem dX4_zoneFact_38 : decode cX4_zoneFact 38 = .ok (.aload_n 0, 1) := by decide +kernel
theorem dX4_zoneFact_39 : decode cX4_zoneFact 39 = .ok (.getfield 26, 3) := by decide +kernel
theorem dX4_zoneFact_42 : decode cX4_zoneFact 42 = .ok (.iload_n 1, 1) := by decide +kernel
theorem dX4_zoneFact_43 : decode cX4_zoneFact 43 = .ok (.aaload, 1) := by decide +kernel
theorem dX4_zoneFact_44 : decode cX4_zoneFact 44 = .ok (.iconst 0, 1) := by decide +kernel
theorem dX4_zoneFact_45 : decode cX4_zoneFact 45 = .ok (.iaload, 1) := by decide +kernel
theorem dX4_zoneFact_46 : decode cX4_zoneFact 46 = .ok (.if_icmp .lt 7, 3) := by decide +kernel
theorem dX4_zoneFact_53 : decode cX4_zoneFact 53 = .ok (.iconst 0, 1) := by decide +kernel
theorem dX4_zoneFact_54 : decode cX4_zoneFact 54 = .ok (.ireturn, 1) := by decide +kernel
theorem dX4_zoneFact_49 : decode cX4_zoneFact 49 = .ok (.iconst 1, 1) := by decide +kernel
theorem dX4_zoneFact_50 : decode cX4_zoneFact 50 = .ok (.goto 4, 3) := by decide +kernel
theorem dX4_zoneFact_55 : decode cX4_zoneFact 55 = .ok (.aload_n 0, 1) := by decide +kernel
theorem dX4_zoneFact_56 : decode cX4_zoneFact 56 = .ok (.iload 4, 2) := by decide +kernel
theorem dX4_zoneFact_58 : decode cX4_zoneFact 58 = .ok (.aload_n 0, 1) := by decide +kernel
theorem dX4_zoneFact_59 : decode cX4_zoneFact 59 = .ok (.iload_n 1, 1) := by decide +kernel
theorem dX4_zoneFact_60 : decode cX4_zoneFact 60 = .ok (.iload_n 3, 1) := by decide +kernel
theorem dX4_zoneFact_61 : decode cX4_zoneFact 61 = .ok (.invokevirtual 110, 3) := by decide +kernel
theorem dX4_zoneFact_64 : decode cX4_zoneFact 64 = .ok (.invokevirtual 113, 3) := by decide +kernel
theorem dX4_zoneFact_67 : decode cX4_zoneFact 67 = .ok (.ifCond .eq 7, 3) := by decide +kernel
theorem dX4_zoneFact_74 : decode cX4_zoneFact 74 = .ok (.iconst 0, 1) := by decide +kernel
theorem dX4_zoneFact_75 : decode cX4_zoneFact 75 = .ok (.ireturn, 1) := by decide +kernel
theorem dX4_zoneFact_70 : decode cX4_zoneFact 70 = .ok (.iconst 1, 1) := by decide +kernel
theorem dX4_zoneFact_71 : decode cX4_zoneFact 71 = .ok (.goto 4, 3) := by decide +kernel
theorem dX4_zoneFact_76 : decode cX4_zoneFact 76 = .ok (.aload_n 0, 1) := by decide +kernel
theorem dX4_zoneFact_77 : decode cX4_zoneFact 77 = .ok (.getfield 26, 3) := by decide +kernel
theorem dX4_zoneFact_80 : decode cX4_zoneFact 80 = .ok (.iload_n 1, 1) := by decide +kernel
theorem dX4_zoneFact_81 : decode cX4_zoneFact 81 = .ok (.aaload, 1) := by decide +kernel
theorem dX4_zoneFact_82 : decode cX4_zoneFact 82 = .ok (.iconst 0, 1) := by decide +kernel
theorem dX4_zoneFact_83 : decode cX4_zoneFact 83 = .ok (.iaload, 1) := by decide +kernel
theorem dX4_zoneFact_84 : decode cX4_zoneFact 84 = .ok (.ireturn, 1) := by decide +kernel
theorem dX4_keptEvents_0 : decode cX4_keptEvents 0 = .ok (.aload_n 0, 1) := by decide +kernel
theorem dX4_keptEvents_1 : decode cX4_keptEvents 1 = .ok (.getfield 143, 3) := by decide +kernel
theorem dX4_keptEvents_4 : decode cX4_keptEvents 4 = .ok (.bipush 60, 2) := by decide +kernel
theorem dX4_keptEvents_6 : decode cX4_keptEvents 6 = .ok (.invokestatic 87, 3) := by decide +kernel
theorem dX4_keptEvents_9 : decode cX4_keptEvents 9 = .ok (.ireturn, 1) := by decide +kernel
theorem dX4_eventFact_0 : decode cX4_eventFact 0 = .ok (.aload_n 0, 1) := by decide +kernel
theorem dX4_eventFact_1 : decode cX4_eventFact 1 = .ok (.getfield 56, 3) := by decide +kernel
theorem dX4_eventFact_4 : decode cX4_eventFact 4 = .ok (.aload_n 0, 1) := by decide +kernel
theorem dX4_eventFact_5 : decode cX4_eventFact 5 = .ok (.getfield 143, 3) := by decide +kernel
theorem dX4_eventFact_8 : decode cX4_eventFact 8 = .ok (.iconst 1, 1) := by decide +kernel
theorem dX4_eventFact_9 : decode cX4_eventFact 9 = .ok (.isub, 1) := by decide +kernel
theorem dX4_eventFact_10 : decode cX4_eventFact 10 = .ok (.iload_n 1, 1) := by decide +kernel
theorem dX4_eventFact_11 : decode cX4_eventFact 11 = .ok (.isub, 1) := by decide +kernel
theorem dX4_eventFact_12 : decode cX4_eventFact 12 = .ok (.bipush 60, 2) := by decide +kernel
theorem dX4_eventFact_14 : decode cX4_eventFact 14 = .ok (.irem, 1) := by decide +kernel
theorem dX4_eventFact_15 : decode cX4_eventFact 15 = .ok (.aaload, 1) := by decide +kernel
theorem dX4_eventFact_16 : decode cX4_eventFact 16 = .ok (.iload_n 2, 1) := by decide +kernel
theorem dX4_eventFact_17 : decode cX4_eventFact 17 = .ok (.iaload, 1) := by decide +kernel
theorem dX4_eventFact_18 : decode cX4_eventFact 18 = .ok (.ireturn, 1) := by decide +kernel
theorem dX5_init_0 : decode cX5_init 0 = .ok (.aload_n 0, 1) := by decide +kernel
theorem dX5_init_1 : decode cX5_init 1 = .ok (.invokespecial 3, 3) := by decide +kernel
theorem dX5_init_4 : decode cX5_init 4 = .ok (.aload_n 0, 1) := by decide +kernel
theorem dX5_init_5 : decode cX5_init 5 = .ok (.sipush 2200, 3) := by decide +kernel
theorem dX5_init_8 : decode cX5_init 8 = .ok (.newarray .char, 2) := by decide +kernel
theorem dX5_init_10 : decode cX5_init 10 = .ok (.putfield 11, 3) := by decide +kernel
theorem dX5_init_13 : decode cX5_init 13 = .ok (.aload_n 0, 1) := by decide +kernel
theorem dX5_init_14 : decode cX5_init 14 = .ok (.bipush 20, 2) := by decide +kernel
theorem dX5_init_16 : decode cX5_init 16 = .ok (.bipush 14, 2) := by decide +kernel
theorem dX5_init_18 : decode cX5_init 18 = .ok (.multianewarray 15 2, 4) := by decide +kernel
theorem dX5_init_22 : decode cX5_init 22 = .ok (.putfield 17, 3) := by decide +kernel
theorem dX5_init_25 : decode cX5_init 25 = .ok (.aload_n 0, 1) := by decide +kernel
theorem dX5_init_26 : decode cX5_init 26 = .ok (.bipush 20, 2) := by decide +kernel
theorem dX5_init_28 : decode cX5_init 28 = .ok (.iconst 5, 1) := by decide +kernel
theorem dX5_init_29 : decode cX5_init 29 = .ok (.multianewarray 15 2, 4) := by decide +kernel
theorem dX5_init_33 : decode cX5_init 33 = .ok (.putfield 20, 3) := by decide +kernel
theorem dX5_init_36 : decode cX5_init 36 = .ok (.aload_n 0, 1) := by decide +kernel
theorem dX5_init_37 : decode cX5_init 37 = .ok (.bipush 50, 2) := by decide +kernel
theorem dX5_init_39 : decode cX5_init 39 = .ok (.iconst 3, 1) := by decide +kernel
theorem dX5_init_40 : decode cX5_init 40 = .ok (.multianewarray 15 2, 4) := by decide +kernel
theorem dX5_init_44 : decode cX5_init 44 = .ok (.putfield 23, 3) := by decide +kernel
theorem dX5_init_47 : decode cX5_init 47 = .ok (.return_, 1) := by decide +kernel
theorem dX5_append_0 : decode cX5_append 0 = .ok (.aload_n 0, 1) := by decide +kernel
theorem dX5_append_1 : decode cX5_append 1 = .ok (.getfield 26, 3) := by decide +kernel
theorem dX5_append_4 : decode cX5_append 4 = .ok (.sipush 2000, 3) := by decide +kernel
theorem dX5_append_7 : decode cX5_append 7 = .ok (.if_icmp .ge 24, 3) := by decide +kernel
theorem dX5_append_31 : decode cX5_append 31 = .ok (.aload_n 0, 1) := by decide +kernel
theorem dX5_append_32 : decode cX5_append 32 = .ok (.getfield 26, 3) := by decide +kernel
theorem dX5_append_35 : decode cX5_append 35 = .ok (.ireturn, 1) := by decide +kernel
theorem dX5_append_10 : decode cX5_append 10 = .ok (.aload_n 0, 1) := by decide +kernel
theorem dX5_append_11 : decode cX5_append 11 = .ok (.getfield 11, 3) := by decide +kernel
theorem dX5_append_14 : decode cX5_append 14 = .ok (.aload_n 0, 1) := by decide +kernel
theorem dX5_append_15 : decode cX5_append 15 = .ok (.getfield 26, 3) := by decide +kernel
theorem dX5_append_18 : decode cX5_append 18 = .ok (.iload_n 1, 1) := by decide +kernel
theorem dX5_append_19 : decode cX5_append 19 = .ok (.i2c, 1) := by decide +kernel
theorem dX5_append_20 : decode cX5_append 20 = .ok (.castore, 1) := by decide +kernel
theorem dX5_append_21 : decode cX5_append 21 = .ok (.aload_n 0, 1) := by decide +kernel
theorem dX5_append_22 : decode cX5_append 22 = .ok (.dup, 1) := by decide +kernel
theorem dX5_append_23 : decode cX5_append 23 = .ok (.getfield 26, 3) := by decide +kernel
theorem dX5_append_26 : decode cX5_append 26 = .ok (.iconst 1, 1) := by decide +kernel
theorem dX5_append_27 : decode cX5_append 27 = .ok (.iadd, 1) := by decide +kernel
theorem dX5_append_28 : decode cX5_append 28 = .ok (.putfield 26, 3) := by decide +kernel
theorem dX5_write_0 : decode cX5_write 0 = .ok (.aload_n 0, 1) := by decide +kernel
theorem dX5_write_1 : decode cX5_write 1 = .ok (.getfield 30, 3) := by decide +kernel
theorem dX5_write_4 : decode cX5_write 4 = .ok (.aload_n 0, 1) := by decide +kernel
theorem dX5_write_5 : decode cX5_write 5 = .ok (.getfield 11, 3) := by decide +kernel
theorem dX5_write_8 : decode cX5_write 8 = .ok (.arraylength, 1) := by decide +kernel
theorem dX5_write_9 : decode cX5_write 9 = .ok (.if_icmp .ge 23, 3) := by decide +kernel
theorem dX5_write_32 : decode cX5_write 32 = .ok (.return_, 1) := by decide +kernel
theorem dX5_write_12 : decode cX5_write 12 = .ok (.aload_n 0, 1) := by decide +kernel
theorem dX5_write_13 : decode cX5_write 13 = .ok (.getfield 11, 3) := by decide +kernel
theorem dX5_write_16 : decode cX5_write 16 = .ok (.aload_n 0, 1) := by decide +kernel
theorem dX5_write_17 : decode cX5_write 17 = .ok (.getfield 30, 3) := by decide +kernel
theorem dX5_write_20 : decode cX5_write 20 = .ok (.iload_n 1, 1) := by decide +kernel
theorem dX5_write_21 : decode cX5_write 21 = .ok (.castore, 1) := by decide +kernel
theorem dX5_write_22 : decode cX5_write 22 = .ok (.aload_n 0, 1) := by decide +kernel
theorem dX5_write_23 : decode cX5_write 23 = .ok (.dup, 1) := by decide +kernel
theorem dX5_write_24 : decode cX5_write 24 = .ok (.getfield 30, 3) := by decide +kernel
theorem dX5_write_27 : decode cX5_write 27 = .ok (.iconst 1, 1) := by decide +kernel
theorem dX5_write_28 : decode cX5_write 28 = .ok (.iadd, 1) := by decide +kernel
theorem dX5_write_29 : decode cX5_write 29 = .ok (.putfield 30, 3) := by decide +kernel
theorem dX5_writeNumber_0 : decode cX5_writeNumber 0 = .ok (.iconst 0, 1) := by decide +kernel
theorem dX5_writeNumber_1 : decode cX5_writeNumber 1 = .ok (.istore_n 2, 1) := by decide +kernel
theorem dX5_writeNumber_2 : decode cX5_writeNumber 2 = .ok (.sipush 10000, 3) := by decide +kernel
theorem dX5_writeNumber_5 : decode cX5_writeNumber 5 = .ok (.istore_n 3, 1) := by decide +kernel
theorem dX5_writeNumber_6 : decode cX5_writeNumber 6 = .ok (.iload_n 3, 1) := by decide +kernel
theorem dX5_writeNumber_7 : decode cX5_writeNumber 7 = .ok (.ifCond .le 45, 3) := by decide +kernel
theorem dX5_writeNumber_10 : decode cX5_writeNumber 10 = .ok (.iload_n 1, 1) := by decide +kernel
theorem dX5_writeNumber_11 : decode cX5_writeNumber 11 = .ok (.iload_n 3, 1) := by decide +kernel
theorem dX5_writeNumber_12 : decode cX5_writeNumber 12 = .ok (.idiv, 1) := by decide +kernel
theorem dX5_writeNumber_13 : decode cX5_writeNumber 13 = .ok (.bipush 10, 2) := by decide +kernel
theorem dX5_writeNumber_15 : decode cX5_writeNumber 15 = .ok (.irem, 1) := by decide +kernel
theorem dX5_writeNumber_16 : decode cX5_writeNumber 16 = .ok (.istore 4, 2) := by decide +kernel
theorem dX5_writeNumber_18 : decode cX5_writeNumber 18 = .ok (.iload 4, 2) := by decide +kernel
theorem dX5_writeNumber_20 : decode cX5_writeNumber 20 = .ok (.ifCond .ne 12, 3) := by decide +kernel
theorem dX5_writeNumber_32 : decode cX5_writeNumber 32 = .ok (.aload_n 0, 1) := by decide +kernel
theorem dX5_writeNumber_33 : decode cX5_writeNumber 33 = .ok (.bipush 48, 2) := by decide +kernel
theorem dX5_writeNumber_35 : decode cX5_writeNumber 35 = .ok (.iload 4, 2) := by decide +kernel
theorem dX5_writeNumber_37 : decode cX5_writeNumber 37 = .ok (.iadd, 1) := by decide +kernel
theorem dX5_writeNumber_38 : decode cX5_writeNumber 38 = .ok (.i2c, 1) := by decide +kernel
theorem dX5_writeNumber_39 : decode cX5_writeNumber 39 = .ok (.invokevirtual 63, 3) := by decide +kernel
theorem dX5_writeNumber_42 : decode cX5_writeNumber 42 = .ok (.iconst 1, 1) := by decide +kernel
theorem dX5_writeNumber_43 : decode cX5_writeNumber 43 = .ok (.istore_n 2, 1) := by decide +kernel
theorem dX5_writeNumber_44 : decode cX5_writeNumber 44 = .ok (.iload_n 3, 1) := by decide +kernel
theorem dX5_writeNumber_45 : decode cX5_writeNumber 45 = .ok (.bipush 10, 2) := by decide +kernel
theorem dX5_writeNumber_47 : decode cX5_writeNumber 47 = .ok (.idiv, 1) := by decide +kernel
theorem dX5_writeNumber_48 : decode cX5_writeNumber 48 = .ok (.istore_n 3, 1) := by decide +kernel
theorem dX5_writeNumber_49 : decode cX5_writeNumber 49 = .ok (.goto (-43), 3) := by decide +kernel
theorem dX5_writeNumber_23 : decode cX5_writeNumber 23 = .ok (.iload_n 2, 1) := by decide +kernel
theorem dX5_writeNumber_24 : decode cX5_writeNumber 24 = .ok (.ifCond .ne 8, 3) := by decide +kernel
theorem dX5_writeNumber_27 : decode cX5_writeNumber 27 = .ok (.iload_n 3, 1) := by decide +kernel
theorem dX5_writeNumber_28 : decode cX5_writeNumber 28 = .ok (.iconst 1, 1) := by decide +kernel
theorem dX5_writeNumber_29 : decode cX5_writeNumber 29 = .ok (.if_icmp .ne 15, 3) := by decide +kernel
theorem dX5_writeNumber_52 : decode cX5_writeNumber 52 = .ok (.aload_n 0, 1) := by decide +kernel
theorem dX5_writeNumber_53 : decode cX5_writeNumber 53 = .ok (.bipush 32, 2) := by decide +kernel
theorem dX5_writeNumber_55 : decode cX5_writeNumber 55 = .ok (.invokevirtual 63, 3) := by decide +kernel
theorem dX5_writeNumber_58 : decode cX5_writeNumber 58 = .ok (.return_, 1) := by decide +kernel
theorem dX5_writePart_0 : decode cX5_writePart 0 = .ok (.bipush 56, 2) := by decide +kernel
theorem dX5_writePart_2 : decode cX5_writePart 2 = .ok (.istore 4, 2) := by decide +kernel
theorem dX5_writePart_4 : decode cX5_writePart 4 = .ok (.iload 4, 2) := by decide +kernel
theorem dX5_writePart_6 : decode cX5_writePart 6 = .ok (.ifCond .lt 34, 3) := by decide +kernel
theorem dX5_writePart_9 : decode cX5_writePart 9 = .ok (.lload_n 1, 1) := by decide +kernel
theorem dX5_writePart_10 : decode cX5_writePart 10 = .ok (.iload 4, 2) := by decide +kernel
theorem dX5_writePart_12 : decode cX5_writePart 12 = .ok (.lshr, 1) := by decide +kernel
theorem dX5_writePart_13 : decode cX5_writePart 13 = .ok (.ldc2_w 67, 3) := by decide +kernel
theorem dX5_writePart_16 : decode cX5_writePart 16 = .ok (.land, 1) := by decide +kernel
theorem dX5_writePart_17 : decode cX5_writePart 17 = .ok (.lstore 5, 2) := by decide +kernel
theorem dX5_writePart_19 : decode cX5_writePart 19 = .ok (.lload 5, 2) := by decide +kernel
theorem dX5_writePart_21 : decode cX5_writePart 21 = .ok (.lconst 0, 1) := by decide +kernel
theorem dX5_writePart_22 : decode cX5_writePart 22 = .ok (.lcmp, 1) := by decide +kernel
theorem dX5_writePart_23 : decode cX5_writePart 23 = .ok (.ifCond .eq 11, 3) := by decide +kernel
theorem dX5_writePart_34 : decode cX5_writePart 34 = .ok (.iinc 4 (-8), 3) := by decide +kernel
theorem dX5_writePart_37 : decode cX5_writePart 37 = .ok (.goto (-33), 3) := by decide +kernel
theorem dX5_writePart_26 : decode cX5_writePart 26 = .ok (.aload_n 0, 1) := by decide +kernel
theorem dX5_writePart_27 : decode cX5_writePart 27 = .ok (.lload 5, 2) := by decide +kernel
theorem dX5_writePart_29 : decode cX5_writePart 29 = .ok (.l2i, 1) := by decide +kernel
theorem dX5_writePart_30 : decode cX5_writePart 30 = .ok (.i2c, 1) := by decide +kernel
theorem dX5_writePart_31 : decode cX5_writePart 31 = .ok (.invokevirtual 63, 3) := by decide +kernel
theorem dX5_writePart_40 : decode cX5_writePart 40 = .ok (.aload_n 0, 1) := by decide +kernel
theorem dX5_writePart_41 : decode cX5_writePart 41 = .ok (.bipush 32, 2) := by decide +kernel
theorem dX5_writePart_43 : decode cX5_writePart 43 = .ok (.invokevirtual 63, 3) := by decide +kernel
theorem dX5_writePart_46 : decode cX5_writePart 46 = .ok (.aload_n 0, 1) := by decide +kernel
theorem dX5_writePart_47 : decode cX5_writePart 47 = .ok (.iload_n 3, 1) := by decide +kernel
theorem dX5_writePart_48 : decode cX5_writePart 48 = .ok (.invokevirtual 43, 3) := by decide +kernel
theorem dX5_writePart_51 : decode cX5_writePart 51 = .ok (.return_, 1) := by decide +kernel
theorem dX5_writeSentence_0 : decode cX5_writeSentence 0 = .ok (.aload_n 0, 1) := by decide +kernel
theorem dX5_writeSentence_1 : decode cX5_writeSentence 1 = .ok (.aload_n 0, 1) := by decide +kernel
theorem dX5_writeSentence_2 : decode cX5_writeSentence 2 = .ok (.getfield 26, 3) := by decide +kernel
theorem dX5_writeSentence_5 : decode cX5_writeSentence 5 = .ok (.putfield 30, 3) := by decide +kernel
theorem dX5_writeSentence_8 : decode cX5_writeSentence 8 = .ok (.iload_n 1, 1) := by decide +kernel
theorem dX5_writeSentence_9 : decode cX5_writeSentence 9 = .ok (.tableswitch 175 0 3 #[31, 91, 128, 147], 31) := by decide +kernel
theorem dX5_writeSentence_184 : decode cX5_writeSentence 184 = .ok (.aload_n 0, 1) := by decide +kernel
theorem dX5_writeSentence_185 : decode cX5_writeSentence 185 = .ok (.ldc2_w 61, 3) := by decide +kernel
theorem dX5_writeSentence_188 : decode cX5_writeSentence 188 = .ok (.iload_n 2, 1) := by decide +kernel
theorem dX5_writeSentence_189 : decode cX5_writeSentence 189 = .ok (.invokevirtual 35, 3) := by decide +kernel
theorem dX5_writeSentence_192 : decode cX5_writeSentence 192 = .ok (.aload_n 0, 1) := by decide +kernel
theorem dX5_writeSentence_193 : decode cX5_writeSentence 193 = .ok (.bipush 59, 2) := by decide +kernel
theorem dX5_writeSentence_195 : decode cX5_writeSentence 195 = .ok (.invokevirtual 63, 3) := by decide +kernel
theorem dX5_writeSentence_198 : decode cX5_writeSentence 198 = .ok (.aload_n 0, 1) := by decide +kernel
theorem dX5_writeSentence_199 : decode cX5_writeSentence 199 = .ok (.bipush 32, 2) := by decide +kernel
theorem dX5_writeSentence_201 : decode cX5_writeSentence 201 = .ok (.invokevirtual 63, 3) := by decide +kernel
theorem dX5_writeSentence_204 : decode cX5_writeSentence 204 = .ok (.aload_n 0, 1) := by decide +kernel
theorem dX5_writeSentence_205 : decode cX5_writeSentence 205 = .ok (.getfield 30, 3) := by decide +kernel
theorem dX5_writeSentence_208 : decode cX5_writeSentence 208 = .ok (.ireturn, 1) := by decide +kernel
theorem dX5_writeSentence_40 : decode cX5_writeSentence 40 = .ok (.aload_n 0, 1) := by decide +kernel
theorem dX5_writeSentence_41 : decode cX5_writeSentence 41 = .ok (.ldc2_w 33, 3) := by decide +kernel
theorem dX5_writeSentence_44 : decode cX5_writeSentence 44 = .ok (.iload_n 2, 1) := by decide +kernel
theorem dX5_writeSentence_45 : decode cX5_writeSentence 45 = .ok (.invokevirtual 35, 3) := by decide +kernel
theorem dX5_writeSentence_48 : decode cX5_writeSentence 48 = .ok (.aload_n 0, 1) := by decide +kernel
theorem dX5_writeSentence_49 : decode cX5_writeSentence 49 = .ok (.ldc2_w 39, 3) := by decide +kernel
theorem dX5_writeSentence_52 : decode cX5_writeSentence 52 = .ok (.iload_n 3, 1) := by decide +kernel
theorem dX5_writeSentence_53 : decode cX5_writeSentence 53 = .ok (.invokevirtual 35, 3) := by decide +kernel
theorem dX5_writeSentence_56 : decode cX5_writeSentence 56 = .ok (.aload_n 0, 1) := by decide +kernel
theorem dX5_writeSentence_57 : decode cX5_writeSentence 57 = .ok (.ldc2_w 41, 3) := by decide +kernel
theorem dX5_writeSentence_60 : decode cX5_writeSentence 60 = .ok (.iload 4, 2) := by decide +kernel
theorem dX5_writeSentence_62 : decode cX5_writeSentence 62 = .ok (.invokevirtual 35, 3) := by decide +kernel
theorem dX5_writeSentence_65 : decode cX5_writeSentence 65 = .ok (.iconst 1, 1) := by decide +kernel
theorem dX5_writeSentence_66 : decode cX5_writeSentence 66 = .ok (.istore 6, 2) := by decide +kernel
theorem dX5_writeSentence_68 : decode cX5_writeSentence 68 = .ok (.iload 6, 2) := by decide +kernel
theorem dX5_writeSentence_70 : decode cX5_writeSentence 70 = .ok (.iload 5, 2) := by decide +kernel
theorem dX5_writeSentence_72 : decode cX5_writeSentence 72 = .ok (.if_icmp .ge 25, 3) := by decide +kernel
theorem dX5_writeSentence_75 : decode cX5_writeSentence 75 = .ok (.iload 6, 2) := by decide +kernel
theorem dX5_writeSentence_77 : decode cX5_writeSentence 77 = .ok (.bipush 12, 2) := by decide +kernel
theorem dX5_writeSentence_79 : decode cX5_writeSentence 79 = .ok (.if_icmp .ge 18, 3) := by decide +kernel
theorem dX5_writeSentence_82 : decode cX5_writeSentence 82 = .ok (.aload_n 0, 1) := by decide +kernel
theorem dX5_writeSentence_83 : decode cX5_writeSentence 83 = .ok (.iload 4, 2) := by decide +kernel
theorem dX5_writeSentence_85 : decode cX5_writeSentence 85 = .ok (.iload 6, 2) := by decide +kernel
theorem dX5_writeSentence_87 : decode cX5_writeSentence 87 = .ok (.iadd, 1) := by decide +kernel
theorem dX5_writeSentence_88 : decode cX5_writeSentence 88 = .ok (.invokevirtual 43, 3) := by decide +kernel
theorem dX5_writeSentence_91 : decode cX5_writeSentence 91 = .ok (.iinc 6 1, 3) := by decide +kernel
theorem dX5_writeSentence_94 : decode cX5_writeSentence 94 = .ok (.goto (-26), 3) := by decide +kernel
theorem dX5_writeSentence_97 : decode cX5_writeSentence 97 = .ok (.goto 95, 3) := by decide +kernel
theorem dX5_writeSentence_100 : decode cX5_writeSentence 100 = .ok (.aload_n 0, 1) := by decide +kernel
theorem dX5_writeSentence_101 : decode cX5_writeSentence 101 = .ok (.ldc2_w 47, 3) := by decide +kernel
theorem dX5_writeSentence_104 : decode cX5_writeSentence 104 = .ok (.iload_n 2, 1) := by decide +kernel
theorem dX5_writeSentence_105 : decode cX5_writeSentence 105 = .ok (.invokevirtual 35, 3) := by decide +kernel
theorem dX5_writeSentence_108 : decode cX5_writeSentence 108 = .ok (.aload_n 0, 1) := by decide +kernel
theorem dX5_writeSentence_109 : decode cX5_writeSentence 109 = .ok (.ldc2_w 49, 3) := by decide +kernel
theorem dX5_writeSentence_112 : decode cX5_writeSentence 112 = .ok (.iload_n 3, 1) := by decide +kernel
theorem dX5_writeSentence_113 : decode cX5_writeSentence 113 = .ok (.invokevirtual 35, 3) := by decide +kernel
theorem dX5_writeSentence_116 : decode cX5_writeSentence 116 = .ok (.aload_n 0, 1) := by decide +kernel
theorem dX5_writeSentence_117 : decode cX5_writeSentence 117 = .ok (.ldc2_w 51, 3) := by decide +kernel
theorem dX5_writeSentence_120 : decode cX5_writeSentence 120 = .ok (.iload 4, 2) := by decide +kernel
theorem dX5_writeSentence_122 : decode cX5_writeSentence 122 = .ok (.invokevirtual 35, 3) := by decide +kernel
theorem dX5_writeSentence_125 : decode cX5_writeSentence 125 = .ok (.aload_n 0, 1) := by decide +kernel
theorem dX5_writeSentence_126 : decode cX5_writeSentence 126 = .ok (.ldc2_w 53, 3) := by decide +kernel
theorem dX5_writeSentence_129 : decode cX5_writeSentence 129 = .ok (.iload 5, 2) := by decide +kernel
theorem dX5_writeSentence_131 : decode cX5_writeSentence 131 = .ok (.invokevirtual 35, 3) := by decide +kernel
theorem dX5_writeSentence_134 : decode cX5_writeSentence 134 = .ok (.goto 58, 3) := by decide +kernel
theorem dX5_writeSentence_137 : decode cX5_writeSentence 137 = .ok (.aload_n 0, 1) := by decide +kernel
theorem dX5_writeSentence_138 : decode cX5_writeSentence 138 = .ok (.ldc2_w 55, 3) := by decide +kernel
theorem dX5_writeSentence_141 : decode cX5_writeSentence 141 = .ok (.iload_n 2, 1) := by decide +kernel
theorem dX5_writeSentence_142 : decode cX5_writeSentence 142 = .ok (.invokevirtual 35, 3) := by decide +kernel
theorem dX5_writeSentence_145 : decode cX5_writeSentence 145 = .ok (.aload_n 0, 1) := by decide +kernel
theorem dX5_writeSentence_146 : decode cX5_writeSentence 146 = .ok (.ldc2_w 57, 3) := by decide +kernel
theorem dX5_writeSentence_149 : decode cX5_writeSentence 149 = .ok (.iload_n 3, 1) := by decide +kernel
theorem dX5_writeSentence_150 : decode cX5_writeSentence 150 = .ok (.invokevirtual 35, 3) := by decide +kernel
theorem dX5_writeSentence_153 : decode cX5_writeSentence 153 = .ok (.goto 39, 3) := by decide +kernel
theorem dX5_writeSentence_156 : decode cX5_writeSentence 156 = .ok (.aload_n 0, 1) := by decide +kernel
theorem dX5_writeSentence_157 : decode cX5_writeSentence 157 = .ok (.ldc2_w 55, 3) := by decide +kernel
theorem dX5_writeSentence_160 : decode cX5_writeSentence 160 = .ok (.iload_n 2, 1) := by decide +kernel
theorem dX5_writeSentence_161 : decode cX5_writeSentence 161 = .ok (.invokevirtual 35, 3) := by decide +kernel
theorem dX5_writeSentence_164 : decode cX5_writeSentence 164 = .ok (.aload_n 0, 1) := by decide +kernel
theorem dX5_writeSentence_165 : decode cX5_writeSentence 165 = .ok (.ldc2_w 59, 3) := by decide +kernel
theorem dX5_writeSentence_168 : decode cX5_writeSentence 168 = .ok (.iload_n 3, 1) := by decide +kernel
theorem dX5_writeSentence_169 : decode cX5_writeSentence 169 = .ok (.invokevirtual 35, 3) := by decide +kernel
theorem dX5_writeSentence_172 : decode cX5_writeSentence 172 = .ok (.aload_n 0, 1) := by decide +kernel
theorem dX5_writeSentence_173 : decode cX5_writeSentence 173 = .ok (.ldc2_w 57, 3) := by decide +kernel
theorem dX5_writeSentence_176 : decode cX5_writeSentence 176 = .ok (.iload 4, 2) := by decide +kernel
theorem dX5_writeSentence_178 : decode cX5_writeSentence 178 = .ok (.invokevirtual 35, 3) := by decide +kernel
theorem dX5_writeSentence_181 : decode cX5_writeSentence 181 = .ok (.goto 11, 3) := by decide +kernel
theorem dX5_forgetTables_0 : decode cX5_forgetTables 0 = .ok (.aload_n 0, 1) := by decide +kernel
theorem dX5_forgetTables_1 : decode cX5_forgetTables 1 = .ok (.iconst 0, 1) := by decide +kernel
theorem dX5_forgetTables_2 : decode cX5_forgetTables 2 = .ok (.putfield 91, 3) := by decide +kernel
theorem dX5_forgetTables_5 : decode cX5_forgetTables 5 = .ok (.iconst 0, 1) := by decide +kernel
theorem dX5_forgetTables_6 : decode cX5_forgetTables 6 = .ok (.istore_n 1, 1) := by decide +kernel
theorem dX5_forgetTables_7 : decode cX5_forgetTables 7 = .ok (.iload_n 1, 1) := by decide +kernel
theorem dX5_forgetTables_8 : decode cX5_forgetTables 8 = .ok (.bipush 20, 2) := by decide +kernel
theorem dX5_forgetTables_10 : decode cX5_forgetTables 10 = .ok (.if_icmp .ge 19, 3) := by decide +kernel
theorem dX5_forgetTables_13 : decode cX5_forgetTables 13 = .ok (.aload_n 0, 1) := by decide +kernel
theorem dX5_forgetTables_14 : decode cX5_forgetTables 14 = .ok (.getfield 17, 3) := by decide +kernel
theorem dX5_forgetTables_17 : decode cX5_forgetTables 17 = .ok (.iload_n 1, 1) := by decide +kernel
theorem dX5_forgetTables_18 : decode cX5_forgetTables 18 = .ok (.aaload, 1) := by decide +kernel
theorem dX5_forgetTables_19 : decode cX5_forgetTables 19 = .ok (.iconst 0, 1) := by decide +kernel
theorem dX5_forgetTables_20 : decode cX5_forgetTables 20 = .ok (.invokestatic 94, 3) := by decide +kernel
theorem dX5_forgetTables_23 : decode cX5_forgetTables 23 = .ok (.iinc 1 1, 3) := by decide +kernel
theorem dX5_forgetTables_26 : decode cX5_forgetTables 26 = .ok (.goto (-19), 3) := by decide +kernel
theorem dX5_forgetTables_29 : decode cX5_forgetTables 29 = .ok (.iconst 0, 1) := by decide +kernel
theorem dX5_forgetTables_30 : decode cX5_forgetTables 30 = .ok (.istore_n 1, 1) := by decide +kernel
theorem dX5_forgetTables_31 : decode cX5_forgetTables 31 = .ok (.iload_n 1, 1) := by decide +kernel
theorem dX5_forgetTables_32 : decode cX5_forgetTables 32 = .ok (.bipush 20, 2) := by decide +kernel
theorem dX5_forgetTables_34 : decode cX5_forgetTables 34 = .ok (.if_icmp .ge 19, 3) := by decide +kernel
theorem dX5_forgetTables_37 : decode cX5_forgetTables 37 = .ok (.aload_n 0, 1) := by decide +kernel
theorem dX5_forgetTables_38 : decode cX5_forgetTables 38 = .ok (.getfield 20, 3) := by decide +kernel
theorem dX5_forgetTables_41 : decode cX5_forgetTables 41 = .ok (.iload_n 1, 1) := by decide +kernel
theorem dX5_forgetTables_42 : decode cX5_forgetTables 42 = .ok (.aaload, 1) := by decide +kernel
theorem dX5_forgetTables_43 : decode cX5_forgetTables 43 = .ok (.iconst 0, 1) := by decide +kernel
theorem dX5_forgetTables_44 : decode cX5_forgetTables 44 = .ok (.invokestatic 94, 3) := by decide +kernel
theorem dX5_forgetTables_47 : decode cX5_forgetTables 47 = .ok (.iinc 1 1, 3) := by decide +kernel
theorem dX5_forgetTables_50 : decode cX5_forgetTables 50 = .ok (.goto (-19), 3) := by decide +kernel
theorem dX5_forgetTables_53 : decode cX5_forgetTables 53 = .ok (.return_, 1) := by decide +kernel
theorem dX5_kindOf_0 : decode cX5_kindOf 0 = .ok (.iload_n 0, 1) := by decide +kernel
theorem dX5_kindOf_1 : decode cX5_kindOf 1 = .ok (.bipush 97, 2) := by decide +kernel
theorem dX5_kindOf_3 : decode cX5_kindOf 3 = .ok (.if_icmp .lt 12, 3) := by decide +kernel
theorem dX5_kindOf_15 : decode cX5_kindOf 15 = .ok (.iload_n 0, 1) := by decide +kernel
theorem dX5_kindOf_16 : decode cX5_kindOf 16 = .ok (.bipush 48, 2) := by decide +kernel
theorem dX5_kindOf_18 : decode cX5_kindOf 18 = .ok (.if_icmp .lt 12, 3) := by decide +kernel
theorem dX5_kindOf_30 : decode cX5_kindOf 30 = .ok (.iload_n 0, 1) := by decide +kernel
theorem dX5_kindOf_31 : decode cX5_kindOf 31 = .ok (.bipush 59, 2) := by decide +kernel
theorem dX5_kindOf_33 : decode cX5_kindOf 33 = .ok (.if_icmp .eq 9, 3) := by decide +kernel
theorem dX5_kindOf_42 : decode cX5_kindOf 42 = .ok (.iload_n 0, 1) := by decide +kernel
theorem dX5_kindOf_43 : decode cX5_kindOf 43 = .ok (.goto 5, 3) := by decide +kernel
theorem dX5_kindOf_48 : decode cX5_kindOf 48 = .ok (.ireturn, 1) := by decide +kernel
theorem dX5_kindOf_36 : decode cX5_kindOf 36 = .ok (.iload_n 0, 1) := by decide +kernel
theorem dX5_kindOf_37 : decode cX5_kindOf 37 = .ok (.bipush 38, 2) := by decide +kernel
theorem dX5_kindOf_39 : decode cX5_kindOf 39 = .ok (.if_icmp .ne 7, 3) := by decide +kernel
theorem dX5_kindOf_46 : decode cX5_kindOf 46 = .ok (.bipush 63, 2) := by decide +kernel
theorem dX5_kindOf_21 : decode cX5_kindOf 21 = .ok (.iload_n 0, 1) := by decide +kernel
theorem dX5_kindOf_22 : decode cX5_kindOf 22 = .ok (.bipush 57, 2) := by decide +kernel
theorem dX5_kindOf_24 : decode cX5_kindOf 24 = .ok (.if_icmp .gt 6, 3) := by decide +kernel
theorem dX5_kindOf_27 : decode cX5_kindOf 27 = .ok (.bipush 48, 2) := by decide +kernel
theorem dX5_kindOf_29 : decode cX5_kindOf 29 = .ok (.ireturn, 1) := by decide +kernel
theorem dX5_kindOf_6 : decode cX5_kindOf 6 = .ok (.iload_n 0, 1) := by decide +kernel
theorem dX5_kindOf_7 : decode cX5_kindOf 7 = .ok (.bipush 122, 2) := by decide +kernel
theorem dX5_kindOf_9 : decode cX5_kindOf 9 = .ok (.if_icmp .gt 6, 3) := by decide +kernel
theorem dX5_kindOf_12 : decode cX5_kindOf 12 = .ok (.bipush 97, 2) := by decide +kernel
theorem dX5_kindOf_14 : decode cX5_kindOf 14 = .ok (.ireturn, 1) := by decide +kernel
theorem dX5_nextWord_0 : decode cX5_nextWord 0 = .ok (.aload_n 0, 1) := by decide +kernel
theorem dX5_nextWord_1 : decode cX5_nextWord 1 = .ok (.getfield 78, 3) := by decide +kernel
theorem dX5_nextWord_4 : decode cX5_nextWord 4 = .ok (.istore_n 1, 1) := by decide +kernel
theorem dX5_nextWord_5 : decode cX5_nextWord 5 = .ok (.iload_n 1, 1) := by decide +kernel
theorem dX5_nextWord_6 : decode cX5_nextWord 6 = .ok (.aload_n 0, 1) := by decide +kernel
theorem dX5_nextWord_7 : decode cX5_nextWord 7 = .ok (.getfield 26, 3) := by decide +kernel
theorem dX5_nextWord_10 : decode cX5_nextWord 10 = .ok (.if_icmp .ge 31, 3) := by decide +kernel
theorem dX5_nextWord_13 : decode cX5_nextWord 13 = .ok (.aload_n 0, 1) := by decide +kernel
theorem dX5_nextWord_14 : decode cX5_nextWord 14 = .ok (.getfield 11, 3) := by decide +kernel
theorem dX5_nextWord_17 : decode cX5_nextWord 17 = .ok (.iload_n 1, 1) := by decide +kernel
theorem dX5_nextWord_18 : decode cX5_nextWord 18 = .ok (.caload, 1) := by decide +kernel
theorem dX5_nextWord_19 : decode cX5_nextWord 19 = .ok (.bipush 32, 2) := by decide +kernel
theorem dX5_nextWord_21 : decode cX5_nextWord 21 = .ok (.if_icmp .eq 14, 3) := by decide +kernel
theorem dX5_nextWord_35 : decode cX5_nextWord 35 = .ok (.iinc 1 1, 3) := by decide +kernel
theorem dX5_nextWord_38 : decode cX5_nextWord 38 = .ok (.goto (-33), 3) := by decide +kernel
theorem dX5_nextWord_24 : decode cX5_nextWord 24 = .ok (.aload_n 0, 1) := by decide +kernel
theorem dX5_nextWord_25 : decode cX5_nextWord 25 = .ok (.getfield 11, 3) := by decide +kernel
theorem dX5_nextWord_28 : decode cX5_nextWord 28 = .ok (.iload_n 1, 1) := by decide +kernel
theorem dX5_nextWord_29 : decode cX5_nextWord 29 = .ok (.caload, 1) := by decide +kernel
theorem dX5_nextWord_30 : decode cX5_nextWord 30 = .ok (.bipush 10, 2) := by decide +kernel
theorem dX5_nextWord_32 : decode cX5_nextWord 32 = .ok (.if_icmp .ne 9, 3) := by decide +kernel
theorem dX5_nextWord_41 : decode cX5_nextWord 41 = .ok (.aload_n 0, 1) := by decide +kernel
theorem dX5_nextWord_42 : decode cX5_nextWord 42 = .ok (.dup, 1) := by decide +kernel
theorem dX5_nextWord_43 : decode cX5_nextWord 43 = .ok (.getfield 75, 3) := by decide +kernel
theorem dX5_nextWord_46 : decode cX5_nextWord 46 = .ok (.iconst 1, 1) := by decide +kernel
theorem dX5_nextWord_47 : decode cX5_nextWord 47 = .ok (.iadd, 1) := by decide +kernel
theorem dX5_nextWord_48 : decode cX5_nextWord 48 = .ok (.putfield 75, 3) := by decide +kernel
theorem dX5_nextWord_51 : decode cX5_nextWord 51 = .ok (.aload_n 0, 1) := by decide +kernel
theorem dX5_nextWord_52 : decode cX5_nextWord 52 = .ok (.iload_n 1, 1) := by decide +kernel
theorem dX5_nextWord_53 : decode cX5_nextWord 53 = .ok (.putfield 100, 3) := by decide +kernel
theorem dX5_nextWord_56 : decode cX5_nextWord 56 = .ok (.aload_n 0, 1) := by decide +kernel
theorem dX5_nextWord_57 : decode cX5_nextWord 57 = .ok (.lconst 0, 1) := by decide +kernel
theorem dX5_nextWord_58 : decode cX5_nextWord 58 = .ok (.putfield 103, 3) := by decide +kernel
theorem dX5_nextWord_61 : decode cX5_nextWord 61 = .ok (.aload_n 0, 1) := by decide +kernel
theorem dX5_nextWord_62 : decode cX5_nextWord 62 = .ok (.iload_n 1, 1) := by decide +kernel
theorem dX5_nextWord_63 : decode cX5_nextWord 63 = .ok (.aload_n 0, 1) := by decide +kernel
theorem dX5_nextWord_64 : decode cX5_nextWord 64 = .ok (.getfield 26, 3) := by decide +kernel
theorem dX5_nextWord_67 : decode cX5_nextWord 67 = .ok (.if_icmp .ge 15, 3) := by decide +kernel
theorem dX5_nextWord_82 : decode cX5_nextWord 82 = .ok (.bipush 101, 2) := by decide +kernel
theorem dX5_nextWord_84 : decode cX5_nextWord 84 = .ok (.putfield 84, 3) := by decide +kernel
theorem dX5_nextWord_87 : decode cX5_nextWord 87 = .ok (.aload_n 0, 1) := by decide +kernel
theorem dX5_nextWord_88 : decode cX5_nextWord 88 = .ok (.getfield 84, 3) := by decide +kernel
theorem dX5_nextWord_91 : decode cX5_nextWord 91 = .ok (.bipush 97, 2) := by decide +kernel
theorem dX5_nextWord_93 : decode cX5_nextWord 93 = .ok (.if_icmp .eq 12, 3) := by decide +kernel
theorem dX5_nextWord_105 : decode cX5_nextWord 105 = .ok (.iconst 1, 1) := by decide +kernel
theorem dX5_nextWord_106 : decode cX5_nextWord 106 = .ok (.goto 4, 3) := by decide +kernel
theorem dX5_nextWord_110 : decode cX5_nextWord 110 = .ok (.istore_n 2, 1) := by decide +kernel
theorem dX5_nextWord_111 : decode cX5_nextWord 111 = .ok (.iload_n 2, 1) := by decide +kernel
theorem dX5_nextWord_112 : decode cX5_nextWord 112 = .ok (.ifCond .eq 52, 3) := by decide +kernel
theorem dX5_nextWord_115 : decode cX5_nextWord 115 = .ok (.iload_n 1, 1) := by decide +kernel
theorem dX5_nextWord_116 : decode cX5_nextWord 116 = .ok (.aload_n 0, 1) := by decide +kernel
theorem dX5_nextWord_117 : decode cX5_nextWord 117 = .ok (.getfield 26, 3) := by decide +kernel
theorem dX5_nextWord_120 : decode cX5_nextWord 120 = .ok (.if_icmp .ge 44, 3) := by decide +kernel
theorem dX5_nextWord_123 : decode cX5_nextWord 123 = .ok (.aload_n 0, 1) := by decide +kernel
theorem dX5_nextWord_124 : decode cX5_nextWord 124 = .ok (.getfield 11, 3) := by decide +kernel
theorem dX5_nextWord_127 : decode cX5_nextWord 127 = .ok (.iload_n 1, 1) := by decide +kernel
theorem dX5_nextWord_128 : decode cX5_nextWord 128 = .ok (.caload, 1) := by decide +kernel
theorem dX5_nextWord_129 : decode cX5_nextWord 129 = .ok (.invokestatic 107, 3) := by decide +kernel
theorem dX5_nextWord_132 : decode cX5_nextWord 132 = .ok (.aload_n 0, 1) := by decide +kernel
theorem dX5_nextWord_133 : decode cX5_nextWord 133 = .ok (.getfield 84, 3) := by decide +kernel
theorem dX5_nextWord_136 : decode cX5_nextWord 136 = .ok (.if_icmp .ne 28, 3) := by decide +kernel
theorem dX5_nextWord_139 : decode cX5_nextWord 139 = .ok (.aload_n 0, 1) := by decide +kernel
theorem dX5_nextWord_140 : decode cX5_nextWord 140 = .ok (.aload_n 0, 1) := by decide +kernel
theorem dX5_nextWord_141 : decode cX5_nextWord 141 = .ok (.getfield 103, 3) := by decide +kernel
theorem dX5_nextWord_144 : decode cX5_nextWord 144 = .ok (.bipush 8, 2) := by decide +kernel
theorem dX5_nextWord_146 : decode cX5_nextWord 146 = .ok (.lshl, 1) := by decide +kernel
theorem dX5_nextWord_147 : decode cX5_nextWord 147 = .ok (.aload_n 0, 1) := by decide +kernel
theorem dX5_nextWord_148 : decode cX5_nextWord 148 = .ok (.getfield 11, 3) := by decide +kernel
theorem dX5_nextWord_151 : decode cX5_nextWord 151 = .ok (.iload_n 1, 1) := by decide +kernel
theorem dX5_nextWord_152 : decode cX5_nextWord 152 = .ok (.caload, 1) := by decide +kernel
theorem dX5_nextWord_153 : decode cX5_nextWord 153 = .ok (.i2l, 1) := by decide +kernel
theorem dX5_nextWord_154 : decode cX5_nextWord 154 = .ok (.lor, 1) := by decide +kernel
theorem dX5_nextWord_155 : decode cX5_nextWord 155 = .ok (.putfield 103, 3) := by decide +kernel
theorem dX5_nextWord_158 : decode cX5_nextWord 158 = .ok (.iinc 1 1, 3) := by decide +kernel
theorem dX5_nextWord_161 : decode cX5_nextWord 161 = .ok (.goto (-50), 3) := by decide +kernel
theorem dX5_nextWord_164 : decode cX5_nextWord 164 = .ok (.aload_n 0, 1) := by decide +kernel
theorem dX5_nextWord_165 : decode cX5_nextWord 165 = .ok (.iload_n 2, 1) := by decide +kernel
theorem dX5_nextWord_166 : decode cX5_nextWord 166 = .ok (.ifCond .ne 12, 3) := by decide +kernel
theorem dX5_nextWord_178 : decode cX5_nextWord 178 = .ok (.iload_n 1, 1) := by decide +kernel
theorem dX5_nextWord_179 : decode cX5_nextWord 179 = .ok (.goto 6, 3) := by decide +kernel
theorem dX5_nextWord_185 : decode cX5_nextWord 185 = .ok (.putfield 78, 3) := by decide +kernel
theorem dX5_nextWord_188 : decode cX5_nextWord 188 = .ok (.return_, 1) := by decide +kernel
theorem dX5_nextWord_169 : decode cX5_nextWord 169 = .ok (.aload_n 0, 1) := by decide +kernel
theorem dX5_nextWord_170 : decode cX5_nextWord 170 = .ok (.getfield 84, 3) := by decide +kernel
theorem dX5_nextWord_173 : decode cX5_nextWord 173 = .ok (.bipush 101, 2) := by decide +kernel
theorem dX5_nextWord_175 : decode cX5_nextWord 175 = .ok (.if_icmp .ne 7, 3) := by decide +kernel
theorem dX5_nextWord_182 : decode cX5_nextWord 182 = .ok (.iload_n 1, 1) := by decide +kernel
theorem dX5_nextWord_183 : decode cX5_nextWord 183 = .ok (.iconst 1, 1) := by decide +kernel
theorem dX5_nextWord_184 : decode cX5_nextWord 184 = .ok (.iadd, 1) := by decide +kernel
theorem dX5_nextWord_96 : decode cX5_nextWord 96 = .ok (.aload_n 0, 1) := by decide +kernel
theorem dX5_nextWord_97 : decode cX5_nextWord 97 = .ok (.getfield 84, 3) := by decide +kernel
theorem dX5_nextWord_100 : decode cX5_nextWord 100 = .ok (.bipush 48, 2) := by decide +kernel
theorem dX5_nextWord_102 : decode cX5_nextWord 102 = .ok (.if_icmp .ne 7, 3) := by decide +kernel
theorem dX5_nextWord_109 : decode cX5_nextWord 109 = .ok (.iconst 0, 1) := by decide +kernel
theorem dX5_nextWord_70 : decode cX5_nextWord 70 = .ok (.aload_n 0, 1) := by decide +kernel
theorem dX5_nextWord_71 : decode cX5_nextWord 71 = .ok (.getfield 11, 3) := by decide +kernel
theorem dX5_nextWord_74 : decode cX5_nextWord 74 = .ok (.iload_n 1, 1) := by decide +kernel
theorem dX5_nextWord_75 : decode cX5_nextWord 75 = .ok (.caload, 1) := by decide +kernel
theorem dX5_nextWord_76 : decode cX5_nextWord 76 = .ok (.invokestatic 107, 3) := by decide +kernel
theorem dX5_nextWord_79 : decode cX5_nextWord 79 = .ok (.goto 5, 3) := by decide +kernel
theorem dX5_isWord_0 : decode cX5_isWord 0 = .ok (.aload_n 0, 1) := by decide +kernel
theorem dX5_isWord_1 : decode cX5_isWord 1 = .ok (.getfield 84, 3) := by decide +kernel
theorem dX5_isWord_4 : decode cX5_isWord 4 = .ok (.bipush 97, 2) := by decide +kernel
theorem dX5_isWord_6 : decode cX5_isWord 6 = .ok (.if_icmp .ne 16, 3) := by decide +kernel
theorem dX5_isWord_22 : decode cX5_isWord 22 = .ok (.iconst 0, 1) := by decide +kernel
theorem dX5_isWord_23 : decode cX5_isWord 23 = .ok (.ireturn, 1) := by decide +kernel
theorem dX5_isWord_9 : decode cX5_isWord 9 = .ok (.aload_n 0, 1) := by decide +kernel
theorem dX5_isWord_10 : decode cX5_isWord 10 = .ok (.getfield 103, 3) := by decide +kernel
theorem dX5_isWord_13 : decode cX5_isWord 13 = .ok (.lload_n 1, 1) := by decide +kernel
theorem dX5_isWord_14 : decode cX5_isWord 14 = .ok (.lcmp, 1) := by decide +kernel
theorem dX5_isWord_15 : decode cX5_isWord 15 = .ok (.ifCond .ne 7, 3) := by decide +kernel
theorem dX5_isWord_18 : decode cX5_isWord 18 = .ok (.iconst 1, 1) := by decide +kernel
theorem dX5_isWord_19 : decode cX5_isWord 19 = .ok (.goto 4, 3) := by decide +kernel
theorem dX5_skipWord_0 : decode cX5_skipWord 0 = .ok (.aload_n 0, 1) := by decide +kernel
theorem dX5_skipWord_1 : decode cX5_skipWord 1 = .ok (.lload_n 1, 1) := by decide +kernel
theorem dX5_skipWord_2 : decode cX5_skipWord 2 = .ok (.invokevirtual 111, 3) := by decide +kernel
theorem dX5_skipWord_5 : decode cX5_skipWord 5 = .ok (.istore_n 3, 1) := by decide +kernel
theorem dX5_skipWord_6 : decode cX5_skipWord 6 = .ok (.iload_n 3, 1) := by decide +kernel
theorem dX5_skipWord_7 : decode cX5_skipWord 7 = .ok (.ifCond .eq 7, 3) := by decide +kernel
theorem dX5_skipWord_14 : decode cX5_skipWord 14 = .ok (.iload_n 3, 1) := by decide +kernel
theorem dX5_skipWord_15 : decode cX5_skipWord 15 = .ok (.ireturn, 1) := by decide +kernel
theorem dX5_skipWord_10 : decode cX5_skipWord 10 = .ok (.aload_n 0, 1) := by decide +kernel
theorem dX5_skipWord_11 : decode cX5_skipWord 11 = .ok (.invokevirtual 81, 3) := by decide +kernel
theorem dX5_numberHere_0 : decode cX5_numberHere 0 = .ok (.aload_n 0, 1) := by decide +kernel
theorem dX5_numberHere_1 : decode cX5_numberHere 1 = .ok (.getfield 84, 3) := by decide +kernel
theorem dX5_numberHere_4 : decode cX5_numberHere 4 = .ok (.bipush 48, 2) := by decide +kernel
theorem dX5_numberHere_6 : decode cX5_numberHere 6 = .ok (.if_icmp .ne 17, 3) := by decide +kernel
theorem dX5_numberHere_23 : decode cX5_numberHere 23 = .ok (.iconst (-1), 1) := by decide +kernel
theorem dX5_numberHere_24 : decode cX5_numberHere 24 = .ok (.ireturn, 1) := by decide +kernel
theorem dX5_numberHere_9 : decode cX5_numberHere 9 = .ok (.aload_n 0, 1) := by decide +kernel
theorem dX5_numberHere_10 : decode cX5_numberHere 10 = .ok (.getfield 78, 3) := by decide +kernel
theorem dX5_numberHere_13 : decode cX5_numberHere 13 = .ok (.aload_n 0, 1) := by decide +kernel
theorem dX5_numberHere_14 : decode cX5_numberHere 14 = .ok (.getfield 100, 3) := by decide +kernel
theorem dX5_numberHere_17 : decode cX5_numberHere 17 = .ok (.isub, 1) := by decide +kernel
theorem dX5_numberHere_18 : decode cX5_numberHere 18 = .ok (.bipush 6, 2) := by decide +kernel
theorem dX5_numberHere_20 : decode cX5_numberHere 20 = .ok (.if_icmp .le 5, 3) := by decide +kernel
theorem dX5_numberHere_25 : decode cX5_numberHere 25 = .ok (.iconst 0, 1) := by decide +kernel
theorem dX5_numberHere_26 : decode cX5_numberHere 26 = .ok (.istore_n 3, 1) := by decide +kernel
theorem dX5_numberHere_27 : decode cX5_numberHere 27 = .ok (.aload_n 0, 1) := by decide +kernel
theorem dX5_numberHere_28 : decode cX5_numberHere 28 = .ok (.getfield 100, 3) := by decide +kernel
theorem dX5_numberHere_31 : decode cX5_numberHere 31 = .ok (.istore 4, 2) := by decide +kernel
theorem dX5_numberHere_33 : decode cX5_numberHere 33 = .ok (.iload 4, 2) := by decide +kernel
theorem dX5_numberHere_35 : decode cX5_numberHere 35 = .ok (.aload_n 0, 1) := by decide +kernel
theorem dX5_numberHere_36 : decode cX5_numberHere 36 = .ok (.getfield 78, 3) := by decide +kernel
theorem dX5_numberHere_39 : decode cX5_numberHere 39 = .ok (.if_icmp .ge 25, 3) := by decide +kernel
theorem dX5_numberHere_42 : decode cX5_numberHere 42 = .ok (.iload_n 3, 1) := by decide +kernel
theorem dX5_numberHere_43 : decode cX5_numberHere 43 = .ok (.bipush 10, 2) := by decide +kernel
theorem dX5_numberHere_45 : decode cX5_numberHere 45 = .ok (.imul, 1) := by decide +kernel
theorem dX5_numberHere_46 : decode cX5_numberHere 46 = .ok (.aload_n 0, 1) := by decide +kernel
theorem dX5_numberHere_47 : decode cX5_numberHere 47 = .ok (.getfield 11, 3) := by decide +kernel
theorem dX5_numberHere_50 : decode cX5_numberHere 50 = .ok (.iload 4, 2) := by decide +kernel
theorem dX5_numberHere_52 : decode cX5_numberHere 52 = .ok (.caload, 1) := by decide +kernel
theorem dX5_numberHere_53 : decode cX5_numberHere 53 = .ok (.bipush 48, 2) := by decide +kernel
theorem dX5_numberHere_55 : decode cX5_numberHere 55 = .ok (.isub, 1) := by decide +kernel
theorem dX5_numberHere_56 : decode cX5_numberHere 56 = .ok (.iadd, 1) := by decide +kernel
theorem dX5_numberHere_57 : decode cX5_numberHere 57 = .ok (.istore_n 3, 1) := by decide +kernel
theorem dX5_numberHere_58 : decode cX5_numberHere 58 = .ok (.iinc 4 1, 3) := by decide +kernel
theorem dX5_numberHere_61 : decode cX5_numberHere 61 = .ok (.goto (-28), 3) := by decide +kernel
theorem dX5_numberHere_64 : decode cX5_numberHere 64 = .ok (.iload_n 3, 1) := by decide +kernel
theorem dX5_numberHere_65 : decode cX5_numberHere 65 = .ok (.iload_n 1, 1) := by decide +kernel
theorem dX5_numberHere_66 : decode cX5_numberHere 66 = .ok (.if_icmp .lt 12, 3) := by decide +kernel
theorem dX5_numberHere_78 : decode cX5_numberHere 78 = .ok (.iconst (-1), 1) := by decide +kernel
theorem dX5_numberHere_79 : decode cX5_numberHere 79 = .ok (.ireturn, 1) := by decide +kernel
theorem dX5_numberHere_69 : decode cX5_numberHere 69 = .ok (.iload_n 3, 1) := by decide +kernel
theorem dX5_numberHere_70 : decode cX5_numberHere 70 = .ok (.iload_n 2, 1) := by decide +kernel
theorem dX5_numberHere_71 : decode cX5_numberHere 71 = .ok (.if_icmp .gt 7, 3) := by decide +kernel
theorem dX5_numberHere_74 : decode cX5_numberHere 74 = .ok (.iload_n 3, 1) := by decide +kernel
theorem dX5_numberHere_75 : decode cX5_numberHere 75 = .ok (.goto 4, 3) := by decide +kernel
theorem dX5_isAmong_0 : decode cX5_isAmong 0 = .ok (.iconst 0, 1) := by decide +kernel
theorem dX5_isAmong_1 : decode cX5_isAmong 1 = .ok (.istore_n 3, 1) := by decide +kernel
theorem dX5_isAmong_2 : decode cX5_isAmong 2 = .ok (.iload_n 3, 1) := by decide +kernel
theorem dX5_isAmong_3 : decode cX5_isAmong 3 = .ok (.iload_n 1, 1) := by decide +kernel
theorem dX5_isAmong_4 : decode cX5_isAmong 4 = .ok (.if_icmp .ge 20, 3) := by decide +kernel
theorem dX5_isAmong_7 : decode cX5_isAmong 7 = .ok (.aload_n 0, 1) := by decide +kernel
theorem dX5_isAmong_8 : decode cX5_isAmong 8 = .ok (.iconst 2, 1) := by decide +kernel
theorem dX5_isAmong_9 : decode cX5_isAmong 9 = .ok (.iload_n 3, 1) := by decide +kernel
theorem dX5_isAmong_10 : decode cX5_isAmong 10 = .ok (.iadd, 1) := by decide +kernel
theorem dX5_isAmong_11 : decode cX5_isAmong 11 = .ok (.iaload, 1) := by decide +kernel
theorem dX5_isAmong_12 : decode cX5_isAmong 12 = .ok (.iload_n 2, 1) := by decide +kernel
theorem dX5_isAmong_13 : decode cX5_isAmong 13 = .ok (.if_icmp .ne 5, 3) := by decide +kernel
theorem dX5_isAmong_18 : decode cX5_isAmong 18 = .ok (.iinc 3 1, 3) := by decide +kernel
theorem dX5_isAmong_21 : decode cX5_isAmong 21 = .ok (.goto (-19), 3) := by decide +kernel
theorem dX5_isAmong_16 : decode cX5_isAmong 16 = .ok (.iconst 1, 1) := by decide +kernel
theorem dX5_isAmong_17 : decode cX5_isAmong 17 = .ok (.ireturn, 1) := by decide +kernel
theorem dX5_isAmong_24 : decode cX5_isAmong 24 = .ok (.iconst 0, 1) := by decide +kernel
theorem dX5_isAmong_25 : decode cX5_isAmong 25 = .ok (.ireturn, 1) := by decide +kernel
theorem dX5_readPoints_0 : decode cX5_readPoints 0 = .ok (.iconst 0, 1) := by decide +kernel
theorem dX5_readPoints_1 : decode cX5_readPoints 1 = .ok (.istore_n 2, 1) := by decide +kernel
theorem dX5_readPoints_2 : decode cX5_readPoints 2 = .ok (.iconst 0, 1) := by decide +kernel
theorem dX5_readPoints_3 : decode cX5_readPoints 3 = .ok (.istore_n 3, 1) := by decide +kernel
theorem dX5_readPoints_4 : decode cX5_readPoints 4 = .ok (.iload_n 3, 1) := by decide +kernel
theorem dX5_readPoints_5 : decode cX5_readPoints 5 = .ok (.bipush 12, 2) := by decide +kernel
theorem dX5_readPoints_7 : decode cX5_readPoints 7 = .ok (.if_icmp .ge 54, 3) := by decide +kernel
theorem dX5_readPoints_10 : decode cX5_readPoints 10 = .ok (.aload_n 0, 1) := by decide +kernel
theorem dX5_readPoints_11 : decode cX5_readPoints 11 = .ok (.iconst 0, 1) := by decide +kernel
theorem dX5_readPoints_12 : decode cX5_readPoints 12 = .ok (.aload_n 0, 1) := by decide +kernel
theorem dX5_readPoints_13 : decode cX5_readPoints 13 = .ok (.getfield 69, 3) := by decide +kernel
theorem dX5_readPoints_16 : decode cX5_readPoints 16 = .ok (.iconst 1, 1) := by decide +kernel
theorem dX5_readPoints_17 : decode cX5_readPoints 17 = .ok (.isub, 1) := by decide +kernel
theorem dX5_readPoints_18 : decode cX5_readPoints 18 = .ok (.invokevirtual 130, 3) := by decide +kernel
theorem dX5_readPoints_21 : decode cX5_readPoints 21 = .ok (.istore 4, 2) := by decide +kernel
theorem dX5_readPoints_23 : decode cX5_readPoints 23 = .ok (.iload 4, 2) := by decide +kernel
theorem dX5_readPoints_25 : decode cX5_readPoints 25 = .ok (.iconst (-1), 1) := by decide +kernel
theorem dX5_readPoints_26 : decode cX5_readPoints 26 = .ok (.if_icmp .eq 13, 3) := by decide +kernel
theorem dX5_readPoints_39 : decode cX5_readPoints 39 = .ok (.iload_n 2, 1) := by decide +kernel
theorem dX5_readPoints_40 : decode cX5_readPoints 40 = .ok (.ireturn, 1) := by decide +kernel
theorem dX5_readPoints_29 : decode cX5_readPoints 29 = .ok (.aload_n 1, 1) := by decide +kernel
theorem dX5_readPoints_30 : decode cX5_readPoints 30 = .ok (.iload_n 2, 1) := by decide +kernel
theorem dX5_readPoints_31 : decode cX5_readPoints 31 = .ok (.iload 4, 2) := by decide +kernel
theorem dX5_readPoints_33 : decode cX5_readPoints 33 = .ok (.invokestatic 142, 3) := by decide +kernel
theorem dX5_readPoints_36 : decode cX5_readPoints 36 = .ok (.ifCond .eq 5, 3) := by decide +kernel
theorem dX5_readPoints_41 : decode cX5_readPoints 41 = .ok (.aload_n 1, 1) := by decide +kernel
theorem dX5_readPoints_42 : decode cX5_readPoints 42 = .ok (.iconst 2, 1) := by decide +kernel
theorem dX5_readPoints_43 : decode cX5_readPoints 43 = .ok (.iload_n 2, 1) := by decide +kernel
theorem dX5_readPoints_44 : decode cX5_readPoints 44 = .ok (.iadd, 1) := by decide +kernel
theorem dX5_readPoints_45 : decode cX5_readPoints 45 = .ok (.iload 4, 2) := by decide +kernel
theorem dX5_readPoints_47 : decode cX5_readPoints 47 = .ok (.iastore, 1) := by decide +kernel
theorem dX5_readPoints_48 : decode cX5_readPoints 48 = .ok (.iinc 2 1, 3) := by decide +kernel
theorem dX5_readPoints_51 : decode cX5_readPoints 51 = .ok (.aload_n 0, 1) := by decide +kernel
theorem dX5_readPoints_52 : decode cX5_readPoints 52 = .ok (.invokevirtual 81, 3) := by decide +kernel
theorem dX5_readPoints_55 : decode cX5_readPoints 55 = .ok (.iinc 3 1, 3) := by decide +kernel
theorem dX5_readPoints_58 : decode cX5_readPoints 58 = .ok (.goto (-54), 3) := by decide +kernel
theorem dX5_readPoints_61 : decode cX5_readPoints 61 = .ok (.iload_n 2, 1) := by decide +kernel
theorem dX5_readPoints_62 : decode cX5_readPoints 62 = .ok (.ireturn, 1) := by decide +kernel
theorem dX5_skipSign_0 : decode cX5_skipSign 0 = .ok (.aload_n 0, 1) := by decide +kernel
theorem dX5_skipSign_1 : decode cX5_skipSign 1 = .ok (.getfield 84, 3) := by decide +kernel
theorem dX5_skipSign_4 : decode cX5_skipSign 4 = .ok (.iload_n 1, 1) := by decide +kernel
theorem dX5_skipSign_5 : decode cX5_skipSign 5 = .ok (.if_icmp .ne 7, 3) := by decide +kernel
theorem dX5_skipSign_12 : decode cX5_skipSign 12 = .ok (.iconst 0, 1) := by decide +kernel
theorem dX5_skipSign_13 : decode cX5_skipSign 13 = .ok (.istore_n 2, 1) := by decide +kernel
theorem dX5_skipSign_14 : decode cX5_skipSign 14 = .ok (.iload_n 2, 1) := by decide +kernel
theorem dX5_skipSign_15 : decode cX5_skipSign 15 = .ok (.ifCond .eq 7, 3) := by decide +kernel
theorem dX5_skipSign_22 : decode cX5_skipSign 22 = .ok (.iload_n 2, 1) := by decide +kernel
theorem dX5_skipSign_23 : decode cX5_skipSign 23 = .ok (.ireturn, 1) := by decide +kernel
theorem dX5_skipSign_18 : decode cX5_skipSign 18 = .ok (.aload_n 0, 1) := by decide +kernel
theorem dX5_skipSign_19 : decode cX5_skipSign 19 = .ok (.invokevirtual 81, 3) := by decide +kernel
theorem dX5_skipSign_8 : decode cX5_skipSign 8 = .ok (.iconst 1, 1) := by decide +kernel
theorem dX5_skipSign_9 : decode cX5_skipSign 9 = .ok (.goto 4, 3) := by decide +kernel
theorem dX5_readZone_0 : decode cX5_readZone 0 = .ok (.aload_n 0, 1) := by decide +kernel
theorem dX5_readZone_1 : decode cX5_readZone 1 = .ok (.iconst 0, 1) := by decide +kernel
theorem dX5_readZone_2 : decode cX5_readZone 2 = .ok (.bipush 19, 2) := by decide +kernel
theorem dX5_readZone_4 : decode cX5_readZone 4 = .ok (.invokevirtual 130, 3) := by decide +kernel
theorem dX5_readZone_7 : decode cX5_readZone 7 = .ok (.istore_n 1, 1) := by decide +kernel
theorem dX5_readZone_8 : decode cX5_readZone 8 = .ok (.iload_n 1, 1) := by decide +kernel
theorem dX5_readZone_9 : decode cX5_readZone 9 = .ok (.iconst (-1), 1) := by decide +kernel
theorem dX5_readZone_10 : decode cX5_readZone 10 = .ok (.if_icmp .eq 14, 3) := by decide +kernel
theorem dX5_readZone_24 : decode cX5_readZone 24 = .ok (.iconst 0, 1) := by decide +kernel
theorem dX5_readZone_25 : decode cX5_readZone 25 = .ok (.ireturn, 1) := by decide +kernel
theorem dX5_readZone_13 : decode cX5_readZone 13 = .ok (.aload_n 0, 1) := by decide +kernel
theorem dX5_readZone_14 : decode cX5_readZone 14 = .ok (.getfield 17, 3) := by decide +kernel
theorem dX5_readZone_17 : decode cX5_readZone 17 = .ok (.iload_n 1, 1) := by decide +kernel
theorem dX5_readZone_18 : decode cX5_readZone 18 = .ok (.aaload, 1) := by decide +kernel
theorem dX5_readZone_19 : decode cX5_readZone 19 = .ok (.iconst 0, 1) := by decide +kernel
theorem dX5_readZone_20 : decode cX5_readZone 20 = .ok (.iaload, 1) := by decide +kernel
theorem dX5_readZone_21 : decode cX5_readZone 21 = .ok (.ifCond .eq 5, 3) := by decide +kernel
theorem dX5_readZone_26 : decode cX5_readZone 26 = .ok (.aload_n 0, 1) := by decide +kernel
theorem dX5_readZone_27 : decode cX5_readZone 27 = .ok (.invokevirtual 81, 3) := by decide +kernel
theorem dX5_readZone_30 : decode cX5_readZone 30 = .ok (.aload_n 0, 1) := by decide +kernel
theorem dX5_readZone_31 : decode cX5_readZone 31 = .ok (.ldc2_w 39, 3) := by decide +kernel
theorem dX5_readZone_34 : decode cX5_readZone 34 = .ok (.invokevirtual 115, 3) := by decide +kernel
theorem dX5_readZone_37 : decode cX5_readZone 37 = .ok (.ifCond .ne 5, 3) := by decide +kernel
theorem dX5_readZone_42 : decode cX5_readZone 42 = .ok (.aload_n 0, 1) := by decide +kernel
theorem dX5_readZone_43 : decode cX5_readZone 43 = .ok (.iconst 1, 1) := by decide +kernel
theorem dX5_readZone_44 : decode cX5_readZone 44 = .ok (.bipush 12, 2) := by decide +kernel
theorem dX5_readZone_46 : decode cX5_readZone 46 = .ok (.invokevirtual 130, 3) := by decide +kernel
theorem dX5_readZone_49 : decode cX5_readZone 49 = .ok (.istore_n 2, 1) := by decide +kernel
theorem dX5_readZone_50 : decode cX5_readZone 50 = .ok (.aload_n 0, 1) := by decide +kernel
theorem dX5_readZone_51 : decode cX5_readZone 51 = .ok (.getfield 75, 3) := by decide +kernel
theorem dX5_readZone_54 : decode cX5_readZone 54 = .ok (.istore_n 3, 1) := by decide +kernel
theorem dX5_readZone_55 : decode cX5_readZone 55 = .ok (.iload_n 2, 1) := by decide +kernel
theorem dX5_readZone_56 : decode cX5_readZone 56 = .ok (.iconst (-1), 1) := by decide +kernel
theorem dX5_readZone_57 : decode cX5_readZone 57 = .ok (.if_icmp .ne 5, 3) := by decide +kernel
theorem dX5_readZone_62 : decode cX5_readZone 62 = .ok (.aload_n 0, 1) := by decide +kernel
theorem dX5_readZone_63 : decode cX5_readZone 63 = .ok (.invokevirtual 81, 3) := by decide +kernel
theorem dX5_readZone_66 : decode cX5_readZone 66 = .ok (.aload_n 0, 1) := by decide +kernel
theorem dX5_readZone_67 : decode cX5_readZone 67 = .ok (.ldc2_w 41, 3) := by decide +kernel
theorem dX5_readZone_70 : decode cX5_readZone 70 = .ok (.invokevirtual 115, 3) := by decide +kernel
theorem dX5_readZone_73 : decode cX5_readZone 73 = .ok (.ifCond .ne 5, 3) := by decide +kernel
theorem dX5_readZone_78 : decode cX5_readZone 78 = .ok (.aload_n 0, 1) := by decide +kernel
theorem dX5_readZone_79 : decode cX5_readZone 79 = .ok (.aload_n 0, 1) := by decide +kernel
theorem dX5_readZone_80 : decode cX5_readZone 80 = .ok (.getfield 17, 3) := by decide +kernel
theorem dX5_readZone_83 : decode cX5_readZone 83 = .ok (.iload_n 1, 1) := by decide +kernel
theorem dX5_readZone_84 : decode cX5_readZone 84 = .ok (.aaload, 1) := by decide +kernel
theorem dX5_readZone_85 : decode cX5_readZone 85 = .ok (.invokevirtual 134, 3) := by decide +kernel
theorem dX5_readZone_88 : decode cX5_readZone 88 = .ok (.istore 4, 2) := by decide +kernel
theorem dX5_readZone_90 : decode cX5_readZone 90 = .ok (.iload 4, 2) := by decide +kernel
theorem dX5_readZone_92 : decode cX5_readZone 92 = .ok (.ifCond .eq 12, 3) := by decide +kernel
theorem dX5_readZone_104 : decode cX5_readZone 104 = .ok (.iconst 0, 1) := by decide +kernel
theorem dX5_readZone_105 : decode cX5_readZone 105 = .ok (.ireturn, 1) := by decide +kernel
theorem dX5_readZone_95 : decode cX5_readZone 95 = .ok (.aload_n 0, 1) := by decide +kernel
theorem dX5_readZone_96 : decode cX5_readZone 96 = .ok (.bipush 59, 2) := by decide +kernel
theorem dX5_readZone_98 : decode cX5_readZone 98 = .ok (.invokevirtual 138, 3) := by decide +kernel
theorem dX5_readZone_101 : decode cX5_readZone 101 = .ok (.ifCond .ne 5, 3) := by decide +kernel
theorem dX5_readZone_106 : decode cX5_readZone 106 = .ok (.iload_n 2, 1) := by decide +kernel
theorem dX5_readZone_107 : decode cX5_readZone 107 = .ok (.iload 4, 2) := by decide +kernel
theorem dX5_readZone_109 : decode cX5_readZone 109 = .ok (.if_icmp .le 10, 3) := by decide +kernel
theorem dX5_readZone_119 : decode cX5_readZone 119 = .ok (.aload_n 0, 1) := by decide +kernel
theorem dX5_readZone_120 : decode cX5_readZone 120 = .ok (.getfield 17, 3) := by decide +kernel
theorem dX5_readZone_123 : decode cX5_readZone 123 = .ok (.iload_n 1, 1) := by decide +kernel
theorem dX5_readZone_124 : decode cX5_readZone 124 = .ok (.aaload, 1) := by decide +kernel
theorem dX5_readZone_125 : decode cX5_readZone 125 = .ok (.iconst 0, 1) := by decide +kernel
theorem dX5_readZone_126 : decode cX5_readZone 126 = .ok (.iload_n 2, 1) := by decide +kernel
theorem dX5_readZone_127 : decode cX5_readZone 127 = .ok (.iastore, 1) := by decide +kernel
theorem dX5_readZone_128 : decode cX5_readZone 128 = .ok (.aload_n 0, 1) := by decide +kernel
theorem dX5_readZone_129 : decode cX5_readZone 129 = .ok (.getfield 17, 3) := by decide +kernel
theorem dX5_readZone_132 : decode cX5_readZone 132 = .ok (.iload_n 1, 1) := by decide +kernel
theorem dX5_readZone_133 : decode cX5_readZone 133 = .ok (.aaload, 1) := by decide +kernel
theorem dX5_readZone_134 : decode cX5_readZone 134 = .ok (.iconst 1, 1) := by decide +kernel
theorem dX5_readZone_135 : decode cX5_readZone 135 = .ok (.iload 4, 2) := by decide +kernel
theorem dX5_readZone_137 : decode cX5_readZone 137 = .ok (.iastore, 1) := by decide +kernel
theorem dX5_readZone_138 : decode cX5_readZone 138 = .ok (.iconst 1, 1) := by decide +kernel
theorem dX5_readZone_139 : decode cX5_readZone 139 = .ok (.ireturn, 1) := by decide +kernel
theorem dX5_readZone_112 : decode cX5_readZone 112 = .ok (.aload_n 0, 1) := by decide +kernel
theorem dX5_readZone_113 : decode cX5_readZone 113 = .ok (.iload_n 3, 1) := by decide +kernel
theorem dX5_readZone_114 : decode cX5_readZone 114 = .ok (.putfield 75, 3) := by decide +kernel
theorem dX5_readZone_117 : decode cX5_readZone 117 = .ok (.iconst 0, 1) := by decide +kernel
theorem dX5_readZone_118 : decode cX5_readZone 118 = .ok (.ireturn, 1) := by decide +kernel
theorem dX5_readZone_76 : decode cX5_readZone 76 = .ok (.iconst 0, 1) := by decide +kernel
theorem dX5_readZone_77 : decode cX5_readZone 77 = .ok (.ireturn, 1) := by decide +kernel
theorem dX5_readZone_60 : decode cX5_readZone 60 = .ok (.iconst 0, 1) := by decide +kernel
theorem dX5_readZone_61 : decode cX5_readZone 61 = .ok (.ireturn, 1) := by decide +kernel
theorem dX5_readZone_40 : decode cX5_readZone 40 = .ok (.iconst 0, 1) := by decide +kernel
theorem dX5_readZone_41 : decode cX5_readZone 41 = .ok (.ireturn, 1) := by decide +kernel
theorem dX5_readActNumber_0 : decode cX5_readActNumber 0 = .ok (.aload_n 0, 1) := by decide +kernel
theorem dX5_readActNumber_1 : decode cX5_readActNumber 1 = .ok (.lload_n 2, 1) := by decide +kernel
theorem dX5_readActNumber_2 : decode cX5_readActNumber 2 = .ok (.invokevirtual 115, 3) := by decide +kernel
theorem dX5_readActNumber_5 : decode cX5_readActNumber 5 = .ok (.ifCond .ne 5, 3) := by decide +kernel
theorem dX5_readActNumber_10 : decode cX5_readActNumber 10 = .ok (.aload_n 0, 1) := by decide +kernel
theorem dX5_readActNumber_11 : decode cX5_readActNumber 11 = .ok (.iconst 0, 1) := by decide +kernel
theorem dX5_readActNumber_12 : decode cX5_readActNumber 12 = .ok (.iload 5, 2) := by decide +kernel
theorem dX5_readActNumber_14 : decode cX5_readActNumber 14 = .ok (.invokevirtual 130, 3) := by decide +kernel
theorem dX5_readActNumber_17 : decode cX5_readActNumber 17 = .ok (.istore 6, 2) := by decide +kernel
theorem dX5_readActNumber_19 : decode cX5_readActNumber 19 = .ok (.iload 6, 2) := by decide +kernel
theorem dX5_readActNumber_21 : decode cX5_readActNumber 21 = .ok (.iconst (-1), 1) := by decide +kernel
theorem dX5_readActNumber_22 : decode cX5_readActNumber 22 = .ok (.if_icmp .ne 5, 3) := by decide +kernel
theorem dX5_readActNumber_27 : decode cX5_readActNumber 27 = .ok (.aload_n 0, 1) := by decide +kernel
theorem dX5_readActNumber_28 : decode cX5_readActNumber 28 = .ok (.getfield 20, 3) := by decide +kernel
theorem dX5_readActNumber_31 : decode cX5_readActNumber 31 = .ok (.iload_n 1, 1) := by decide +kernel
theorem dX5_readActNumber_32 : decode cX5_readActNumber 32 = .ok (.aaload, 1) := by decide +kernel
theorem dX5_readActNumber_33 : decode cX5_readActNumber 33 = .ok (.iload 4, 2) := by decide +kernel
theorem dX5_readActNumber_35 : decode cX5_readActNumber 35 = .ok (.iload 6, 2) := by decide +kernel
theorem dX5_readActNumber_37 : decode cX5_readActNumber 37 = .ok (.iastore, 1) := by decide +kernel
theorem dX5_readActNumber_38 : decode cX5_readActNumber 38 = .ok (.aload_n 0, 1) := by decide +kernel
theorem dX5_readActNumber_39 : decode cX5_readActNumber 39 = .ok (.invokevirtual 81, 3) := by decide +kernel
theorem dX5_readActNumber_42 : decode cX5_readActNumber 42 = .ok (.iconst 1, 1) := by decide +kernel
theorem dX5_readActNumber_43 : decode cX5_readActNumber 43 = .ok (.ireturn, 1) := by decide +kernel
theorem dX5_readActNumber_25 : decode cX5_readActNumber 25 = .ok (.iconst 0, 1) := by decide +kernel
theorem dX5_readActNumber_26 : decode cX5_readActNumber 26 = .ok (.ireturn, 1) := by decide +kernel
theorem dX5_readActNumber_8 : decode cX5_readActNumber 8 = .ok (.iconst 0, 1) := by decide +kernel
theorem dX5_readActNumber_9 : decode cX5_readActNumber 9 = .ok (.ireturn, 1) := by decide +kernel
theorem dX5_readAct_0 : decode cX5_readAct 0 = .ok (.aload_n 0, 1) := by decide +kernel
theorem dX5_readAct_1 : decode cX5_readAct 1 = .ok (.iconst 0, 1) := by decide +kernel
theorem dX5_readAct_2 : decode cX5_readAct 2 = .ok (.bipush 19, 2) := by decide +kernel
theorem dX5_readAct_4 : decode cX5_readAct 4 = .ok (.invokevirtual 130, 3) := by decide +kernel
theorem dX5_readAct_7 : decode cX5_readAct 7 = .ok (.istore_n 1, 1) := by decide +kernel
theorem dX5_readAct_8 : decode cX5_readAct 8 = .ok (.iload_n 1, 1) := by decide +kernel
theorem dX5_readAct_9 : decode cX5_readAct 9 = .ok (.iconst (-1), 1) := by decide +kernel
theorem dX5_readAct_10 : decode cX5_readAct 10 = .ok (.if_icmp .eq 14, 3) := by decide +kernel
theorem dX5_readAct_24 : decode cX5_readAct 24 = .ok (.iconst 0, 1) := by decide +kernel
theorem dX5_readAct_25 : decode cX5_readAct 25 = .ok (.ireturn, 1) := by decide +kernel
theorem dX5_readAct_13 : decode cX5_readAct 13 = .ok (.aload_n 0, 1) := by decide +kernel
theorem dX5_readAct_14 : decode cX5_readAct 14 = .ok (.getfield 20, 3) := by decide +kernel
theorem dX5_readAct_17 : decode cX5_readAct 17 = .ok (.iload_n 1, 1) := by decide +kernel
theorem dX5_readAct_18 : decode cX5_readAct 18 = .ok (.aaload, 1) := by decide +kernel
theorem dX5_readAct_19 : decode cX5_readAct 19 = .ok (.iconst 0, 1) := by decide +kernel
theorem dX5_readAct_20 : decode cX5_readAct 20 = .ok (.iaload, 1) := by decide +kernel
theorem dX5_readAct_21 : decode cX5_readAct 21 = .ok (.ifCond .eq 5, 3) := by decide +kernel
theorem dX5_readAct_26 : decode cX5_readAct 26 = .ok (.aload_n 0, 1) := by decide +kernel
theorem dX5_readAct_27 : decode cX5_readAct 27 = .ok (.invokevirtual 81, 3) := by decide +kernel
theorem dX5_readAct_30 : decode cX5_readAct 30 = .ok (.aload_n 0, 1) := by decide +kernel
theorem dX5_readAct_31 : decode cX5_readAct 31 = .ok (.iload_n 1, 1) := by decide +kernel
theorem dX5_readAct_32 : decode cX5_readAct 32 = .ok (.ldc2_w 49, 3) := by decide +kernel
theorem dX5_readAct_35 : decode cX5_readAct 35 = .ok (.iconst 1, 1) := by decide +kernel
theorem dX5_readAct_36 : decode cX5_readAct 36 = .ok (.iconst 5, 1) := by decide +kernel
theorem dX5_readAct_37 : decode cX5_readAct 37 = .ok (.invokevirtual 146, 3) := by decide +kernel
theorem dX5_readAct_40 : decode cX5_readAct 40 = .ok (.ifCond .eq 45, 3) := by decide +kernel
theorem dX5_readAct_85 : decode cX5_readAct 85 = .ok (.iconst 0, 1) := by decide +kernel
theorem dX5_readAct_86 : decode cX5_readAct 86 = .ok (.istore_n 2, 1) := by decide +kernel
theorem dX5_readAct_87 : decode cX5_readAct 87 = .ok (.aload_n 0, 1) := by decide +kernel
theorem dX5_readAct_88 : decode cX5_readAct 88 = .ok (.getfield 20, 3) := by decide +kernel
theorem dX5_readAct_91 : decode cX5_readAct 91 = .ok (.iload_n 1, 1) := by decide +kernel
theorem dX5_readAct_92 : decode cX5_readAct 92 = .ok (.aaload, 1) := by decide +kernel
theorem dX5_readAct_93 : decode cX5_readAct 93 = .ok (.iconst 0, 1) := by decide +kernel
theorem dX5_readAct_94 : decode cX5_readAct 94 = .ok (.iconst 1, 1) := by decide +kernel
theorem dX5_readAct_95 : decode cX5_readAct 95 = .ok (.iastore, 1) := by decide +kernel
theorem dX5_readAct_96 : decode cX5_readAct 96 = .ok (.iload_n 2, 1) := by decide +kernel
theorem dX5_readAct_97 : decode cX5_readAct 97 = .ok (.ireturn, 1) := by decide +kernel
theorem dX5_readAct_43 : decode cX5_readAct 43 = .ok (.aload_n 0, 1) := by decide +kernel
theorem dX5_readAct_44 : decode cX5_readAct 44 = .ok (.iload_n 1, 1) := by decide +kernel
theorem dX5_readAct_45 : decode cX5_readAct 45 = .ok (.ldc2_w 51, 3) := by decide +kernel
theorem dX5_readAct_48 : decode cX5_readAct 48 = .ok (.iconst 2, 1) := by decide +kernel
theorem dX5_readAct_49 : decode cX5_readAct 49 = .ok (.bipush 99, 2) := by decide +kernel
theorem dX5_readAct_51 : decode cX5_readAct 51 = .ok (.invokevirtual 146, 3) := by decide +kernel
theorem dX5_readAct_54 : decode cX5_readAct 54 = .ok (.ifCond .eq 31, 3) := by decide +kernel
theorem dX5_readAct_57 : decode cX5_readAct 57 = .ok (.aload_n 0, 1) := by decide +kernel
theorem dX5_readAct_58 : decode cX5_readAct 58 = .ok (.iload_n 1, 1) := by decide +kernel
theorem dX5_readAct_59 : decode cX5_readAct 59 = .ok (.ldc2_w 53, 3) := by decide +kernel
theorem dX5_readAct_62 : decode cX5_readAct 62 = .ok (.iconst 3, 1) := by decide +kernel
theorem dX5_readAct_63 : decode cX5_readAct 63 = .ok (.sipush 600, 3) := by decide +kernel
theorem dX5_readAct_66 : decode cX5_readAct 66 = .ok (.invokevirtual 146, 3) := by decide +kernel
theorem dX5_readAct_69 : decode cX5_readAct 69 = .ok (.ifCond .eq 16, 3) := by decide +kernel
theorem dX5_readAct_72 : decode cX5_readAct 72 = .ok (.aload_n 0, 1) := by decide +kernel
theorem dX5_readAct_73 : decode cX5_readAct 73 = .ok (.bipush 59, 2) := by decide +kernel
theorem dX5_readAct_75 : decode cX5_readAct 75 = .ok (.invokevirtual 138, 3) := by decide +kernel
theorem dX5_readAct_78 : decode cX5_readAct 78 = .ok (.ifCond .eq 7, 3) := by decide +kernel
theorem dX5_readAct_81 : decode cX5_readAct 81 = .ok (.iconst 1, 1) := by decide +kernel
theorem dX5_readAct_82 : decode cX5_readAct 82 = .ok (.goto 4, 3) := by decide +kernel
theorem dX5_toldZoneHere_0 : decode cX5_toldZoneHere 0 = .ok (.aload_n 0, 1) := by decide +kernel
theorem dX5_toldZoneHere_1 : decode cX5_toldZoneHere 1 = .ok (.iconst 0, 1) := by decide +kernel
theorem dX5_toldZoneHere_2 : decode cX5_toldZoneHere 2 = .ok (.bipush 19, 2) := by decide +kernel
theorem dX5_toldZoneHere_4 : decode cX5_toldZoneHere 4 = .ok (.invokevirtual 130, 3) := by decide +kernel
theorem dX5_toldZoneHere_7 : decode cX5_toldZoneHere 7 = .ok (.istore_n 1, 1) := by decide +kernel
theorem dX5_toldZoneHere_8 : decode cX5_toldZoneHere 8 = .ok (.iload_n 1, 1) := by decide +kernel
theorem dX5_toldZoneHere_9 : decode cX5_toldZoneHere 9 = .ok (.iconst (-1), 1) := by decide +kernel
theorem dX5_toldZoneHere_10 : decode cX5_toldZoneHere 10 = .ok (.if_icmp .eq 18, 3) := by decide +kernel
theorem dX5_toldZoneHere_28 : decode cX5_toldZoneHere 28 = .ok (.iconst (-1), 1) := by decide +kernel
theorem dX5_toldZoneHere_29 : decode cX5_toldZoneHere 29 = .ok (.ireturn, 1) := by decide +kernel
theorem dX5_toldZoneHere_13 : decode cX5_toldZoneHere 13 = .ok (.aload_n 0, 1) := by decide +kernel
theorem dX5_toldZoneHere_14 : decode cX5_toldZoneHere 14 = .ok (.getfield 17, 3) := by decide +kernel
theorem dX5_toldZoneHere_17 : decode cX5_toldZoneHere 17 = .ok (.iload_n 1, 1) := by decide +kernel
theorem dX5_toldZoneHere_18 : decode cX5_toldZoneHere 18 = .ok (.aaload, 1) := by decide +kernel
theorem dX5_toldZoneHere_19 : decode cX5_toldZoneHere 19 = .ok (.iconst 0, 1) := by decide +kernel
theorem dX5_toldZoneHere_20 : decode cX5_toldZoneHere 20 = .ok (.iaload, 1) := by decide +kernel
theorem dX5_toldZoneHere_21 : decode cX5_toldZoneHere 21 = .ok (.ifCond .eq 7, 3) := by decide +kernel
theorem dX5_toldZoneHere_24 : decode cX5_toldZoneHere 24 = .ok (.iload_n 1, 1) := by decide +kernel
theorem dX5_toldZoneHere_25 : decode cX5_toldZoneHere 25 = .ok (.goto 4, 3) := by decide +kernel
theorem dX5_toldActHere_0 : decode cX5_toldActHere 0 = .ok (.aload_n 0, 1) := by decide +kernel
theorem dX5_toldActHere_1 : decode cX5_toldActHere 1 = .ok (.iconst 0, 1) := by decide +kernel
theorem dX5_toldActHere_2 : decode cX5_toldActHere 2 = .ok (.bipush 19, 2) := by decide +kernel
theorem dX5_toldActHere_4 : decode cX5_toldActHere 4 = .ok (.invokevirtual 130, 3) := by decide +kernel
theorem dX5_toldActHere_7 : decode cX5_toldActHere 7 = .ok (.istore_n 1, 1) := by decide +kernel
theorem dX5_toldActHere_8 : decode cX5_toldActHere 8 = .ok (.iload_n 1, 1) := by decide +kernel
theorem dX5_toldActHere_9 : decode cX5_toldActHere 9 = .ok (.iconst (-1), 1) := by decide +kernel
theorem dX5_toldActHere_10 : decode cX5_toldActHere 10 = .ok (.if_icmp .eq 18, 3) := by decide +kernel
theorem dX5_toldActHere_28 : decode cX5_toldActHere 28 = .ok (.iconst (-1), 1) := by decide +kernel
theorem dX5_toldActHere_29 : decode cX5_toldActHere 29 = .ok (.ireturn, 1) := by decide +kernel
theorem dX5_toldActHere_13 : decode cX5_toldActHere 13 = .ok (.aload_n 0, 1) := by decide +kernel
theorem dX5_toldActHere_14 : decode cX5_toldActHere 14 = .ok (.getfield 20, 3) := by decide +kernel
theorem dX5_toldActHere_17 : decode cX5_toldActHere 17 = .ok (.iload_n 1, 1) := by decide +kernel
theorem dX5_toldActHere_18 : decode cX5_toldActHere 18 = .ok (.aaload, 1) := by decide +kernel
theorem dX5_toldActHere_19 : decode cX5_toldActHere 19 = .ok (.iconst 0, 1) := by decide +kernel
theorem dX5_toldActHere_20 : decode cX5_toldActHere 20 = .ok (.iaload, 1) := by decide +kernel
theorem dX5_toldActHere_21 : decode cX5_toldActHere 21 = .ok (.ifCond .eq 7, 3) := by decide +kernel
theorem dX5_toldActHere_24 : decode cX5_toldActHere 24 = .ok (.iload_n 1, 1) := by decide +kernel
theorem dX5_toldActHere_25 : decode cX5_toldActHere 25 = .ok (.goto 4, 3) := by decide +kernel
theorem dX5_readRow_0 : decode cX5_readRow 0 = .ok (.aload_n 0, 1) := by decide +kernel
theorem dX5_readRow_1 : decode cX5_readRow 1 = .ok (.invokevirtual 81, 3) := by decide +kernel
theorem dX5_readRow_4 : decode cX5_readRow 4 = .ok (.aload_n 0, 1) := by decide +kernel
theorem dX5_readRow_5 : decode cX5_readRow 5 = .ok (.invokevirtual 150, 3) := by decide +kernel
theorem dX5_readRow_8 : decode cX5_readRow 8 = .ok (.istore_n 1, 1) := by decide +kernel
theorem dX5_readRow_9 : decode cX5_readRow 9 = .ok (.iload_n 1, 1) := by decide +kernel
theorem dX5_readRow_10 : decode cX5_readRow 10 = .ok (.iconst (-1), 1) := by decide +kernel
theorem dX5_readRow_11 : decode cX5_readRow 11 = .ok (.if_icmp .ne 5, 3) := by decide +kernel
theorem dX5_readRow_16 : decode cX5_readRow 16 = .ok (.aload_n 0, 1) := by decide +kernel
theorem dX5_readRow_17 : decode cX5_readRow 17 = .ok (.invokevirtual 81, 3) := by decide +kernel
theorem dX5_readRow_20 : decode cX5_readRow 20 = .ok (.iconst (-1), 1) := by decide +kernel
theorem dX5_readRow_21 : decode cX5_readRow 21 = .ok (.istore_n 2, 1) := by decide +kernel
theorem dX5_readRow_22 : decode cX5_readRow 22 = .ok (.aload_n 0, 1) := by decide +kernel
theorem dX5_readRow_23 : decode cX5_readRow 23 = .ok (.bipush 38, 2) := by decide +kernel
theorem dX5_readRow_25 : decode cX5_readRow 25 = .ok (.invokevirtual 138, 3) := by decide +kernel
theorem dX5_readRow_28 : decode cX5_readRow 28 = .ok (.ifCond .eq 24, 3) := by decide +kernel
theorem dX5_readRow_52 : decode cX5_readRow 52 = .ok (.aload_n 0, 1) := by decide +kernel
theorem dX5_readRow_53 : decode cX5_readRow 53 = .ok (.ldc2_w 57, 3) := by decide +kernel
theorem dX5_readRow_56 : decode cX5_readRow 56 = .ok (.invokevirtual 115, 3) := by decide +kernel
theorem dX5_readRow_59 : decode cX5_readRow 59 = .ok (.ifCond .ne 5, 3) := by decide +kernel
theorem dX5_readRow_64 : decode cX5_readRow 64 = .ok (.aload_n 0, 1) := by decide +kernel
theorem dX5_readRow_65 : decode cX5_readRow 65 = .ok (.invokevirtual 154, 3) := by decide +kernel
theorem dX5_readRow_68 : decode cX5_readRow 68 = .ok (.istore_n 3, 1) := by decide +kernel
theorem dX5_readRow_69 : decode cX5_readRow 69 = .ok (.iload_n 3, 1) := by decide +kernel
theorem dX5_readRow_70 : decode cX5_readRow 70 = .ok (.iconst (-1), 1) := by decide +kernel
theorem dX5_readRow_71 : decode cX5_readRow 71 = .ok (.if_icmp .ne 5, 3) := by decide +kernel
theorem dX5_readRow_76 : decode cX5_readRow 76 = .ok (.aload_n 0, 1) := by decide +kernel
theorem dX5_readRow_77 : decode cX5_readRow 77 = .ok (.invokevirtual 81, 3) := by decide +kernel
theorem dX5_readRow_80 : decode cX5_readRow 80 = .ok (.aload_n 0, 1) := by decide +kernel
theorem dX5_readRow_81 : decode cX5_readRow 81 = .ok (.bipush 59, 2) := by decide +kernel
theorem dX5_readRow_83 : decode cX5_readRow 83 = .ok (.invokevirtual 138, 3) := by decide +kernel
theorem dX5_readRow_86 : decode cX5_readRow 86 = .ok (.ifCond .ne 5, 3) := by decide +kernel
theorem dX5_readRow_91 : decode cX5_readRow 91 = .ok (.aload_n 0, 1) := by decide +kernel
theorem dX5_readRow_92 : decode cX5_readRow 92 = .ok (.getfield 23, 3) := by decide +kernel
theorem dX5_readRow_95 : decode cX5_readRow 95 = .ok (.aload_n 0, 1) := by decide +kernel
theorem dX5_readRow_96 : decode cX5_readRow 96 = .ok (.getfield 91, 3) := by decide +kernel
theorem dX5_readRow_99 : decode cX5_readRow 99 = .ok (.aaload, 1) := by decide +kernel
theorem dX5_readRow_100 : decode cX5_readRow 100 = .ok (.astore 4, 2) := by decide +kernel
theorem dX5_readRow_102 : decode cX5_readRow 102 = .ok (.aload 4, 2) := by decide +kernel
theorem dX5_readRow_104 : decode cX5_readRow 104 = .ok (.iconst 0, 1) := by decide +kernel
theorem dX5_readRow_105 : decode cX5_readRow 105 = .ok (.iload_n 1, 1) := by decide +kernel
theorem dX5_readRow_106 : decode cX5_readRow 106 = .ok (.iastore, 1) := by decide +kernel
theorem dX5_readRow_107 : decode cX5_readRow 107 = .ok (.aload 4, 2) := by decide +kernel
theorem dX5_readRow_109 : decode cX5_readRow 109 = .ok (.iconst 1, 1) := by decide +kernel
theorem dX5_readRow_110 : decode cX5_readRow 110 = .ok (.iload_n 2, 1) := by decide +kernel
theorem dX5_readRow_111 : decode cX5_readRow 111 = .ok (.iastore, 1) := by decide +kernel
theorem dX5_readRow_112 : decode cX5_readRow 112 = .ok (.aload 4, 2) := by decide +kernel
theorem dX5_readRow_114 : decode cX5_readRow 114 = .ok (.iconst 2, 1) := by decide +kernel
theorem dX5_readRow_115 : decode cX5_readRow 115 = .ok (.iload_n 3, 1) := by decide +kernel
theorem dX5_readRow_116 : decode cX5_readRow 116 = .ok (.iastore, 1) := by decide +kernel
theorem dX5_readRow_117 : decode cX5_readRow 117 = .ok (.aload_n 0, 1) := by decide +kernel
theorem dX5_readRow_118 : decode cX5_readRow 118 = .ok (.dup, 1) := by decide +kernel
theorem dX5_readRow_119 : decode cX5_readRow 119 = .ok (.getfield 91, 3) := by decide +kernel
theorem dX5_readRow_122 : decode cX5_readRow 122 = .ok (.iconst 1, 1) := by decide +kernel
theorem dX5_readRow_123 : decode cX5_readRow 123 = .ok (.iadd, 1) := by decide +kernel
theorem dX5_readRow_124 : decode cX5_readRow 124 = .ok (.putfield 91, 3) := by decide +kernel
theorem dX5_readRow_127 : decode cX5_readRow 127 = .ok (.iconst 1, 1) := by decide +kernel
theorem dX5_readRow_128 : decode cX5_readRow 128 = .ok (.ireturn, 1) := by decide +kernel
theorem dX5_readRow_89 : decode cX5_readRow 89 = .ok (.iconst 0, 1) := by decide +kernel
theorem dX5_readRow_90 : decode cX5_readRow 90 = .ok (.ireturn, 1) := by decide +kernel
theorem dX5_readRow_74 : decode cX5_readRow 74 = .ok (.iconst 0, 1) := by decide +kernel
theorem dX5_readRow_75 : decode cX5_readRow 75 = .ok (.ireturn, 1) := by decide +kernel
theorem dX5_readRow_62 : decode cX5_readRow 62 = .ok (.iconst 0, 1) := by decide +kernel
theorem dX5_readRow_63 : decode cX5_readRow 63 = .ok (.ireturn, 1) := by decide +kernel
theorem dX5_readRow_31 : decode cX5_readRow 31 = .ok (.aload_n 0, 1) := by decide +kernel
theorem dX5_readRow_32 : decode cX5_readRow 32 = .ok (.invokevirtual 150, 3) := by decide +kernel
theorem dX5_readRow_35 : decode cX5_readRow 35 = .ok (.istore_n 2, 1) := by decide +kernel
theorem dX5_readRow_36 : decode cX5_readRow 36 = .ok (.iload_n 2, 1) := by decide +kernel
theorem dX5_readRow_37 : decode cX5_readRow 37 = .ok (.iconst (-1), 1) := by decide +kernel
theorem dX5_readRow_38 : decode cX5_readRow 38 = .ok (.if_icmp .eq 8, 3) := by decide +kernel
theorem dX5_readRow_46 : decode cX5_readRow 46 = .ok (.iconst 0, 1) := by decide +kernel
theorem dX5_readRow_47 : decode cX5_readRow 47 = .ok (.ireturn, 1) := by decide +kernel
theorem dX5_readRow_41 : decode cX5_readRow 41 = .ok (.iload_n 2, 1) := by decide +kernel
theorem dX5_readRow_42 : decode cX5_readRow 42 = .ok (.iload_n 1, 1) := by decide +kernel
theorem dX5_readRow_43 : decode cX5_readRow 43 = .ok (.if_icmp .ne 5, 3) := by decide +kernel
theorem dX5_readRow_48 : decode cX5_readRow 48 = .ok (.aload_n 0, 1) := by decide +kernel
theorem dX5_readRow_49 : decode cX5_readRow 49 = .ok (.invokevirtual 81, 3) := by decide +kernel
theorem dX5_readRow_14 : decode cX5_readRow 14 = .ok (.iconst 0, 1) := by decide +kernel
theorem dX5_readRow_15 : decode cX5_readRow 15 = .ok (.ireturn, 1) := by decide +kernel
theorem dX5_readHold_0 : decode cX5_readHold 0 = .ok (.aload_n 0, 1) := by decide +kernel
theorem dX5_readHold_1 : decode cX5_readHold 1 = .ok (.invokevirtual 154, 3) := by decide +kernel
theorem dX5_readHold_4 : decode cX5_readHold 4 = .ok (.istore_n 1, 1) := by decide +kernel
theorem dX5_readHold_5 : decode cX5_readHold 5 = .ok (.iload_n 1, 1) := by decide +kernel
theorem dX5_readHold_6 : decode cX5_readHold 6 = .ok (.iconst (-1), 1) := by decide +kernel
theorem dX5_readHold_7 : decode cX5_readHold 7 = .ok (.if_icmp .eq 14, 3) := by decide +kernel
theorem dX5_readHold_21 : decode cX5_readHold 21 = .ok (.iconst 0, 1) := by decide +kernel
theorem dX5_readHold_22 : decode cX5_readHold 22 = .ok (.ireturn, 1) := by decide +kernel
theorem dX5_readHold_10 : decode cX5_readHold 10 = .ok (.aload_n 0, 1) := by decide +kernel
theorem dX5_readHold_11 : decode cX5_readHold 11 = .ok (.getfield 20, 3) := by decide +kernel
theorem dX5_readHold_14 : decode cX5_readHold 14 = .ok (.iload_n 1, 1) := by decide +kernel
theorem dX5_readHold_15 : decode cX5_readHold 15 = .ok (.aaload, 1) := by decide +kernel
theorem dX5_readHold_16 : decode cX5_readHold 16 = .ok (.iconst 4, 1) := by decide +kernel
theorem dX5_readHold_17 : decode cX5_readHold 17 = .ok (.iaload, 1) := by decide +kernel
theorem dX5_readHold_18 : decode cX5_readHold 18 = .ok (.ifCond .eq 5, 3) := by decide +kernel
theorem dX5_readHold_23 : decode cX5_readHold 23 = .ok (.aload_n 0, 1) := by decide +kernel
theorem dX5_readHold_24 : decode cX5_readHold 24 = .ok (.invokevirtual 81, 3) := by decide +kernel
theorem dX5_readHold_27 : decode cX5_readHold 27 = .ok (.aload_n 0, 1) := by decide +kernel
theorem dX5_readHold_28 : decode cX5_readHold 28 = .ok (.getfield 20, 3) := by decide +kernel
theorem dX5_readHold_31 : decode cX5_readHold 31 = .ok (.iload_n 1, 1) := by decide +kernel
theorem dX5_readHold_32 : decode cX5_readHold 32 = .ok (.aaload, 1) := by decide +kernel
theorem dX5_readHold_33 : decode cX5_readHold 33 = .ok (.iconst 4, 1) := by decide +kernel
theorem dX5_readHold_34 : decode cX5_readHold 34 = .ok (.iconst 1, 1) := by decide +kernel
theorem dX5_readHold_35 : decode cX5_readHold 35 = .ok (.iastore, 1) := by decide +kernel
theorem dX5_readHold_36 : decode cX5_readHold 36 = .ok (.aload_n 0, 1) := by decide +kernel
theorem dX5_readHold_37 : decode cX5_readHold 37 = .ok (.bipush 59, 2) := by decide +kernel
theorem dX5_readHold_39 : decode cX5_readHold 39 = .ok (.invokevirtual 138, 3) := by decide +kernel
theorem dX5_readHold_42 : decode cX5_readHold 42 = .ok (.ireturn, 1) := by decide +kernel
theorem dX5_readSentence_0 : decode cX5_readSentence 0 = .ok (.aload_n 0, 1) := by decide +kernel
theorem dX5_readSentence_1 : decode cX5_readSentence 1 = .ok (.ldc2_w 33, 3) := by decide +kernel
theorem dX5_readSentence_4 : decode cX5_readSentence 4 = .ok (.invokevirtual 115, 3) := by decide +kernel
theorem dX5_readSentence_7 : decode cX5_readSentence 7 = .ok (.ifCond .eq 8, 3) := by decide +kernel
theorem dX5_readSentence_15 : decode cX5_readSentence 15 = .ok (.aload_n 0, 1) := by decide +kernel
theorem dX5_readSentence_16 : decode cX5_readSentence 16 = .ok (.ldc2_w 47, 3) := by decide +kernel
theorem dX5_readSentence_19 : decode cX5_readSentence 19 = .ok (.invokevirtual 115, 3) := by decide +kernel
theorem dX5_readSentence_22 : decode cX5_readSentence 22 = .ok (.ifCond .eq 8, 3) := by decide +kernel
theorem dX5_readSentence_30 : decode cX5_readSentence 30 = .ok (.aload_n 0, 1) := by decide +kernel
theorem dX5_readSentence_31 : decode cX5_readSentence 31 = .ok (.ldc2_w 55, 3) := by decide +kernel
theorem dX5_readSentence_34 : decode cX5_readSentence 34 = .ok (.invokevirtual 111, 3) := by decide +kernel
theorem dX5_readSentence_37 : decode cX5_readSentence 37 = .ok (.ifCond .eq 25, 3) := by decide +kernel
theorem dX5_readSentence_62 : decode cX5_readSentence 62 = .ok (.aload_n 0, 1) := by decide +kernel
theorem dX5_readSentence_63 : decode cX5_readSentence 63 = .ok (.ldc2_w 61, 3) := by decide +kernel
theorem dX5_readSentence_66 : decode cX5_readSentence 66 = .ok (.invokevirtual 115, 3) := by decide +kernel
theorem dX5_readSentence_69 : decode cX5_readSentence 69 = .ok (.ifCond .eq 14, 3) := by decide +kernel
theorem dX5_readSentence_83 : decode cX5_readSentence 83 = .ok (.iconst 0, 1) := by decide +kernel
theorem dX5_readSentence_84 : decode cX5_readSentence 84 = .ok (.ireturn, 1) := by decide +kernel
theorem dX5_readSentence_72 : decode cX5_readSentence 72 = .ok (.aload_n 0, 1) := by decide +kernel
theorem dX5_readSentence_73 : decode cX5_readSentence 73 = .ok (.invokevirtual 127, 3) := by decide +kernel
theorem dX5_readSentence_76 : decode cX5_readSentence 76 = .ok (.ifCond .eq 7, 3) := by decide +kernel
theorem dX5_readSentence_79 : decode cX5_readSentence 79 = .ok (.iconst 1, 1) := by decide +kernel
theorem dX5_readSentence_80 : decode cX5_readSentence 80 = .ok (.goto 4, 3) := by decide +kernel
theorem dX5_readSentence_40 : decode cX5_readSentence 40 = .ok (.aload_n 0, 1) := by decide +kernel
theorem dX5_readSentence_41 : decode cX5_readSentence 41 = .ok (.getfield 91, 3) := by decide +kernel
theorem dX5_readSentence_44 : decode cX5_readSentence 44 = .ok (.bipush 50, 2) := by decide +kernel
theorem dX5_readSentence_46 : decode cX5_readSentence 46 = .ok (.if_icmp .ge 14, 3) := by decide +kernel
theorem dX5_readSentence_60 : decode cX5_readSentence 60 = .ok (.iconst 0, 1) := by decide +kernel
theorem dX5_readSentence_61 : decode cX5_readSentence 61 = .ok (.ireturn, 1) := by decide +kernel
theorem dX5_readSentence_49 : decode cX5_readSentence 49 = .ok (.aload_n 0, 1) := by decide +kernel
theorem dX5_readSentence_50 : decode cX5_readSentence 50 = .ok (.invokevirtual 124, 3) := by decide +kernel
theorem dX5_readSentence_53 : decode cX5_readSentence 53 = .ok (.ifCond .eq 7, 3) := by decide +kernel
theorem dX5_readSentence_56 : decode cX5_readSentence 56 = .ok (.iconst 1, 1) := by decide +kernel
theorem dX5_readSentence_57 : decode cX5_readSentence 57 = .ok (.goto 4, 3) := by decide +kernel
theorem dX5_readSentence_25 : decode cX5_readSentence 25 = .ok (.aload_n 0, 1) := by decide +kernel
theorem dX5_readSentence_26 : decode cX5_readSentence 26 = .ok (.invokevirtual 121, 3) := by decide +kernel
theorem dX5_readSentence_29 : decode cX5_readSentence 29 = .ok (.ireturn, 1) := by decide +kernel
theorem dX5_readSentence_10 : decode cX5_readSentence 10 = .ok (.aload_n 0, 1) := by decide +kernel
theorem dX5_readSentence_11 : decode cX5_readSentence 11 = .ok (.invokevirtual 118, 3) := by decide +kernel
theorem dX5_readSentence_14 : decode cX5_readSentence 14 = .ok (.ireturn, 1) := by decide +kernel
theorem dX5_readSentences_0 : decode cX5_readSentences 0 = .ok (.aload_n 0, 1) := by decide +kernel
theorem dX5_readSentences_1 : decode cX5_readSentences 1 = .ok (.iload_n 1, 1) := by decide +kernel
theorem dX5_readSentences_2 : decode cX5_readSentences 2 = .ok (.putfield 69, 3) := by decide +kernel
theorem dX5_readSentences_5 : decode cX5_readSentences 5 = .ok (.aload_n 0, 1) := by decide +kernel
theorem dX5_readSentences_6 : decode cX5_readSentences 6 = .ok (.invokevirtual 72, 3) := by decide +kernel
theorem dX5_readSentences_9 : decode cX5_readSentences 9 = .ok (.aload_n 0, 1) := by decide +kernel
theorem dX5_readSentences_10 : decode cX5_readSentences 10 = .ok (.iconst (-1), 1) := by decide +kernel
theorem dX5_readSentences_11 : decode cX5_readSentences 11 = .ok (.putfield 75, 3) := by decide +kernel
theorem dX5_readSentences_14 : decode cX5_readSentences 14 = .ok (.aload_n 0, 1) := by decide +kernel
theorem dX5_readSentences_15 : decode cX5_readSentences 15 = .ok (.iconst 0, 1) := by decide +kernel
theorem dX5_readSentences_16 : decode cX5_readSentences 16 = .ok (.putfield 78, 3) := by decide +kernel
theorem dX5_readSentences_19 : decode cX5_readSentences 19 = .ok (.aload_n 0, 1) := by decide +kernel
theorem dX5_readSentences_20 : decode cX5_readSentences 20 = .ok (.invokevirtual 81, 3) := by decide +kernel
theorem dX5_readSentences_23 : decode cX5_readSentences 23 = .ok (.iconst 0, 1) := by decide +kernel
theorem dX5_readSentences_24 : decode cX5_readSentences 24 = .ok (.istore_n 2, 1) := by decide +kernel
theorem dX5_readSentences_25 : decode cX5_readSentences 25 = .ok (.iload_n 2, 1) := by decide +kernel
theorem dX5_readSentences_26 : decode cX5_readSentences 26 = .ok (.sipush 2000, 3) := by decide +kernel
theorem dX5_readSentences_29 : decode cX5_readSentences 29 = .ok (.if_icmp .ge 27, 3) := by decide +kernel
theorem dX5_readSentences_32 : decode cX5_readSentences 32 = .ok (.aload_n 0, 1) := by decide +kernel
theorem dX5_readSentences_33 : decode cX5_readSentences 33 = .ok (.getfield 84, 3) := by decide +kernel
theorem dX5_readSentences_36 : decode cX5_readSentences 36 = .ok (.bipush 101, 2) := by decide +kernel
theorem dX5_readSentences_38 : decode cX5_readSentences 38 = .ok (.if_icmp .eq 18, 3) := by decide +kernel
theorem dX5_readSentences_41 : decode cX5_readSentences 41 = .ok (.aload_n 0, 1) := by decide +kernel
theorem dX5_readSentences_42 : decode cX5_readSentences 42 = .ok (.invokevirtual 87, 3) := by decide +kernel
theorem dX5_readSentences_45 : decode cX5_readSentences 45 = .ok (.ifCond .ne 5, 3) := by decide +kernel
theorem dX5_readSentences_50 : decode cX5_readSentences 50 = .ok (.iinc 2 1, 3) := by decide +kernel
theorem dX5_readSentences_53 : decode cX5_readSentences 53 = .ok (.goto (-28), 3) := by decide +kernel
theorem dX5_readSentences_48 : decode cX5_readSentences 48 = .ok (.iconst 0, 1) := by decide +kernel
theorem dX5_readSentences_49 : decode cX5_readSentences 49 = .ok (.ireturn, 1) := by decide +kernel
theorem dX5_readSentences_56 : decode cX5_readSentences 56 = .ok (.iconst 1, 1) := by decide +kernel
theorem dX5_readSentences_57 : decode cX5_readSentences 57 = .ok (.ireturn, 1) := by decide +kernel
theorem dX6_init_0 : decode cX6_init 0 = .ok (.aload_n 0, 1) := by decide +kernel
theorem dX6_init_1 : decode cX6_init 1 = .ok (.invokespecial 1, 3) := by decide +kernel
theorem dX6_init_4 : decode cX6_init 4 = .ok (.aload_n 0, 1) := by decide +kernel
theorem dX6_init_5 : decode cX6_init 5 = .ok (.sipush 800, 3) := by decide +kernel
theorem dX6_init_8 : decode cX6_init 8 = .ok (.newarray .char, 2) := by decide +kernel
theorem dX6_init_10 : decode cX6_init 10 = .ok (.putfield 9, 3) := by decide +kernel
theorem dX6_init_13 : decode cX6_init 13 = .ok (.aload_n 0, 1) := by decide +kernel
theorem dX6_init_14 : decode cX6_init 14 = .ok (.bipush 121, 2) := by decide +kernel
theorem dX6_init_16 : decode cX6_init 16 = .ok (.newarray .int, 2) := by decide +kernel
theorem dX6_init_18 : decode cX6_init 18 = .ok (.putfield 13, 3) := by decide +kernel
theorem dX6_init_21 : decode cX6_init 21 = .ok (.aload_n 0, 1) := by decide +kernel
theorem dX6_init_22 : decode cX6_init 22 = .ok (.bipush 121, 2) := by decide +kernel
theorem dX6_init_24 : decode cX6_init 24 = .ok (.newarray .long, 2) := by decide +kernel
theorem dX6_init_26 : decode cX6_init 26 = .ok (.putfield 17, 3) := by decide +kernel
theorem dX6_init_29 : decode cX6_init 29 = .ok (.aload_n 0, 1) := by decide +kernel
theorem dX6_init_30 : decode cX6_init 30 = .ok (.bipush 121, 2) := by decide +kernel
theorem dX6_init_32 : decode cX6_init 32 = .ok (.newarray .int, 2) := by decide +kernel
theorem dX6_init_34 : decode cX6_init 34 = .ok (.putfield 21, 3) := by decide +kernel
theorem dX6_init_37 : decode cX6_init 37 = .ok (.aload_n 0, 1) := by decide +kernel
theorem dX6_init_38 : decode cX6_init 38 = .ok (.bipush 12, 2) := by decide +kernel
theorem dX6_init_40 : decode cX6_init 40 = .ok (.newarray .long, 2) := by decide +kernel
theorem dX6_init_42 : decode cX6_init 42 = .ok (.putfield 24, 3) := by decide +kernel
theorem dX6_init_45 : decode cX6_init 45 = .ok (.aload_n 0, 1) := by decide +kernel
theorem dX6_init_46 : decode cX6_init 46 = .ok (.bipush 12, 2) := by decide +kernel
theorem dX6_init_48 : decode cX6_init 48 = .ok (.newarray .int, 2) := by decide +kernel
theorem dX6_init_50 : decode cX6_init 50 = .ok (.putfield 27, 3) := by decide +kernel
theorem dX6_init_53 : decode cX6_init 53 = .ok (.aload_n 0, 1) := by decide +kernel
theorem dX6_init_54 : decode cX6_init 54 = .ok (.bipush 12, 2) := by decide +kernel
theorem dX6_init_56 : decode cX6_init 56 = .ok (.newarray .int, 2) := by decide +kernel
theorem dX6_init_58 : decode cX6_init 58 = .ok (.putfield 30, 3) := by decide +kernel
theorem dX6_init_61 : decode cX6_init 61 = .ok (.return_, 1) := by decide +kernel
theorem zl_X4_119 : zm_L zk_E RX4 119 yX4_lookAtZones (.code yX4_lookAtZones cX4_lookAtZones 4 none) 1 ∧ Cond.instanceMethod yX4_lookAtZones ∈ zk_E.2.2.1 ∧ Cond.selects yX4_lookAtZones.cls yX4_lookAtZones yX4_lookAtZones ∈ zk_E.2.2.1 := ⟨⟨zk_b10 47 (by decide +kernel) rfl, zk_b1 11 (by decide +kernel) rfl, zk_b10 44 (by decide +kernel) rfl, by decide +kernel, by decide +kernel, by decide +kernel⟩, zk_b10 46 (by decide +kernel) rfl, zk_s7 (q := (yX4_lookAtZones, 19)) 3 (by decide +kernel)⟩
theorem zl_X4_123 : zm_L zk_E RX4 123 yX4_isAct (.code yX4_isAct cX4_isAct 2 (some .boolean)) 1 ∧ Cond.instanceMethod yX4_isAct ∈ zk_E.2.2.1 ∧ Cond.selects yX4_isAct.cls yX4_isAct yX4_isAct ∈ zk_E.2.2.1 := ⟨⟨zk_b10 103 (by decide +kernel) rfl, zk_b1 11 (by decide +kernel) rfl, zk_b12 83 (by decide +kernel) rfl, by decide +kernel, by decide +kernel, by decide +kernel⟩, zk_b10 101 (by decide +kernel) rfl, zk_b10 102 (by decide +kernel) rfl⟩
theorem zl_X4_126 : zm_L zk_E RX4 126 yX4_runAct (.code yX4_runAct cX4_runAct 4 none) 2 ∧ Cond.instanceMethod yX4_runAct ∈ zk_E.2.2.1 ∧ Cond.selects yX4_runAct.cls yX4_runAct yX4_runAct ∈ zk_E.2.2.1 := ⟨⟨zk_b12 87 (by decide +kernel) rfl, zk_b1 11 (by decide +kernel) rfl, zk_b12 84 (by decide +kernel) rfl, by decide +kernel, by decide +kernel, by decide +kernel⟩, zk_b12 86 (by decide +kernel) rfl, zk_s9 (q := (yX4_runAct, 19)) 2 (by decide +kernel)⟩
theorem zl_X5_3 : Cond.methodLink RX5 3 Lib.objectInit ∈ zk_E.2.2.1 ∧ Cond.instanceMethod Lib.objectInit ∈ zk_E.2.2.1 ∧ Cond.code Lib.objectInit ⟨#[0xb1]⟩ 1 none ∈ zk_E.2.2.1 := ⟨zk_b2 131 (by decide +kernel) rfl, zk_b1 43 (by decide +kernel) rfl, zk_b1 44 (by decide +kernel) rfl⟩
theorem zk_ac : Cond.arrayClass .char ∈ zk_E.2.2.1 := zk_b1 192 (by decide +kernel) rfl
theorem zl_X5_11 : zm_F zk_E RX5 11 5 0 := ⟨RX5, TX5, 13, rfl, zk_i5, by decide, zk_b2 133 (by decide +kernel) rfl⟩
theorem zt_5_0 : zm_T zk_E RX5 5 0 (.array .char) true := ⟨RX5, TX5, 13, tyX5, rfl, tyX5_ok, nmX5, rfl, rfl, rfl⟩
theorem zl_X5_15 : Cond.classLink RX5 15 "[[I" ∈ zk_E.2.2.1 := zk_b2 132 (by decide +kernel) rfl
theorem zl_X5_17 : zm_F zk_E RX5 17 5 9 := ⟨RX5, TX5, 13, rfl, zk_i5, by decide, zk_b2 144 (by decide +kernel) rfl⟩
theorem zt_5_9 : zm_T zk_E RX5 5 9 (.array (.array .int)) true := ⟨RX5, TX5, 13, tyX5, rfl, tyX5_ok, nmX5, rfl, rfl, rfl⟩
theorem zl_X5_20 : zm_F zk_E RX5 20 5 10 := ⟨RX5, TX5, 13, rfl, zk_i5, by decide, zk_b2 146 (by decide +kernel) rfl⟩
theorem zt_5_10 : zm_T zk_E RX5 5 10 (.array (.array .int)) true := ⟨RX5, TX5, 13, tyX5, rfl, tyX5_ok, nmX5, rfl, rfl, rfl⟩
theorem zl_X5_23 : zm_F zk_E RX5 23 5 11 := ⟨RX5, TX5, 13, rfl, zk_i5, by decide, zk_b2 148 (by decide +kernel) rfl⟩
theorem zt_5_11 : zm_T zk_E RX5 5 11 (.array (.array .int)) true := ⟨RX5, TX5, 13, tyX5, rfl, tyX5_ok, nmX5, rfl, rfl, rfl⟩
theorem zl_X5_26 : zm_F zk_E RX5 26 5 1 := ⟨RX5, TX5, 13, rfl, zk_i5, by decide, zk_b2 134 (by decide +kernel) rfl⟩
theorem zt_5_1 : zm_T zk_E RX5 5 1 .int false := ⟨RX5, TX5, 13, tyX5, rfl, tyX5_ok, nmX5, rfl, rfl, rfl⟩
theorem zl_X5_30 : zm_F zk_E RX5 30 5 2 := ⟨RX5, TX5, 13, rfl, zk_i5, by decide, zk_b2 136 (by decide +kernel) rfl⟩
theorem zt_5_2 : zm_T zk_E RX5 5 2 .int false := ⟨RX5, TX5, 13, tyX5, rfl, tyX5_ok, nmX5, rfl, rfl, rfl⟩
theorem zl_X5_63 : zm_L zk_E RX5 63 yX5_write (.code yX5_write cX5_write 2 none) 1 ∧ Cond.instanceMethod yX5_write ∈ zk_E.2.2.1 ∧ Cond.selects yX5_write.cls yX5_write yX5_write ∈ zk_E.2.2.1 := ⟨⟨zk_b9 128 (by decide +kernel) rfl, zk_b1 8 (by decide +kernel) rfl, zk_b9 125 (by decide +kernel) rfl, by decide +kernel, by decide +kernel, by decide +kernel⟩, zk_b9 127 (by decide +kernel) rfl, zk_s6 (q := (yX5_write, 13)) 1 (by decide +kernel)⟩
theorem zl_X5_67 : Cond.constantLong RX5 67 (255 : Int64) ∈ zk_E.2.2.1 := zk_b9 124 (by decide +kernel) rfl
theorem zl_X5_43 : zm_L zk_E RX5 43 yX5_writeNumber (.code yX5_writeNumber cX5_writeNumber 5 none) 1 ∧ Cond.instanceMethod yX5_writeNumber ∈ zk_E.2.2.1 ∧ Cond.selects yX5_writeNumber.cls yX5_writeNumber yX5_writeNumber ∈ zk_E.2.2.1 := ⟨⟨zk_b9 132 (by decide +kernel) rfl, zk_b1 8 (by decide +kernel) rfl, zk_b9 129 (by decide +kernel) rfl, by decide +kernel, by decide +kernel, by decide +kernel⟩, zk_b9 131 (by decide +kernel) rfl, zk_s6 (q := (yX5_writeNumber, 13)) 2 (by decide +kernel)⟩
theorem zl_X5_61 : Cond.constantLong RX5 61 (1752132708 : Int64) ∈ zk_E.2.2.1 := zk_b9 142 (by decide +kernel) rfl
theorem zl_X5_35 : zm_L zk_E RX5 35 yX5_writePart (.code yX5_writePart cX5_writePart 7 none) 2 ∧ Cond.instanceMethod yX5_writePart ∈ zk_E.2.2.1 ∧ Cond.selects yX5_writePart.cls yX5_writePart yX5_writePart ∈ zk_E.2.2.1 := ⟨⟨zk_b9 123 (by decide +kernel) rfl, zk_b1 8 (by decide +kernel) rfl, zk_b9 120 (by decide +kernel) rfl, by decide +kernel, by decide +kernel, by decide +kernel⟩, zk_b9 122 (by decide +kernel) rfl, zk_s6 (q := (yX5_writePart, 13)) 0 (by decide +kernel)⟩
theorem zl_X5_33 : Cond.constantLong RX5 33 (2054123109 : Int64) ∈ zk_E.2.2.1 := zk_b9 119 (by decide +kernel) rfl
theorem zl_X5_39 : Cond.constantLong RX5 39 (474147546227 : Int64) ∈ zk_E.2.2.1 := zk_b9 133 (by decide +kernel) rfl
theorem zl_X5_41 : Cond.constantLong RX5 41 (28518 : Int64) ∈ zk_E.2.2.1 := zk_b9 134 (by decide +kernel) rfl
theorem zl_X5_47 : Cond.constantLong RX5 47 (6382452 : Int64) ∈ zk_E.2.2.1 := zk_b9 135 (by decide +kernel) rfl
theorem zl_X5_49 : Cond.constantLong RX5 49 (1802071652 : Int64) ∈ zk_E.2.2.1 := zk_b9 136 (by decide +kernel) rfl
theorem zl_X5_51 : Cond.constantLong RX5 51 (1918987883 : Int64) ∈ zk_E.2.2.1 := zk_b9 137 (by decide +kernel) rfl
theorem zl_X5_53 : Cond.constantLong RX5 53 (431198331257 : Int64) ∈ zk_E.2.2.1 := zk_b9 138 (by decide +kernel) rfl
theorem zl_X5_55 : Cond.constantLong RX5 55 (2003330414 : Int64) ∈ zk_E.2.2.1 := zk_b9 139 (by decide +kernel) rfl
theorem zl_X5_57 : Cond.constantLong RX5 57 (1685022067 : Int64) ∈ zk_E.2.2.1 := zk_b9 140 (by decide +kernel) rfl
theorem zl_X5_59 : Cond.constantLong RX5 59 (38 : Int64) ∈ zk_E.2.2.1 := zk_b9 141 (by decide +kernel) rfl
theorem zl_X5_91 : zm_F zk_E RX5 91 5 12 := ⟨RX5, TX5, 13, rfl, zk_i5, by decide, zk_b2 151 (by decide +kernel) rfl⟩
theorem zt_5_12 : zm_T zk_E RX5 5 12 .int false := ⟨RX5, TX5, 13, tyX5, rfl, tyX5_ok, nmX5, rfl, rfl, rfl⟩
theorem zl_X5_94 : zm_L zk_E RX5 94 yJ7_fill_53178 (.code yJ7_fill_53178 cJ7_fill_53178 4 none) 2 ∧ Cond.static yJ7_fill_53178 ∈ zk_E.2.2.1 := ⟨⟨zk_b5 43 (by decide +kernel) rfl, zk_b1 26 (by decide +kernel) rfl, zk_b9 165 (by decide +kernel) rfl, by decide +kernel, by decide +kernel, by decide +kernel⟩, zk_b5 42 (by decide +kernel) rfl⟩
theorem zl_X5_78 : zm_F zk_E RX5 78 5 7 := ⟨RX5, TX5, 13, rfl, zk_i5, by decide, zk_b2 142 (by decide +kernel) rfl⟩
theorem zl_X5_75 : zm_F zk_E RX5 75 5 4 := ⟨RX5, TX5, 13, rfl, zk_i5, by decide, zk_b2 138 (by decide +kernel) rfl⟩
theorem zt_5_4 : zm_T zk_E RX5 5 4 .int false := ⟨RX5, TX5, 13, tyX5, rfl, tyX5_ok, nmX5, rfl, rfl, rfl⟩
theorem zl_X5_100 : zm_F zk_E RX5 100 5 6 := ⟨RX5, TX5, 13, rfl, zk_i5, by decide, zk_b2 141 (by decide +kernel) rfl⟩
theorem zt_5_6 : zm_T zk_E RX5 5 6 .int false := ⟨RX5, TX5, 13, tyX5, rfl, tyX5_ok, nmX5, rfl, rfl, rfl⟩
theorem zl_X5_103 : zm_F zk_E RX5 103 5 8 := ⟨RX5, TX5, 13, rfl, zk_i5, by decide, zk_b2 143 (by decide +kernel) rfl⟩
theorem zt_5_8 : zm_T zk_E RX5 5 8 .long false := ⟨RX5, TX5, 13, tyX5, rfl, tyX5_ok, nmX5, rfl, rfl, rfl⟩
theorem zl_X5_84 : zm_F zk_E RX5 84 5 5 := ⟨RX5, TX5, 13, rfl, zk_i5, by decide, zk_b2 140 (by decide +kernel) rfl⟩
theorem zt_5_5 : zm_T zk_E RX5 5 5 .int false := ⟨RX5, TX5, 13, tyX5, rfl, tyX5_ok, nmX5, rfl, rfl, rfl⟩
theorem zl_X5_107 : zm_L zk_E RX5 107 yX5_kindOf (.code yX5_kindOf cX5_kindOf 1 (some .int)) 1 ∧ Cond.static yX5_kindOf ∈ zk_E.2.2.1 := ⟨⟨zk_b9 172 (by decide +kernel) rfl, zk_b1 8 (by decide +kernel) rfl, zk_b9 170 (by decide +kernel) rfl, by decide +kernel, by decide +kernel, by decide +kernel⟩, zk_b9 171 (by decide +kernel) rfl⟩
theorem zt_5_7 : zm_T zk_E RX5 5 7 .int false := ⟨RX5, TX5, 13, tyX5, rfl, tyX5_ok, nmX5, rfl, rfl, rfl⟩
theorem zl_X5_111 : zm_L zk_E RX5 111 yX5_isWord (.code yX5_isWord cX5_isWord 3 (some .boolean)) 1 ∧ Cond.instanceMethod yX5_isWord ∈ zk_E.2.2.1 ∧ Cond.selects yX5_isWord.cls yX5_isWord yX5_isWord ∈ zk_E.2.2.1 := ⟨⟨zk_b9 184 (by decide +kernel) rfl, zk_b1 8 (by decide +kernel) rfl, zk_b9 181 (by decide +kernel) rfl, by decide +kernel, by decide +kernel, by decide +kernel⟩, zk_b9 183 (by decide +kernel) rfl, zk_s6 (q := (yX5_isWord, 13)) 7 (by decide +kernel)⟩
theorem zl_X5_81 : zm_L zk_E RX5 81 yX5_nextWord (.code yX5_nextWord cX5_nextWord 3 none) 0 ∧ Cond.instanceMethod yX5_nextWord ∈ zk_E.2.2.1 ∧ Cond.selects yX5_nextWord.cls yX5_nextWord yX5_nextWord ∈ zk_E.2.2.1 := ⟨⟨zk_b9 169 (by decide +kernel) rfl, zk_b1 8 (by decide +kernel) rfl, zk_b9 166 (by decide +kernel) rfl, by decide +kernel, by decide +kernel, by decide +kernel⟩, zk_b9 168 (by decide +kernel) rfl, zk_s6 (q := (yX5_nextWord, 13)) 4 (by decide +kernel)⟩
theorem zl_X5_69 : zm_F zk_E RX5 69 5 3 := ⟨RX5, TX5, 13, rfl, zk_i5, by decide, zk_b2 137 (by decide +kernel) rfl⟩
theorem zl_X5_130 : zm_L zk_E RX5 130 yX5_numberHere (.code yX5_numberHere cX5_numberHere 5 (some .int)) 2 ∧ Cond.instanceMethod yX5_numberHere ∈ zk_E.2.2.1 ∧ Cond.selects yX5_numberHere.cls yX5_numberHere yX5_numberHere ∈ zk_E.2.2.1 := ⟨⟨zk_b9 192 (by decide +kernel) rfl, zk_b1 8 (by decide +kernel) rfl, zk_b9 189 (by decide +kernel) rfl, by decide +kernel, by decide +kernel, by decide +kernel⟩, zk_b9 191 (by decide +kernel) rfl, zk_s6 (q := (yX5_numberHere, 13)) 9 (by decide +kernel)⟩
theorem zl_X5_142 : zm_L zk_E RX5 142 yX5_isAmong (.code yX5_isAmong cX5_isAmong 4 (some .boolean)) 3 ∧ Cond.static yX5_isAmong ∈ zk_E.2.2.1 := ⟨⟨zk_b9 199 (by decide +kernel) rfl, zk_b1 8 (by decide +kernel) rfl, zk_b9 197 (by decide +kernel) rfl, by decide +kernel, by decide +kernel, by decide +kernel⟩, zk_b9 198 (by decide +kernel) rfl⟩
theorem zl_X5_115 : zm_L zk_E RX5 115 yX5_skipWord (.code yX5_skipWord cX5_skipWord 4 (some .boolean)) 1 ∧ Cond.instanceMethod yX5_skipWord ∈ zk_E.2.2.1 ∧ Cond.selects yX5_skipWord.cls yX5_skipWord yX5_skipWord ∈ zk_E.2.2.1 := ⟨⟨zk_b9 180 (by decide +kernel) rfl, zk_b1 8 (by decide +kernel) rfl, zk_b9 177 (by decide +kernel) rfl, by decide +kernel, by decide +kernel, by decide +kernel⟩, zk_b9 179 (by decide +kernel) rfl, zk_s6 (q := (yX5_skipWord, 13)) 6 (by decide +kernel)⟩
theorem zl_X5_134 : zm_L zk_E RX5 134 yX5_readPoints (.code yX5_readPoints cX5_readPoints 5 (some .int)) 1 ∧ Cond.instanceMethod yX5_readPoints ∈ zk_E.2.2.1 ∧ Cond.selects yX5_readPoints.cls yX5_readPoints yX5_readPoints ∈ zk_E.2.2.1 := ⟨⟨zk_b9 196 (by decide +kernel) rfl, zk_b1 8 (by decide +kernel) rfl, zk_b9 193 (by decide +kernel) rfl, by decide +kernel, by decide +kernel, by decide +kernel⟩, zk_b9 195 (by decide +kernel) rfl, zk_s6 (q := (yX5_readPoints, 13)) 10 (by decide +kernel)⟩
theorem zl_X5_138 : zm_L zk_E RX5 138 yX5_skipSign (.code yX5_skipSign cX5_skipSign 3 (some .boolean)) 1 ∧ Cond.instanceMethod yX5_skipSign ∈ zk_E.2.2.1 ∧ Cond.selects yX5_skipSign.cls yX5_skipSign yX5_skipSign ∈ zk_E.2.2.1 := ⟨⟨zk_b9 203 (by decide +kernel) rfl, zk_b1 8 (by decide +kernel) rfl, zk_b9 200 (by decide +kernel) rfl, by decide +kernel, by decide +kernel, by decide +kernel⟩, zk_b9 202 (by decide +kernel) rfl, zk_s6 (q := (yX5_skipSign, 13)) 11 (by decide +kernel)⟩
theorem zl_X5_146 : zm_L zk_E RX5 146 yX5_readActNumber (.code yX5_readActNumber cX5_readActNumber 7 (some .boolean)) 4 ∧ Cond.instanceMethod yX5_readActNumber ∈ zk_E.2.2.1 ∧ Cond.selects yX5_readActNumber.cls yX5_readActNumber yX5_readActNumber ∈ zk_E.2.2.1 := ⟨⟨zk_b9 211 (by decide +kernel) rfl, zk_b1 8 (by decide +kernel) rfl, zk_b9 208 (by decide +kernel) rfl, by decide +kernel, by decide +kernel, by decide +kernel⟩, zk_b9 210 (by decide +kernel) rfl, zk_s6 (q := (yX5_readActNumber, 13)) 13 (by decide +kernel)⟩
theorem zl_X5_150 : zm_L zk_E RX5 150 yX5_toldZoneHere (.code yX5_toldZoneHere cX5_toldZoneHere 2 (some .int)) 0 ∧ Cond.instanceMethod yX5_toldZoneHere ∈ zk_E.2.2.1 ∧ Cond.selects yX5_toldZoneHere.cls yX5_toldZoneHere yX5_toldZoneHere ∈ zk_E.2.2.1 := ⟨⟨zk_b9 219 (by decide +kernel) rfl, zk_b1 8 (by decide +kernel) rfl, zk_b9 216 (by decide +kernel) rfl, by decide +kernel, by decide +kernel, by decide +kernel⟩, zk_b9 218 (by decide +kernel) rfl, zk_s6 (q := (yX5_toldZoneHere, 13)) 15 (by decide +kernel)⟩
theorem zl_X5_154 : zm_L zk_E RX5 154 yX5_toldActHere (.code yX5_toldActHere cX5_toldActHere 2 (some .int)) 0 ∧ Cond.instanceMethod yX5_toldActHere ∈ zk_E.2.2.1 ∧ Cond.selects yX5_toldActHere.cls yX5_toldActHere yX5_toldActHere ∈ zk_E.2.2.1 := ⟨⟨zk_b9 223 (by decide +kernel) rfl, zk_b1 8 (by decide +kernel) rfl, zk_b9 220 (by decide +kernel) rfl, by decide +kernel, by decide +kernel, by decide +kernel⟩, zk_b9 222 (by decide +kernel) rfl, zk_s7 (q := (yX5_toldActHere, 13)) 0 (by decide +kernel)⟩
theorem zl_X5_127 : zm_L zk_E RX5 127 yX5_readHold (.code yX5_readHold cX5_readHold 2 (some .boolean)) 0 ∧ Cond.instanceMethod yX5_readHold ∈ zk_E.2.2.1 ∧ Cond.selects yX5_readHold.cls yX5_readHold yX5_readHold ∈ zk_E.2.2.1 := ⟨⟨zk_b9 227 (by decide +kernel) rfl, zk_b1 8 (by decide +kernel) rfl, zk_b9 224 (by decide +kernel) rfl, by decide +kernel, by decide +kernel, by decide +kernel⟩, zk_b9 226 (by decide +kernel) rfl, zk_s7 (q := (yX5_readHold, 13)) 1 (by decide +kernel)⟩
theorem zl_X5_124 : zm_L zk_E RX5 124 yX5_readRow (.code yX5_readRow cX5_readRow 5 (some .boolean)) 0 ∧ Cond.instanceMethod yX5_readRow ∈ zk_E.2.2.1 ∧ Cond.selects yX5_readRow.cls yX5_readRow yX5_readRow ∈ zk_E.2.2.1 := ⟨⟨zk_b9 215 (by decide +kernel) rfl, zk_b1 8 (by decide +kernel) rfl, zk_b9 212 (by decide +kernel) rfl, by decide +kernel, by decide +kernel, by decide +kernel⟩, zk_b9 214 (by decide +kernel) rfl, zk_s6 (q := (yX5_readRow, 13)) 14 (by decide +kernel)⟩
theorem zl_X5_121 : zm_L zk_E RX5 121 yX5_readAct (.code yX5_readAct cX5_readAct 3 (some .boolean)) 0 ∧ Cond.instanceMethod yX5_readAct ∈ zk_E.2.2.1 ∧ Cond.selects yX5_readAct.cls yX5_readAct yX5_readAct ∈ zk_E.2.2.1 := ⟨⟨zk_b9 207 (by decide +kernel) rfl, zk_b1 8 (by decide +kernel) rfl, zk_b9 204 (by decide +kernel) rfl, by decide +kernel, by decide +kernel, by decide +kernel⟩, zk_b9 206 (by decide +kernel) rfl, zk_s6 (q := (yX5_readAct, 13)) 12 (by decide +kernel)⟩
theorem zl_X5_118 : zm_L zk_E RX5 118 yX5_readZone (.code yX5_readZone cX5_readZone 5 (some .boolean)) 0 ∧ Cond.instanceMethod yX5_readZone ∈ zk_E.2.2.1 ∧ Cond.selects yX5_readZone.cls yX5_readZone yX5_readZone ∈ zk_E.2.2.1 := ⟨⟨zk_b9 188 (by decide +kernel) rfl, zk_b1 8 (by decide +kernel) rfl, zk_b9 185 (by decide +kernel) rfl, by decide +kernel, by decide +kernel, by decide +kernel⟩, zk_b9 187 (by decide +kernel) rfl, zk_s6 (q := (yX5_readZone, 13)) 8 (by decide +kernel)⟩
theorem zt_5_3 : zm_T zk_E RX5 5 3 .int false := ⟨RX5, TX5, 13, tyX5, rfl, tyX5_ok, nmX5, rfl, rfl, rfl⟩
theorem zl_X5_72 : zm_L zk_E RX5 72 yX5_forgetTables (.code yX5_forgetTables cX5_forgetTables 2 none) 0 ∧ Cond.instanceMethod yX5_forgetTables ∈ zk_E.2.2.1 ∧ Cond.selects yX5_forgetTables.cls yX5_forgetTables yX5_forgetTables ∈ zk_E.2.2.1 := ⟨⟨zk_b9 164 (by decide +kernel) rfl, zk_b1 8 (by decide +kernel) rfl, zk_b9 161 (by decide +kernel) rfl, by decide +kernel, by decide +kernel, by decide +kernel⟩, zk_b9 163 (by decide +kernel) rfl, zk_s6 (q := (yX5_forgetTables, 13)) 3 (by decide +kernel)⟩
theorem zl_X5_87 : zm_L zk_E RX5 87 yX5_readSentence (.code yX5_readSentence cX5_readSentence 1 (some .boolean)) 0 ∧ Cond.instanceMethod yX5_readSentence ∈ zk_E.2.2.1 ∧ Cond.selects yX5_readSentence.cls yX5_readSentence yX5_readSentence ∈ zk_E.2.2.1 := ⟨⟨zk_b9 176 (by decide +kernel) rfl, zk_b1 8 (by decide +kernel) rfl, zk_b9 173 (by decide +kernel) rfl, by decide +kernel, by decide +kernel, by decide +kernel⟩, zk_b9 175 (by decide +kernel) rfl, zk_s6 (q := (yX5_readSentence, 13)) 5 (by decide +kernel)⟩
theorem zl_X6_1 : Cond.methodLink RX6 1 Lib.objectInit ∈ zk_E.2.2.1 ∧ Cond.instanceMethod Lib.objectInit ∈ zk_E.2.2.1 ∧ Cond.code Lib.objectInit ⟨#[0xb1]⟩ 1 none ∈ zk_E.2.2.1 := ⟨zk_b1 154 (by decide +kernel) rfl, zk_b1 43 (by decide +kernel) rfl, zk_b1 44 (by decide +kernel) rfl⟩
theorem zl_X6_9 : zm_F zk_E RX6 9 6 0 := ⟨RX6, TX6, 10, rfl, zk_i6, by decide, zk_b1 155 (by decide +kernel) rfl⟩
theorem zt_6_0 : zm_T zk_E RX6 6 0 (.array .char) true := ⟨RX6, TX6, 10, tyX6, rfl, tyX6_ok, nmX6, rfl, rfl, rfl⟩
theorem zl_X6_13 : zm_F zk_E RX6 13 6 2 := ⟨RX6, TX6, 10, rfl, zk_i6, by decide, zk_b1 158 (by decide +kernel) rfl⟩
theorem zt_6_2 : zm_T zk_E RX6 6 2 (.array .int) true := ⟨RX6, TX6, 10, tyX6, rfl, tyX6_ok, nmX6, rfl, rfl, rfl⟩
theorem zl_X6_17 : zm_F zk_E RX6 17 6 3 := ⟨RX6, TX6, 10, rfl, zk_i6, by decide, zk_b1 160 (by decide +kernel) rfl⟩
theorem zt_6_3 : zm_T zk_E RX6 6 3 (.array .long) true := ⟨RX6, TX6, 10, tyX6, rfl, tyX6_ok, nmX6, rfl, rfl, rfl⟩
theorem zl_X6_21 : zm_F zk_E RX6 21 6 4 := ⟨RX6, TX6, 10, rfl, zk_i6, by decide, zk_b1 162 (by decide +kernel) rfl⟩
theorem zt_6_4 : zm_T zk_E RX6 6 4 (.array .int) true := ⟨RX6, TX6, 10, tyX6, rfl, tyX6_ok, nmX6, rfl, rfl, rfl⟩
theorem zl_X6_24 : zm_F zk_E RX6 24 6 7 := ⟨RX6, TX6, 10, rfl, zk_i6, by decide, zk_b1 166 (by decide +kernel) rfl⟩
theorem zt_6_7 : zm_T zk_E RX6 6 7 (.array .long) true := ⟨RX6, TX6, 10, tyX6, rfl, tyX6_ok, nmX6, rfl, rfl, rfl⟩
theorem zl_X6_27 : zm_F zk_E RX6 27 6 8 := ⟨RX6, TX6, 10, rfl, zk_i6, by decide, zk_b1 167 (by decide +kernel) rfl⟩
theorem zt_6_8 : zm_T zk_E RX6 6 8 (.array .int) true := ⟨RX6, TX6, 10, tyX6, rfl, tyX6_ok, nmX6, rfl, rfl, rfl⟩
theorem zl_X6_30 : zm_F zk_E RX6 30 6 9 := ⟨RX6, TX6, 10, rfl, zk_i6, by decide, zk_b1 169 (by decide +kernel) rfl⟩
theorem zt_6_9 : zm_T zk_E RX6 6 9 (.array .int) true := ⟨RX6, TX6, 10, tyX6, rfl, tyX6_ok, nmX6, rfl, rfl, rfl⟩
set_option maxHeartbeats 4000000 in
set_option maxRecDepth 100000 in
theorem zt_X4_runActs_L7 {p : Program} {l : Launch} {e : Env} {R : Room} {s : State} {m : MethodId} {args : Array Value} {below : List Frame} {meth : Method} {c : Code} {V : zm_V} {mc ms d rc rs : Nat} (hX : zm_X p R s m args meth c RX4 "runActs" cX4_runActs 3 zk_E V mc ms) (hr : meth.sig.returnType = none) (hR : R.frames = d ∧ R.locals = 64 * d) (hd : 5 ≤ d) {N : Nat} {res : (Unit × zm_S) ⊕ ((Unit) × zm_S)} {out : (Unit × zm_S)} (a0 : Nat) (i1 : Int32) (hf : ∀ o, res = .inl o → o = out) (hk : ∀ (S' : zm_S), res = .inr ((), S') → zw p l e R s m args below meth c (vx_MQ below (zm_Qc zk_E V (zo_v out)) (zm_XC zk_E V zo_x) args s mc ms (fun q => V.2.2.2.1 ≤ q)) 3 zk_E V mc ms 46 [] [] S' rc rs) : ∀ (n : Nat) (i2 : Int32) (S : zm_S), zf_X4_runActs_L7 N n a0 i1 i2 S = some res → zw p l e R s m args below meth c (vx_MQ below (zm_Qc zk_E V (zo_v out)) (zm_XC zk_E V zo_x) args s mc ms (fun q => V.2.2.2.1 ≤ q)) 3 zk_E V mc ms 7 [(0, .ref a0), (1, .int i1), (2, .int i2)] [] S rc rs := by
  intro n
  induction n with
  | zero => intro i2 S h; cases h
  | succ n ih =>
    intro i2 S h
    rw [zf_X4_runActs_L7] at h
    refine zw_iload_n hX dX4_runActs_7 rfl ?_
    refine zw_aload_n hX dX4_runActs_8 rfl ?_
    obtain ⟨b3, g, h⟩ := zb_some h
    refine zw_getr hX zl_X4_35 dX4_runActs_9 g ?_
    obtain ⟨v4, g, h⟩ := zb_some h
    refine zw_len hX dX4_runActs_12 g ?_
    refine zw_icmp_ge (tgt := 46) hX dX4_runActs_13 (by decide) (fun c13 => ?_) (fun c13 => ?_)
    · rw [if_pos c13] at h
      refine zw_sub (lv' := []) zs_nil ?_
      exact hk  _ (Option.some.inj h).symm
    · rw [if_neg c13] at h
      refine zw_aload_n hX dX4_runActs_16 rfl ?_
      refine zw_aload_n hX dX4_runActs_17 rfl ?_
      obtain ⟨b5, g, h⟩ := zb_some h
      refine zw_getr hX zl_X4_35 dX4_runActs_18 g ?_
      refine zw_iload_n hX dX4_runActs_21 rfl ?_
      obtain ⟨v6, g, h⟩ := zb_some h
      refine zw_xi hX dX4_runActs_22 g ?_
      obtain ⟨_, gi, h⟩ := zb_some h
      obtain ⟨r8, g, h⟩ := zb_some h
      refine zc_Vi (as := [.int v6]) hX gi (zt_X4_isAct (d := d - 1) (by omega) g) zl_X4_123 rfl dX4_runActs_23 ⟨rfl, rfl, Nat.le_of_ble_eq_true rfl⟩ ⟨by omega, by omega⟩ ?_
      refine zw_if_eq (tgt := 40) hX dX4_runActs_26 (by decide) (fun c26 => ?_) (fun c26 => ?_)
      · rw [if_pos c26] at h
        refine zw_iinc (v := (i2 + (1 : Int32))) hX dX4_runActs_40 rfl rfl (by decide) ?_
        refine zw_goto (tgt := 7) hX dX4_runActs_43 (by decide) ?_
        refine zw_sub (lv' := [(0, .ref a0), (1, .int i1), (2, .int (i2 + (1 : Int32)))]) (List.forall_mem_cons.mpr ⟨rfl, (List.forall_mem_cons.mpr ⟨rfl, (List.forall_mem_cons.mpr ⟨rfl, zs_nil⟩)⟩)⟩) ?_
        exact ih _ _ h
      · rw [if_neg c26] at h
        refine zw_aload_n hX dX4_runActs_29 rfl ?_
        refine zw_aload_n hX dX4_runActs_30 rfl ?_
        obtain ⟨b9, g, h⟩ := zb_some h
        refine zw_getr hX zl_X4_35 dX4_runActs_31 g ?_
        refine zw_iload_n hX dX4_runActs_34 rfl ?_
        obtain ⟨v10, g, h⟩ := zb_some h
        refine zw_xi hX dX4_runActs_35 g ?_
        refine zw_iload_n hX dX4_runActs_36 rfl ?_
        obtain ⟨_, gi, h⟩ := zb_some h
        obtain ⟨r12, g, h⟩ := zb_some h
        refine zc_Vv (as := [.int v10, .int i1]) hX gi (zt_X4_runAct (d := d - 1) (by omega) g) zl_X4_126 rfl dX4_runActs_37 ⟨rfl, rfl, Nat.le_of_ble_eq_true rfl⟩ ⟨by omega, by omega⟩ ?_
        refine zw_iinc (v := (i2 + (1 : Int32))) hX dX4_runActs_40 rfl rfl (by decide) ?_
        refine zw_goto (tgt := 7) hX dX4_runActs_43 (by decide) ?_
        refine zw_sub (lv' := [(0, .ref a0), (1, .int i1), (2, .int (i2 + (1 : Int32)))]) (List.forall_mem_cons.mpr ⟨rfl, (List.forall_mem_cons.mpr ⟨rfl, (List.forall_mem_cons.mpr ⟨rfl, zs_nil⟩)⟩)⟩) ?_
        exact ih _ _ h
set_option maxHeartbeats 4000000 in
set_option maxRecDepth 100000 in
theorem zt_X4_runActs {l : Launch} {V : zm_V} {N : Nat} {S : zm_S} {out : (Unit × zm_S)} {d : Nat} {a0 : Nat} {i1 : Int32} (hd : 5 ≤ d) (h : zf_X4_runActs N a0 i1 S = some out) : zm_Met l zk_E V yX4_runActs (.code yX4_runActs cX4_runActs 3 none) d [.ref a0, .int i1] S 0 0 (zo_v out) zo_x := by
  refine zm_of (by decide +kernel) (Nat.le_of_ble_eq_true rfl) ?_
  intro p e R s m args below meth c hRR hX hr hxt
  have hR : R.frames = d ∧ R.locals = 64 * d := by rw [hRR]; exact ⟨rfl, rfl⟩
  have hX : zm_X p R s m args meth c RX4 "runActs" cX4_runActs 3 zk_E V 0 0 := hX
  unfold zf_X4_runActs at h
  refine zw_sub (lv' := [(0, .ref a0), (1, .int i1)]) (List.forall_mem_cons.mpr ⟨rfl, (List.forall_mem_cons.mpr ⟨rfl, zs_nil⟩)⟩) ?_
  refine zw_aload_n hX dX4_runActs_0 rfl ?_
  refine zw_iload_n hX dX4_runActs_1 rfl ?_
  obtain ⟨_, gi, h⟩ := zb_some h
  obtain ⟨r2, g, h⟩ := zb_some h
  refine zc_Vv (as := [.int i1]) hX gi (zt_X4_lookAtZones (d := d - 1) (by omega) g) zl_X4_119 rfl dX4_runActs_2 ⟨rfl, rfl, Nat.le_of_ble_eq_true rfl⟩ ⟨by omega, by omega⟩ ?_
  refine zw_iconst (v := (0 : Int32)) hX dX4_runActs_5 (by decide) ?_
  refine zw_istore_n hX dX4_runActs_6 (by decide) ?_
  obtain ⟨r, g, h⟩ := zb_some h
  refine zw_sub (lv' := [(0, .ref a0), (1, .int i1), (2, .int (0 : Int32))]) (List.forall_mem_cons.mpr ⟨rfl, (List.forall_mem_cons.mpr ⟨rfl, (List.forall_mem_cons.mpr ⟨rfl, zs_nil⟩)⟩)⟩) ?_
  refine zt_X4_runActs_L7 hX hr hR hd (res := r) (out := out) a0 i1 ?_ ?_ N _ _ g
  · intro o ho
    subst ho
    exact Option.some.inj h
  · intro  S13 hx
    subst hx
    try dsimp only at h
    obtain rfl := Option.some.inj h
    exact zw_vret hX hr dX4_runActs_46 ⟨rfl, rfl⟩
set_option maxHeartbeats 4000000 in
set_option maxRecDepth 100000 in
theorem zt_X4_lookAtActs_L4 {p : Program} {l : Launch} {e : Env} {R : Room} {s : State} {m : MethodId} {args : Array Value} {below : List Frame} {meth : Method} {c : Code} {V : zm_V} {mc ms d rc rs : Nat} (hX : zm_X p R s m args meth c RX4 "lookAtActs" cX4_lookAtActs 4 zk_E V mc ms) (hr : meth.sig.returnType = (some .int)) (hR : R.frames = d ∧ R.locals = 64 * d) (hd : 1 ≤ d) {N : Nat} {res : (Int32 × zm_S) ⊕ ((Int32) × zm_S)} {out : (Int32 × zm_S)} (a0 : Nat) (i1 : Int32) (hf : ∀ o, res = .inl o → o = out) (hk : ∀ (x2 : Int32) (S' : zm_S), res = .inr (x2, S') → zw p l e R s m args below meth c (vx_MQ below (zm_Qc zk_E V (zo_i out)) (zm_XC zk_E V zo_x) args s mc ms (fun q => V.2.2.2.1 ≤ q)) 4 zk_E V mc ms 55 [(2, .int x2)] [] S' rc rs) : ∀ (n : Nat) (i2 : Int32) (i3 : Int32) (S : zm_S), zf_X4_lookAtActs_L4 N n a0 i1 i2 i3 S = some res → zw p l e R s m args below meth c (vx_MQ below (zm_Qc zk_E V (zo_i out)) (zm_XC zk_E V zo_x) args s mc ms (fun q => V.2.2.2.1 ≤ q)) 4 zk_E V mc ms 4 [(0, .ref a0), (1, .int i1), (2, .int i2), (3, .int i3)] [] S rc rs := by
  intro n
  induction n with
  | zero => intro i2 i3 S h; cases h
  | succ n ih =>
    intro i2 i3 S h
    rw [zf_X4_lookAtActs_L4] at h
    refine zw_iload_n hX dX4_lookAtActs_4 rfl ?_
    refine zw_aload_n hX dX4_lookAtActs_5 rfl ?_
    obtain ⟨b1, g, h⟩ := zb_some h
    refine zw_getr hX zl_X4_38 dX4_lookAtActs_6 g ?_
    obtain ⟨v2, g, h⟩ := zb_some h
    refine zw_len hX dX4_lookAtActs_9 g ?_
    refine zw_icmp_ge (tgt := 55) hX dX4_lookAtActs_10 (by decide) (fun c10 => ?_) (fun c10 => ?_)
    · rw [if_pos c10] at h
      refine zw_sub (lv' := [(2, .int i2)]) (List.forall_mem_cons.mpr ⟨rfl, zs_nil⟩) ?_
      exact hk _ _ (Option.some.inj h).symm
    · rw [if_neg c10] at h
      refine zw_aload_n hX dX4_lookAtActs_13 rfl ?_
      obtain ⟨b3, g, h⟩ := zb_some h
      refine zw_getr hX zl_X4_38 dX4_lookAtActs_14 g ?_
      refine zw_iload_n hX dX4_lookAtActs_17 rfl ?_
      obtain ⟨v4, g, h⟩ := zb_some h
      refine zw_xi hX dX4_lookAtActs_18 g ?_
      refine zw_iconst (v := (1 : Int32)) hX dX4_lookAtActs_19 (by decide) ?_
      refine zw_icmp_ne (tgt := 49) hX dX4_lookAtActs_20 (by decide) (fun c20 => ?_) (fun c20 => ?_)
      · rw [if_neg c20] at h
        refine zw_iinc (v := (i3 + (1 : Int32))) hX dX4_lookAtActs_49 rfl rfl (by decide) ?_
        refine zw_goto (tgt := 4) hX dX4_lookAtActs_52 (by decide) ?_
        refine zw_sub (lv' := [(0, .ref a0), (1, .int i1), (2, .int i2), (3, .int (i3 + (1 : Int32)))]) (List.forall_mem_cons.mpr ⟨rfl, (List.forall_mem_cons.mpr ⟨rfl, (List.forall_mem_cons.mpr ⟨rfl, (List.forall_mem_cons.mpr ⟨rfl, zs_nil⟩)⟩)⟩)⟩) ?_
        exact ih _ _ _ h
      · rw [if_pos c20] at h
        refine zw_aload_n hX dX4_lookAtActs_23 rfl ?_
        obtain ⟨b5, g, h⟩ := zb_some h
        refine zw_getr hX zl_X4_44 dX4_lookAtActs_24 g ?_
        refine zw_iload_n hX dX4_lookAtActs_27 rfl ?_
        obtain ⟨v6, g, h⟩ := zb_some h
        refine zw_xz hX dX4_lookAtActs_28 g ?_
        refine zw_if_ne (tgt := 49) hX dX4_lookAtActs_29 (by decide) (fun c29 => ?_) (fun c29 => ?_)
        · rw [if_neg c29] at h
          refine zw_iinc (v := (i3 + (1 : Int32))) hX dX4_lookAtActs_49 rfl rfl (by decide) ?_
          refine zw_goto (tgt := 4) hX dX4_lookAtActs_52 (by decide) ?_
          refine zw_sub (lv' := [(0, .ref a0), (1, .int i1), (2, .int i2), (3, .int (i3 + (1 : Int32)))]) (List.forall_mem_cons.mpr ⟨rfl, (List.forall_mem_cons.mpr ⟨rfl, (List.forall_mem_cons.mpr ⟨rfl, (List.forall_mem_cons.mpr ⟨rfl, zs_nil⟩)⟩)⟩)⟩) ?_
          exact ih _ _ _ h
        · rw [if_pos c29] at h
          refine zw_aload_n hX dX4_lookAtActs_32 rfl ?_
          obtain ⟨b7, g, h⟩ := zb_some h
          refine zw_getr hX zl_X4_44 dX4_lookAtActs_33 g ?_
          refine zw_iload_n hX dX4_lookAtActs_36 rfl ?_
          refine zw_iconst (v := (1 : Int32)) hX dX4_lookAtActs_37 (by decide) ?_
          obtain ⟨S8, g, h⟩ := zb_some h
          refine zw_sz hX dX4_lookAtActs_38 g ?_
          refine zw_aload_n hX dX4_lookAtActs_39 rfl ?_
          obtain ⟨b9, g, h⟩ := zb_some h
          refine zw_getr hX zl_X4_41 dX4_lookAtActs_40 g ?_
          refine zw_iload_n hX dX4_lookAtActs_43 rfl ?_
          refine zw_iload_n hX dX4_lookAtActs_44 rfl ?_
          obtain ⟨S10, g, h⟩ := zb_some h
          refine zw_si hX dX4_lookAtActs_45 g ?_
          refine zw_iinc (v := (i2 + (1 : Int32))) hX dX4_lookAtActs_46 rfl rfl (by decide) ?_
          refine zw_iinc (v := (i3 + (1 : Int32))) hX dX4_lookAtActs_49 rfl rfl (by decide) ?_
          refine zw_goto (tgt := 4) hX dX4_lookAtActs_52 (by decide) ?_
          refine zw_sub (lv' := [(0, .ref a0), (1, .int i1), (2, .int (i2 + (1 : Int32))), (3, .int (i3 + (1 : Int32)))]) (List.forall_mem_cons.mpr ⟨rfl, (List.forall_mem_cons.mpr ⟨rfl, (List.forall_mem_cons.mpr ⟨rfl, (List.forall_mem_cons.mpr ⟨rfl, zs_nil⟩)⟩)⟩)⟩) ?_
          exact ih _ _ _ h
set_option maxHeartbeats 4000000 in
set_option maxRecDepth 100000 in
theorem zt_X4_lookAtActs {l : Launch} {V : zm_V} {N : Nat} {S : zm_S} {out : (Int32 × zm_S)} {d : Nat} {a0 : Nat} {i1 : Int32} (hd : 1 ≤ d) (h : zf_X4_lookAtActs N a0 i1 S = some out) : zm_Met l zk_E V yX4_lookAtActs (.code yX4_lookAtActs cX4_lookAtActs 4 (some .int)) d [.ref a0, .int i1] S 0 0 (zo_i out) zo_x := by
  refine zm_of (by decide +kernel) (Nat.le_of_ble_eq_true rfl) ?_
  intro p e R s m args below meth c hRR hX hr hxt
  have hR : R.frames = d ∧ R.locals = 64 * d := by rw [hRR]; exact ⟨rfl, rfl⟩
  have hX : zm_X p R s m args meth c RX4 "lookAtActs" cX4_lookAtActs 4 zk_E V 0 0 := hX
  unfold zf_X4_lookAtActs at h
  refine zw_sub (lv' := [(0, .ref a0), (1, .int i1)]) (List.forall_mem_cons.mpr ⟨rfl, (List.forall_mem_cons.mpr ⟨rfl, zs_nil⟩)⟩) ?_
  refine zw_iconst (v := (0 : Int32)) hX dX4_lookAtActs_0 (by decide) ?_
  refine zw_istore_n hX dX4_lookAtActs_1 (by decide) ?_
  refine zw_iconst (v := (0 : Int32)) hX dX4_lookAtActs_2 (by decide) ?_
  refine zw_istore_n hX dX4_lookAtActs_3 (by decide) ?_
  obtain ⟨r, g, h⟩ := zb_some h
  refine zw_sub (lv' := [(0, .ref a0), (1, .int i1), (2, .int (0 : Int32)), (3, .int (0 : Int32))]) (List.forall_mem_cons.mpr ⟨rfl, (List.forall_mem_cons.mpr ⟨rfl, (List.forall_mem_cons.mpr ⟨rfl, (List.forall_mem_cons.mpr ⟨rfl, zs_nil⟩)⟩)⟩)⟩) ?_
  refine zt_X4_lookAtActs_L4 hX hr hR hd (res := r) (out := out) a0 i1 ?_ ?_ N _ _ _ g
  · intro o ho
    subst ho
    exact Option.some.inj h
  · intro v12 S11 hx
    subst hx
    try dsimp only at h
    refine zw_iload_n hX dX4_lookAtActs_55 rfl ?_
    obtain rfl := Option.some.inj h
    exact zw_iret hX hr dX4_lookAtActs_56 rfl ⟨rfl, rfl⟩
set_option maxHeartbeats 4000000 in
set_option maxRecDepth 100000 in
theorem zt_X4_confirmActs_L4 {p : Program} {l : Launch} {e : Env} {R : Room} {s : State} {m : MethodId} {args : Array Value} {below : List Frame} {meth : Method} {c : Code} {V : zm_V} {mc ms d rc rs : Nat} (hX : zm_X p R s m args meth c RX4 "confirmActs" cX4_confirmActs 3 zk_E V mc ms) (hr : meth.sig.returnType = (some .int)) (hR : R.frames = d ∧ R.locals = 64 * d) (hd : 1 ≤ d) {N : Nat} {res : (Int32 × zm_S) ⊕ ((Int32) × zm_S)} {out : (Int32 × zm_S)} (a0 : Nat) (hf : ∀ o, res = .inl o → o = out) (hk : ∀ (x1 : Int32) (S' : zm_S), res = .inr (x1, S') → zw p l e R s m args below meth c (vx_MQ below (zm_Qc zk_E V (zo_i out)) (zm_XC zk_E V zo_x) args s mc ms (fun q => V.2.2.2.1 ≤ q)) 3 zk_E V mc ms 48 [(1, .int x1)] [] S' rc rs) : ∀ (n : Nat) (i1 : Int32) (i2 : Int32) (S : zm_S), zf_X4_confirmActs_L4 N n a0 i1 i2 S = some res → zw p l e R s m args below meth c (vx_MQ below (zm_Qc zk_E V (zo_i out)) (zm_XC zk_E V zo_x) args s mc ms (fun q => V.2.2.2.1 ≤ q)) 3 zk_E V mc ms 4 [(0, .ref a0), (1, .int i1), (2, .int i2)] [] S rc rs := by
  intro n
  induction n with
  | zero => intro i1 i2 S h; cases h
  | succ n ih =>
    intro i1 i2 S h
    rw [zf_X4_confirmActs_L4] at h
    refine zw_iload_n hX dX4_confirmActs_4 rfl ?_
    refine zw_aload_n hX dX4_confirmActs_5 rfl ?_
    obtain ⟨b1, g, h⟩ := zb_some h
    refine zw_getr hX zl_X4_38 dX4_confirmActs_6 g ?_
    obtain ⟨v2, g, h⟩ := zb_some h
    refine zw_len hX dX4_confirmActs_9 g ?_
    refine zw_icmp_ge (tgt := 48) hX dX4_confirmActs_10 (by decide) (fun c10 => ?_) (fun c10 => ?_)
    · rw [if_pos c10] at h
      refine zw_sub (lv' := [(1, .int i1)]) (List.forall_mem_cons.mpr ⟨rfl, zs_nil⟩) ?_
      exact hk _ _ (Option.some.inj h).symm
    · rw [if_neg c10] at h
      refine zw_aload_n hX dX4_confirmActs_13 rfl ?_
      obtain ⟨b3, g, h⟩ := zb_some h
      refine zw_getr hX zl_X4_38 dX4_confirmActs_14 g ?_
      refine zw_iload_n hX dX4_confirmActs_17 rfl ?_
      obtain ⟨v4, g, h⟩ := zb_some h
      refine zw_xi hX dX4_confirmActs_18 g ?_
      refine zw_iconst (v := (1 : Int32)) hX dX4_confirmActs_19 (by decide) ?_
      refine zw_icmp_ne (tgt := 42) hX dX4_confirmActs_20 (by decide) (fun c20 => ?_) (fun c20 => ?_)
      · rw [if_neg c20] at h
        refine zw_iinc (v := (i2 + (1 : Int32))) hX dX4_confirmActs_42 rfl rfl (by decide) ?_
        refine zw_goto (tgt := 4) hX dX4_confirmActs_45 (by decide) ?_
        refine zw_sub (lv' := [(0, .ref a0), (1, .int i1), (2, .int (i2 + (1 : Int32)))]) (List.forall_mem_cons.mpr ⟨rfl, (List.forall_mem_cons.mpr ⟨rfl, (List.forall_mem_cons.mpr ⟨rfl, zs_nil⟩)⟩)⟩) ?_
        exact ih _ _ _ h
      · rw [if_pos c20] at h
        refine zw_aload_n hX dX4_confirmActs_23 rfl ?_
        obtain ⟨b5, g, h⟩ := zb_some h
        refine zw_getr hX zl_X4_47 dX4_confirmActs_24 g ?_
        refine zw_iload_n hX dX4_confirmActs_27 rfl ?_
        obtain ⟨v6, g, h⟩ := zb_some h
        refine zw_xz hX dX4_confirmActs_28 g ?_
        refine zw_if_ne (tgt := 42) hX dX4_confirmActs_29 (by decide) (fun c29 => ?_) (fun c29 => ?_)
        · rw [if_neg c29] at h
          refine zw_iinc (v := (i2 + (1 : Int32))) hX dX4_confirmActs_42 rfl rfl (by decide) ?_
          refine zw_goto (tgt := 4) hX dX4_confirmActs_45 (by decide) ?_
          refine zw_sub (lv' := [(0, .ref a0), (1, .int i1), (2, .int (i2 + (1 : Int32)))]) (List.forall_mem_cons.mpr ⟨rfl, (List.forall_mem_cons.mpr ⟨rfl, (List.forall_mem_cons.mpr ⟨rfl, zs_nil⟩)⟩)⟩) ?_
          exact ih _ _ _ h
        · rw [if_pos c29] at h
          refine zw_aload_n hX dX4_confirmActs_32 rfl ?_
          obtain ⟨b7, g, h⟩ := zb_some h
          refine zw_getr hX zl_X4_47 dX4_confirmActs_33 g ?_
          refine zw_iload_n hX dX4_confirmActs_36 rfl ?_
          refine zw_iconst (v := (1 : Int32)) hX dX4_confirmActs_37 (by decide) ?_
          obtain ⟨S8, g, h⟩ := zb_some h
          refine zw_sz hX dX4_confirmActs_38 g ?_
          refine zw_iinc (v := (i1 + (1 : Int32))) hX dX4_confirmActs_39 rfl rfl (by decide) ?_
          refine zw_iinc (v := (i2 + (1 : Int32))) hX dX4_confirmActs_42 rfl rfl (by decide) ?_
          refine zw_goto (tgt := 4) hX dX4_confirmActs_45 (by decide) ?_
          refine zw_sub (lv' := [(0, .ref a0), (1, .int (i1 + (1 : Int32))), (2, .int (i2 + (1 : Int32)))]) (List.forall_mem_cons.mpr ⟨rfl, (List.forall_mem_cons.mpr ⟨rfl, (List.forall_mem_cons.mpr ⟨rfl, zs_nil⟩)⟩)⟩) ?_
          exact ih _ _ _ h
set_option maxHeartbeats 4000000 in
set_option maxRecDepth 100000 in
theorem zt_X4_confirmActs {l : Launch} {V : zm_V} {N : Nat} {S : zm_S} {out : (Int32 × zm_S)} {d : Nat} {a0 : Nat} (hd : 1 ≤ d) (h : zf_X4_confirmActs N a0 S = some out) : zm_Met l zk_E V yX4_confirmActs (.code yX4_confirmActs cX4_confirmActs 3 (some .int)) d [.ref a0] S 0 0 (zo_i out) zo_x := by
  refine zm_of (by decide +kernel) (Nat.le_of_ble_eq_true rfl) ?_
  intro p e R s m args below meth c hRR hX hr hxt
  have hR : R.frames = d ∧ R.locals = 64 * d := by rw [hRR]; exact ⟨rfl, rfl⟩
  have hX : zm_X p R s m args meth c RX4 "confirmActs" cX4_confirmActs 3 zk_E V 0 0 := hX
  unfold zf_X4_confirmActs at h
  refine zw_sub (lv' := [(0, .ref a0)]) (List.forall_mem_cons.mpr ⟨rfl, zs_nil⟩) ?_
  refine zw_iconst (v := (0 : Int32)) hX dX4_confirmActs_0 (by decide) ?_
  refine zw_istore_n hX dX4_confirmActs_1 (by decide) ?_
  refine zw_iconst (v := (0 : Int32)) hX dX4_confirmActs_2 (by decide) ?_
  refine zw_istore_n hX dX4_confirmActs_3 (by decide) ?_
  obtain ⟨r, g, h⟩ := zb_some h
  refine zw_sub (lv' := [(0, .ref a0), (1, .int (0 : Int32)), (2, .int (0 : Int32))]) (List.forall_mem_cons.mpr ⟨rfl, (List.forall_mem_cons.mpr ⟨rfl, (List.forall_mem_cons.mpr ⟨rfl, zs_nil⟩)⟩)⟩) ?_
  refine zt_X4_confirmActs_L4 hX hr hR hd (res := r) (out := out) a0 ?_ ?_ N _ _ _ g
  · intro o ho
    subst ho
    exact Option.some.inj h
  · intro v10 S9 hx
    subst hx
    try dsimp only at h
    refine zw_iload_n hX dX4_confirmActs_48 rfl ?_
    obtain rfl := Option.some.inj h
    exact zw_iret hX hr dX4_confirmActs_49 rfl ⟨rfl, rfl⟩
set_option maxHeartbeats 4000000 in
set_option maxRecDepth 100000 in
theorem zt_X4_resetLatched_L9 {p : Program} {l : Launch} {e : Env} {R : Room} {s : State} {m : MethodId} {args : Array Value} {below : List Frame} {meth : Method} {c : Code} {V : zm_V} {mc ms d rc rs : Nat} (hX : zm_X p R s m args meth c RX4 "resetLatched" cX4_resetLatched 5 zk_E V mc ms) (hr : meth.sig.returnType = (some .int)) (hR : R.frames = d ∧ R.locals = 64 * d) (hd : 5 ≤ d) {N : Nat} {res : (Int32 × zm_S) ⊕ ((Int32) × zm_S)} {out : (Int32 × zm_S)} (a0 : Nat) (i1 : Int32) (hf : ∀ o, res = .inl o → o = out) (hk : ∀ (x2 : Int32) (S' : zm_S), res = .inr (x2, S') → zw p l e R s m args below meth c (vx_MQ below (zm_Qc zk_E V (zo_i out)) (zm_XC zk_E V zo_x) args s mc ms (fun q => V.2.2.2.1 ≤ q)) 5 zk_E V mc ms 75 [(2, .int x2)] [] S' rc rs) : ∀ (n : Nat) (i2 : Int32) (i3 : Int32) (S : zm_S), zf_X4_resetLatched_L9 N n a0 i1 i2 i3 S = some res → zw p l e R s m args below meth c (vx_MQ below (zm_Qc zk_E V (zo_i out)) (zm_XC zk_E V zo_x) args s mc ms (fun q => V.2.2.2.1 ≤ q)) 5 zk_E V mc ms 9 [(0, .ref a0), (1, .int i1), (2, .int i2), (3, .int i3)] [] S rc rs := by
  intro n
  induction n with
  | zero => intro i2 i3 S h; cases h
  | succ n ih =>
    intro i2 i3 S h
    rw [zf_X4_resetLatched_L9] at h
    refine zw_iload_n hX dX4_resetLatched_9 rfl ?_
    refine zw_aload_n hX dX4_resetLatched_10 rfl ?_
    obtain ⟨b3, g, h⟩ := zb_some h
    refine zw_getr hX zl_X4_35 dX4_resetLatched_11 g ?_
    obtain ⟨v4, g, h⟩ := zb_some h
    refine zw_len hX dX4_resetLatched_14 g ?_
    refine zw_icmp_ge (tgt := 75) hX dX4_resetLatched_15 (by decide) (fun c15 => ?_) (fun c15 => ?_)
    · rw [if_pos c15] at h
      refine zw_sub (lv' := [(2, .int i2)]) (List.forall_mem_cons.mpr ⟨rfl, zs_nil⟩) ?_
      exact hk _ _ (Option.some.inj h).symm
    · rw [if_neg c15] at h
      refine zw_aload_n hX dX4_resetLatched_18 rfl ?_
      obtain ⟨b5, g, h⟩ := zb_some h
      refine zw_getr hX zl_X4_35 dX4_resetLatched_19 g ?_
      refine zw_iload_n hX dX4_resetLatched_22 rfl ?_
      obtain ⟨v6, g, h⟩ := zb_some h
      refine zw_xi hX dX4_resetLatched_23 g ?_
      refine zw_istore hX dX4_resetLatched_24 (by decide) ?_
      refine zw_aload_n hX dX4_resetLatched_26 rfl ?_
      obtain ⟨b7, g, h⟩ := zb_some h
      refine zw_getr hX zl_X4_38 dX4_resetLatched_27 g ?_
      refine zw_iload hX dX4_resetLatched_30 rfl ?_
      obtain ⟨v8, g, h⟩ := zb_some h
      refine zw_xi hX dX4_resetLatched_32 g ?_
      refine zw_iconst (v := (2 : Int32)) hX dX4_resetLatched_33 (by decide) ?_
      refine zw_icmp_ne (tgt := 69) hX dX4_resetLatched_34 (by decide) (fun c34 => ?_) (fun c34 => ?_)
      · rw [if_neg c34] at h
        refine zw_iinc (v := (i3 + (1 : Int32))) hX dX4_resetLatched_69 rfl rfl (by decide) ?_
        refine zw_goto (tgt := 9) hX dX4_resetLatched_72 (by decide) ?_
        refine zw_sub (lv' := [(0, .ref a0), (1, .int i1), (2, .int i2), (3, .int (i3 + (1 : Int32)))]) (List.forall_mem_cons.mpr ⟨rfl, (List.forall_mem_cons.mpr ⟨rfl, (List.forall_mem_cons.mpr ⟨rfl, (List.forall_mem_cons.mpr ⟨rfl, zs_nil⟩)⟩)⟩)⟩) ?_
        exact ih _ _ _ h
      · rw [if_pos c34] at h
        refine zw_aload_n hX dX4_resetLatched_37 rfl ?_
        obtain ⟨b9, g, h⟩ := zb_some h
        refine zw_getr hX zl_X4_29 dX4_resetLatched_38 g ?_
        refine zw_iload hX dX4_resetLatched_41 rfl ?_
        obtain ⟨b10, g, h⟩ := zb_some h
        refine zw_xr hX dX4_resetLatched_43 g ?_
        refine zw_iconst (v := (4 : Int32)) hX dX4_resetLatched_44 (by decide) ?_
        obtain ⟨v11, g, h⟩ := zb_some h
        refine zw_xi hX dX4_resetLatched_45 g ?_
        refine zw_if_eq (tgt := 69) hX dX4_resetLatched_46 (by decide) (fun c46 => ?_) (fun c46 => ?_)
        · rw [if_pos c46] at h
          refine zw_iinc (v := (i3 + (1 : Int32))) hX dX4_resetLatched_69 rfl rfl (by decide) ?_
          refine zw_goto (tgt := 9) hX dX4_resetLatched_72 (by decide) ?_
          refine zw_sub (lv' := [(0, .ref a0), (1, .int i1), (2, .int i2), (3, .int (i3 + (1 : Int32)))]) (List.forall_mem_cons.mpr ⟨rfl, (List.forall_mem_cons.mpr ⟨rfl, (List.forall_mem_cons.mpr ⟨rfl, (List.forall_mem_cons.mpr ⟨rfl, zs_nil⟩)⟩)⟩)⟩) ?_
          exact ih _ _ _ h
        · rw [if_neg c46] at h
          refine zw_aload_n hX dX4_resetLatched_49 rfl ?_
          refine zw_iload hX dX4_resetLatched_50 rfl ?_
          obtain ⟨_, gi, h⟩ := zb_some h
          obtain ⟨r13, g, h⟩ := zb_some h
          refine zc_Vi (as := [.int v6]) hX gi (zt_X4_isCalled (d := d - 1) (by omega) g) zl_X4_130 rfl dX4_resetLatched_52 ⟨rfl, rfl, Nat.le_of_ble_eq_true rfl⟩ ⟨by omega, by omega⟩ ?_
          refine zw_if_ne (tgt := 69) hX dX4_resetLatched_55 (by decide) (fun c55 => ?_) (fun c55 => ?_)
          · rw [if_neg c55] at h
            refine zw_iinc (v := (i3 + (1 : Int32))) hX dX4_resetLatched_69 rfl rfl (by decide) ?_
            refine zw_goto (tgt := 9) hX dX4_resetLatched_72 (by decide) ?_
            refine zw_sub (lv' := [(0, .ref a0), (1, .int i1), (2, .int i2), (3, .int (i3 + (1 : Int32)))]) (List.forall_mem_cons.mpr ⟨rfl, (List.forall_mem_cons.mpr ⟨rfl, (List.forall_mem_cons.mpr ⟨rfl, (List.forall_mem_cons.mpr ⟨rfl, zs_nil⟩)⟩)⟩)⟩) ?_
            exact ih _ _ _ h
          · rw [if_pos c55] at h
            refine zw_aload_n hX dX4_resetLatched_58 rfl ?_
            refine zw_iload hX dX4_resetLatched_59 rfl ?_
            refine zw_iconst (v := (0 : Int32)) hX dX4_resetLatched_61 (by decide) ?_
            refine zw_iload_n hX dX4_resetLatched_62 rfl ?_
            obtain ⟨_, gi, h⟩ := zb_some h
            obtain ⟨r15, g, h⟩ := zb_some h
            refine zc_Vv (as := [.int v6, .int (0 : Int32), .int i1]) hX gi (zt_X4_setDone (d := d - 1) (by omega) g) zl_X4_133 rfl dX4_resetLatched_63 ⟨rfl, rfl, Nat.le_of_ble_eq_true rfl⟩ ⟨by omega, by omega⟩ ?_
            refine zw_iinc (v := (i2 + (1 : Int32))) hX dX4_resetLatched_66 rfl rfl (by decide) ?_
            refine zw_iinc (v := (i3 + (1 : Int32))) hX dX4_resetLatched_69 rfl rfl (by decide) ?_
            refine zw_goto (tgt := 9) hX dX4_resetLatched_72 (by decide) ?_
            refine zw_sub (lv' := [(0, .ref a0), (1, .int i1), (2, .int (i2 + (1 : Int32))), (3, .int (i3 + (1 : Int32)))]) (List.forall_mem_cons.mpr ⟨rfl, (List.forall_mem_cons.mpr ⟨rfl, (List.forall_mem_cons.mpr ⟨rfl, (List.forall_mem_cons.mpr ⟨rfl, zs_nil⟩)⟩)⟩)⟩) ?_
            exact ih _ _ _ h
set_option maxHeartbeats 4000000 in
set_option maxRecDepth 100000 in
theorem zt_X4_resetLatched {l : Launch} {V : zm_V} {N : Nat} {S : zm_S} {out : (Int32 × zm_S)} {d : Nat} {a0 : Nat} {i1 : Int32} (hd : 5 ≤ d) (h : zf_X4_resetLatched N a0 i1 S = some out) : zm_Met l zk_E V yX4_resetLatched (.code yX4_resetLatched cX4_resetLatched 5 (some .int)) d [.ref a0, .int i1] S 0 0 (zo_i out) zo_x := by
  refine zm_of (by decide +kernel) (Nat.le_of_ble_eq_true rfl) ?_
  intro p e R s m args below meth c hRR hX hr hxt
  have hR : R.frames = d ∧ R.locals = 64 * d := by rw [hRR]; exact ⟨rfl, rfl⟩
  have hX : zm_X p R s m args meth c RX4 "resetLatched" cX4_resetLatched 5 zk_E V 0 0 := hX
  unfold zf_X4_resetLatched at h
  refine zw_sub (lv' := [(0, .ref a0), (1, .int i1)]) (List.forall_mem_cons.mpr ⟨rfl, (List.forall_mem_cons.mpr ⟨rfl, zs_nil⟩)⟩) ?_
  refine zw_iconst (v := (0 : Int32)) hX dX4_resetLatched_0 (by decide) ?_
  refine zw_istore_n hX dX4_resetLatched_1 (by decide) ?_
  refine zw_aload_n hX dX4_resetLatched_2 rfl ?_
  refine zw_iload_n hX dX4_resetLatched_3 rfl ?_
  obtain ⟨_, gi, h⟩ := zb_some h
  obtain ⟨r2, g, h⟩ := zb_some h
  refine zc_Vv (as := [.int i1]) hX gi (zt_X4_lookAtZones (d := d - 1) (by omega) g) zl_X4_119 rfl dX4_resetLatched_4 ⟨rfl, rfl, Nat.le_of_ble_eq_true rfl⟩ ⟨by omega, by omega⟩ ?_
  refine zw_iconst (v := (0 : Int32)) hX dX4_resetLatched_7 (by decide) ?_
  refine zw_istore_n hX dX4_resetLatched_8 (by decide) ?_
  obtain ⟨r, g, h⟩ := zb_some h
  refine zw_sub (lv' := [(0, .ref a0), (1, .int i1), (2, .int (0 : Int32)), (3, .int (0 : Int32))]) (List.forall_mem_cons.mpr ⟨rfl, (List.forall_mem_cons.mpr ⟨rfl, (List.forall_mem_cons.mpr ⟨rfl, (List.forall_mem_cons.mpr ⟨rfl, zs_nil⟩)⟩)⟩)⟩) ?_
  refine zt_X4_resetLatched_L9 hX hr hR hd (res := r) (out := out) a0 i1 ?_ ?_ N _ _ _ g
  · intro o ho
    subst ho
    exact Option.some.inj h
  · intro v17 S16 hx
    subst hx
    try dsimp only at h
    refine zw_iload_n hX dX4_resetLatched_75 rfl ?_
    obtain rfl := Option.some.inj h
    exact zw_iret hX hr dX4_resetLatched_76 rfl ⟨rfl, rfl⟩
set_option maxHeartbeats 4000000 in
set_option maxRecDepth 100000 in
theorem zt_X4_isKindDone_L2 {p : Program} {l : Launch} {e : Env} {R : Room} {s : State} {m : MethodId} {args : Array Value} {below : List Frame} {meth : Method} {c : Code} {V : zm_V} {mc ms d rc rs : Nat} (hX : zm_X p R s m args meth c RX4 "isKindDone" cX4_isKindDone 3 zk_E V mc ms) (hr : meth.sig.returnType = (some .boolean)) (hR : R.frames = d ∧ R.locals = 64 * d) (hd : 1 ≤ d) {N : Nat} {res : (Int32 × zm_S) ⊕ ((Unit) × zm_S)} {out : (Int32 × zm_S)} (a0 : Nat) (i1 : Int32) (hf : ∀ o, res = .inl o → o = out) (hk : ∀ (S' : zm_S), res = .inr ((), S') → zw p l e R s m args below meth c (vx_MQ below (zm_Qc zk_E V (zo_i out)) (zm_XC zk_E V zo_x) args s mc ms (fun q => V.2.2.2.1 ≤ q)) 3 zk_E V mc ms 41 [] [] S' rc rs) : ∀ (n : Nat) (i2 : Int32) (S : zm_S), zf_X4_isKindDone_L2 N n a0 i1 i2 S = some res → zw p l e R s m args below meth c (vx_MQ below (zm_Qc zk_E V (zo_i out)) (zm_XC zk_E V zo_x) args s mc ms (fun q => V.2.2.2.1 ≤ q)) 3 zk_E V mc ms 2 [(0, .ref a0), (1, .int i1), (2, .int i2)] [] S rc rs := by
  intro n
  induction n with
  | zero => intro i2 S h; cases h
  | succ n ih =>
    intro i2 S h
    rw [zf_X4_isKindDone_L2] at h
    refine zw_iload_n hX dX4_isKindDone_2 rfl ?_
    refine zw_aload_n hX dX4_isKindDone_3 rfl ?_
    obtain ⟨b1, g, h⟩ := zb_some h
    refine zw_getr hX zl_X4_38 dX4_isKindDone_4 g ?_
    obtain ⟨v2, g, h⟩ := zb_some h
    refine zw_len hX dX4_isKindDone_7 g ?_
    refine zw_icmp_ge (tgt := 41) hX dX4_isKindDone_8 (by decide) (fun c8 => ?_) (fun c8 => ?_)
    · rw [if_pos c8] at h
      refine zw_sub (lv' := []) zs_nil ?_
      exact hk  _ (Option.some.inj h).symm
    · rw [if_neg c8] at h
      refine zw_aload_n hX dX4_isKindDone_11 rfl ?_
      obtain ⟨b3, g, h⟩ := zb_some h
      refine zw_getr hX zl_X4_38 dX4_isKindDone_12 g ?_
      refine zw_iload_n hX dX4_isKindDone_15 rfl ?_
      obtain ⟨v4, g, h⟩ := zb_some h
      refine zw_xi hX dX4_isKindDone_16 g ?_
      refine zw_iconst (v := (2 : Int32)) hX dX4_isKindDone_17 (by decide) ?_
      refine zw_icmp_ne (tgt := 35) hX dX4_isKindDone_18 (by decide) (fun c18 => ?_) (fun c18 => ?_)
      · rw [if_neg c18] at h
        refine zw_iinc (v := (i2 + (1 : Int32))) hX dX4_isKindDone_35 rfl rfl (by decide) ?_
        refine zw_goto (tgt := 2) hX dX4_isKindDone_38 (by decide) ?_
        refine zw_sub (lv' := [(0, .ref a0), (1, .int i1), (2, .int (i2 + (1 : Int32)))]) (List.forall_mem_cons.mpr ⟨rfl, (List.forall_mem_cons.mpr ⟨rfl, (List.forall_mem_cons.mpr ⟨rfl, zs_nil⟩)⟩)⟩) ?_
        exact ih _ _ h
      · rw [if_pos c18] at h
        refine zw_aload_n hX dX4_isKindDone_21 rfl ?_
        obtain ⟨b5, g, h⟩ := zb_some h
        refine zw_getr hX zl_X4_29 dX4_isKindDone_22 g ?_
        refine zw_iload_n hX dX4_isKindDone_25 rfl ?_
        obtain ⟨b6, g, h⟩ := zb_some h
        refine zw_xr hX dX4_isKindDone_26 g ?_
        refine zw_iconst (v := (1 : Int32)) hX dX4_isKindDone_27 (by decide) ?_
        obtain ⟨v7, g, h⟩ := zb_some h
        refine zw_xi hX dX4_isKindDone_28 g ?_
        refine zw_iload_n hX dX4_isKindDone_29 rfl ?_
        refine zw_icmp_ne (tgt := 35) hX dX4_isKindDone_30 (by decide) (fun c30 => ?_) (fun c30 => ?_)
        · rw [if_neg c30] at h
          refine zw_iinc (v := (i2 + (1 : Int32))) hX dX4_isKindDone_35 rfl rfl (by decide) ?_
          refine zw_goto (tgt := 2) hX dX4_isKindDone_38 (by decide) ?_
          refine zw_sub (lv' := [(0, .ref a0), (1, .int i1), (2, .int (i2 + (1 : Int32)))]) (List.forall_mem_cons.mpr ⟨rfl, (List.forall_mem_cons.mpr ⟨rfl, (List.forall_mem_cons.mpr ⟨rfl, zs_nil⟩)⟩)⟩) ?_
          exact ih _ _ h
        · rw [if_pos c30] at h
          refine zw_iconst (v := (1 : Int32)) hX dX4_isKindDone_33 (by decide) ?_
          have hz := hf _ (Option.some.inj h).symm
          subst hz
          exact zw_iret hX hr dX4_isKindDone_34 rfl ⟨rfl, rfl⟩
set_option maxHeartbeats 4000000 in
set_option maxRecDepth 100000 in
theorem zt_X4_isKindDone {l : Launch} {V : zm_V} {N : Nat} {S : zm_S} {out : (Int32 × zm_S)} {d : Nat} {a0 : Nat} {i1 : Int32} (hd : 1 ≤ d) (h : zf_X4_isKindDone N a0 i1 S = some out) : zm_Met l zk_E V yX4_isKindDone (.code yX4_isKindDone cX4_isKindDone 3 (some .boolean)) d [.ref a0, .int i1] S 0 0 (zo_i out) zo_x := by
  refine zm_of (by decide +kernel) (Nat.le_of_ble_eq_true rfl) ?_
  intro p e R s m args below meth c hRR hX hr hxt
  have hR : R.frames = d ∧ R.locals = 64 * d := by rw [hRR]; exact ⟨rfl, rfl⟩
  have hX : zm_X p R s m args meth c RX4 "isKindDone" cX4_isKindDone 3 zk_E V 0 0 := hX
  unfold zf_X4_isKindDone at h
  refine zw_sub (lv' := [(0, .ref a0), (1, .int i1)]) (List.forall_mem_cons.mpr ⟨rfl, (List.forall_mem_cons.mpr ⟨rfl, zs_nil⟩)⟩) ?_
  refine zw_iconst (v := (0 : Int32)) hX dX4_isKindDone_0 (by decide) ?_
  refine zw_istore_n hX dX4_isKindDone_1 (by decide) ?_
  obtain ⟨r, g, h⟩ := zb_some h
  refine zw_sub (lv' := [(0, .ref a0), (1, .int i1), (2, .int (0 : Int32))]) (List.forall_mem_cons.mpr ⟨rfl, (List.forall_mem_cons.mpr ⟨rfl, (List.forall_mem_cons.mpr ⟨rfl, zs_nil⟩)⟩)⟩) ?_
  refine zt_X4_isKindDone_L2 hX hr hR hd (res := r) (out := out) a0 i1 ?_ ?_ N _ _ g
  · intro o ho
    subst ho
    exact Option.some.inj h
  · intro  S8 hx
    subst hx
    try dsimp only at h
    refine zw_iconst (v := (0 : Int32)) hX dX4_isKindDone_41 (by decide) ?_
    obtain rfl := Option.some.inj h
    exact zw_iret hX hr dX4_isKindDone_42 rfl ⟨rfl, rfl⟩
set_option maxHeartbeats 4000000 in
set_option maxRecDepth 100000 in
theorem zt_X4_countDone_J29 {p : Program} {l : Launch} {e : Env} {R : Room} {s : State} {m : MethodId} {args : Array Value} {below : List Frame} {meth : Method} {c : Code} {V : zm_V} {mc ms d rc rs : Nat} (hX : zm_X p R s m args meth c RX4 "countDone" cX4_countDone 3 zk_E V mc ms) (hr : meth.sig.returnType = (some .int)) (hR : R.frames = d ∧ R.locals = 64 * d) (hd : 1 ≤ d) {N : Nat} {k : Nat → Int32 → Int32 → zm_S → Option ((Int32 × zm_S) ⊕ ((Int32) × zm_S))} {a0 : Nat} {i2 : Int32} {t0 : Int32} {t1 : Int32} {res : (Int32 × zm_S) ⊕ ((Int32) × zm_S)} {out : (Int32 × zm_S)}   (hf : ∀ o, res = .inl o → o = out) (hk : ∀ (x1 : Int32) (S' : zm_S), res = .inr (x1, S') → zw p l e R s m args below meth c (vx_MQ below (zm_Qc zk_E V (zo_i out)) (zm_XC zk_E V zo_x) args s mc ms (fun q => V.2.2.2.1 ≤ q)) 3 zk_E V mc ms 37 [(1, .int x1)] [] S' rc rs) (hrec : ∀ (i1' : Int32) (i2' : Int32) (S : zm_S), k a0 i1' i2' S = some res → zw p l e R s m args below meth c (vx_MQ below (zm_Qc zk_E V (zo_i out)) (zm_XC zk_E V zo_x) args s mc ms (fun q => V.2.2.2.1 ≤ q)) 3 zk_E V mc ms 4 [(0, .ref a0), (1, .int i1'), (2, .int i2')] [] S rc rs) {S : zm_S} (h : zf_X4_countDone_J29 N k a0 i2 t0 t1 S = some res) : zw p l e R s m args below meth c (vx_MQ below (zm_Qc zk_E V (zo_i out)) (zm_XC zk_E V zo_x) args s mc ms (fun q => V.2.2.2.1 ≤ q)) 3 zk_E V mc ms 29 [(0, .ref a0), (2, .int i2)] [.int t1, .int t0] S rc rs := by
  unfold zf_X4_countDone_J29 at h
  refine zw_iadd hX dX4_countDone_29 ?_
  refine zw_istore_n hX dX4_countDone_30 (by decide) ?_
  refine zw_iinc (v := (i2 + (1 : Int32))) hX dX4_countDone_31 rfl rfl (by decide) ?_
  refine zw_goto (tgt := 4) hX dX4_countDone_34 (by decide) ?_
  refine zw_sub (lv' := [(0, .ref a0), (1, .int (t0 + t1)), (2, .int (i2 + (1 : Int32)))]) (List.forall_mem_cons.mpr ⟨rfl, (List.forall_mem_cons.mpr ⟨rfl, (List.forall_mem_cons.mpr ⟨rfl, zs_nil⟩)⟩)⟩) ?_
  exact hrec _ _ _ h
set_option maxHeartbeats 4000000 in
set_option maxRecDepth 100000 in
theorem zt_X4_countDone_L4 {p : Program} {l : Launch} {e : Env} {R : Room} {s : State} {m : MethodId} {args : Array Value} {below : List Frame} {meth : Method} {c : Code} {V : zm_V} {mc ms d rc rs : Nat} (hX : zm_X p R s m args meth c RX4 "countDone" cX4_countDone 3 zk_E V mc ms) (hr : meth.sig.returnType = (some .int)) (hR : R.frames = d ∧ R.locals = 64 * d) (hd : 1 ≤ d) {N : Nat} {res : (Int32 × zm_S) ⊕ ((Int32) × zm_S)} {out : (Int32 × zm_S)} (a0 : Nat) (hf : ∀ o, res = .inl o → o = out) (hk : ∀ (x1 : Int32) (S' : zm_S), res = .inr (x1, S') → zw p l e R s m args below meth c (vx_MQ below (zm_Qc zk_E V (zo_i out)) (zm_XC zk_E V zo_x) args s mc ms (fun q => V.2.2.2.1 ≤ q)) 3 zk_E V mc ms 37 [(1, .int x1)] [] S' rc rs) : ∀ (n : Nat) (i1 : Int32) (i2 : Int32) (S : zm_S), zf_X4_countDone_L4 N n a0 i1 i2 S = some res → zw p l e R s m args below meth c (vx_MQ below (zm_Qc zk_E V (zo_i out)) (zm_XC zk_E V zo_x) args s mc ms (fun q => V.2.2.2.1 ≤ q)) 3 zk_E V mc ms 4 [(0, .ref a0), (1, .int i1), (2, .int i2)] [] S rc rs := by
  intro n
  induction n with
  | zero => intro i1 i2 S h; cases h
  | succ n ih =>
    intro i1 i2 S h
    rw [zf_X4_countDone_L4] at h
    refine zw_iload_n hX dX4_countDone_4 rfl ?_
    refine zw_aload_n hX dX4_countDone_5 rfl ?_
    obtain ⟨b1, g, h⟩ := zb_some h
    refine zw_getr hX zl_X4_38 dX4_countDone_6 g ?_
    obtain ⟨v2, g, h⟩ := zb_some h
    refine zw_len hX dX4_countDone_9 g ?_
    refine zw_icmp_ge (tgt := 37) hX dX4_countDone_10 (by decide) (fun c10 => ?_) (fun c10 => ?_)
    · rw [if_pos c10] at h
      refine zw_sub (lv' := [(1, .int i1)]) (List.forall_mem_cons.mpr ⟨rfl, zs_nil⟩) ?_
      exact hk _ _ (Option.some.inj h).symm
    · rw [if_neg c10] at h
      refine zw_iload_n hX dX4_countDone_13 rfl ?_
      refine zw_aload_n hX dX4_countDone_14 rfl ?_
      obtain ⟨b3, g, h⟩ := zb_some h
      refine zw_getr hX zl_X4_38 dX4_countDone_15 g ?_
      refine zw_iload_n hX dX4_countDone_18 rfl ?_
      obtain ⟨v4, g, h⟩ := zb_some h
      refine zw_xi hX dX4_countDone_19 g ?_
      refine zw_iconst (v := (2 : Int32)) hX dX4_countDone_20 (by decide) ?_
      refine zw_icmp_ne (tgt := 28) hX dX4_countDone_21 (by decide) (fun c21 => ?_) (fun c21 => ?_)
      · rw [if_neg c21] at h
        refine zw_iconst (v := (0 : Int32)) hX dX4_countDone_28 (by decide) ?_
        refine zw_sub (lv' := [(0, .ref a0), (2, .int i2)]) (List.forall_mem_cons.mpr ⟨rfl, (List.forall_mem_cons.mpr ⟨rfl, zs_nil⟩)⟩) ?_
        exact zt_X4_countDone_J29 hX hr hR hd hf hk ih h
      · rw [if_pos c21] at h
        refine zw_iconst (v := (1 : Int32)) hX dX4_countDone_24 (by decide) ?_
        refine zw_goto (tgt := 29) hX dX4_countDone_25 (by decide) ?_
        refine zw_sub (lv' := [(0, .ref a0), (2, .int i2)]) (List.forall_mem_cons.mpr ⟨rfl, (List.forall_mem_cons.mpr ⟨rfl, zs_nil⟩)⟩) ?_
        exact zt_X4_countDone_J29 hX hr hR hd hf hk ih h
set_option maxHeartbeats 4000000 in
set_option maxRecDepth 100000 in
theorem zt_X4_countDone {l : Launch} {V : zm_V} {N : Nat} {S : zm_S} {out : (Int32 × zm_S)} {d : Nat} {a0 : Nat} (hd : 1 ≤ d) (h : zf_X4_countDone N a0 S = some out) : zm_Met l zk_E V yX4_countDone (.code yX4_countDone cX4_countDone 3 (some .int)) d [.ref a0] S 0 0 (zo_i out) zo_x := by
  refine zm_of (by decide +kernel) (Nat.le_of_ble_eq_true rfl) ?_
  intro p e R s m args below meth c hRR hX hr hxt
  have hR : R.frames = d ∧ R.locals = 64 * d := by rw [hRR]; exact ⟨rfl, rfl⟩
  have hX : zm_X p R s m args meth c RX4 "countDone" cX4_countDone 3 zk_E V 0 0 := hX
  unfold zf_X4_countDone at h
  refine zw_sub (lv' := [(0, .ref a0)]) (List.forall_mem_cons.mpr ⟨rfl, zs_nil⟩) ?_
  refine zw_iconst (v := (0 : Int32)) hX dX4_countDone_0 (by decide) ?_
  refine zw_istore_n hX dX4_countDone_1 (by decide) ?_
  refine zw_iconst (v := (0 : Int32)) hX dX4_countDone_2 (by decide) ?_
  refine zw_istore_n hX dX4_countDone_3 (by decide) ?_
  obtain ⟨r, g, h⟩ := zb_some h
  refine zw_sub (lv' := [(0, .ref a0), (1, .int (0 : Int32)), (2, .int (0 : Int32))]) (List.forall_mem_cons.mpr ⟨rfl, (List.forall_mem_cons.mpr ⟨rfl, (List.forall_mem_cons.mpr ⟨rfl, zs_nil⟩)⟩)⟩) ?_
  refine zt_X4_countDone_L4 hX hr hR hd (res := r) (out := out) a0 ?_ ?_ N _ _ _ g
  · intro o ho
    subst ho
    exact Option.some.inj h
  · intro v6 S5 hx
    subst hx
    try dsimp only at h
    refine zw_iload_n hX dX4_countDone_37 rfl ?_
    obtain rfl := Option.some.inj h
    exact zw_iret hX hr dX4_countDone_38 rfl ⟨rfl, rfl⟩
set_option maxHeartbeats 4000000 in
set_option maxRecDepth 100000 in
theorem zt_X4_actFact {l : Launch} {V : zm_V} {N : Nat} {S : zm_S} {out : (Int32 × zm_S)} {d : Nat} {a0 : Nat} {i1 : Int32} {i2 : Int32} (hd : 1 ≤ d) (h : zf_X4_actFact N a0 i1 i2 S = some out) : zm_Met l zk_E V yX4_actFact (.code yX4_actFact cX4_actFact 3 (some .int)) d [.ref a0, .int i1, .int i2] S 0 0 (zo_i out) zo_x := by
  refine zm_of (by decide +kernel) (Nat.le_of_ble_eq_true rfl) ?_
  intro p e R s m args below meth c hRR hX hr hxt
  have hR : R.frames = d ∧ R.locals = 64 * d := by rw [hRR]; exact ⟨rfl, rfl⟩
  have hX : zm_X p R s m args meth c RX4 "actFact" cX4_actFact 3 zk_E V 0 0 := hX
  unfold zf_X4_actFact at h
  refine zw_sub (lv' := [(0, .ref a0), (1, .int i1), (2, .int i2)]) (List.forall_mem_cons.mpr ⟨rfl, (List.forall_mem_cons.mpr ⟨rfl, (List.forall_mem_cons.mpr ⟨rfl, zs_nil⟩)⟩)⟩) ?_
  refine zw_iload_n hX dX4_actFact_0 rfl ?_
  by_cases c1_0 : (i2).toInt = 0
  · rw [if_pos c1_0] at h
    refine zw_tableIn (off := 35) (tgt := 36) hX dX4_actFact_1 (by rw [c1_0]; decide) (by rw [c1_0]; decide) (by rw [c1_0]; decide) (by decide) ?_
    refine zw_aload_n hX dX4_actFact_36 rfl ?_
    obtain ⟨b4, g, h⟩ := zb_some h
    refine zw_getr hX zl_X4_38 dX4_actFact_37 g ?_
    refine zw_iload_n hX dX4_actFact_40 rfl ?_
    obtain ⟨v5, g, h⟩ := zb_some h
    refine zw_xi hX dX4_actFact_41 g ?_
    obtain rfl := Option.some.inj h
    exact zw_iret hX hr dX4_actFact_42 rfl ⟨rfl, rfl⟩
  rw [if_neg c1_0] at h
  by_cases c1_1 : (i2).toInt = 1
  · rw [if_pos c1_1] at h
    refine zw_tableIn (off := 42) (tgt := 43) hX dX4_actFact_1 (by rw [c1_1]; decide) (by rw [c1_1]; decide) (by rw [c1_1]; decide) (by decide) ?_
    refine zw_aload_n hX dX4_actFact_43 rfl ?_
    obtain ⟨b6, g, h⟩ := zb_some h
    refine zw_getr hX zl_X4_38 dX4_actFact_44 g ?_
    refine zw_iload_n hX dX4_actFact_47 rfl ?_
    obtain ⟨v7, g, h⟩ := zb_some h
    refine zw_xi hX dX4_actFact_48 g ?_
    refine zw_iconst (v := (1 : Int32)) hX dX4_actFact_49 (by decide) ?_
    refine zw_icmp_ne (tgt := 62) hX dX4_actFact_50 (by decide) (fun c50 => ?_) (fun c50 => ?_)
    · rw [if_neg c50] at h
      refine zw_iconst (v := (-1 : Int32)) hX dX4_actFact_62 (by decide) ?_
      obtain rfl := Option.some.inj h
      exact zw_iret hX hr dX4_actFact_63 rfl ⟨rfl, rfl⟩
    · rw [if_pos c50] at h
      refine zw_aload_n hX dX4_actFact_53 rfl ?_
      obtain ⟨b8, g, h⟩ := zb_some h
      refine zw_getr hX zl_X4_41 dX4_actFact_54 g ?_
      refine zw_iload_n hX dX4_actFact_57 rfl ?_
      obtain ⟨v9, g, h⟩ := zb_some h
      refine zw_xi hX dX4_actFact_58 g ?_
      refine zw_goto (tgt := 63) hX dX4_actFact_59 (by decide) ?_
      obtain rfl := Option.some.inj h
      exact zw_iret hX hr dX4_actFact_63 rfl ⟨rfl, rfl⟩
  rw [if_neg c1_1] at h
  by_cases c1_2 : (i2).toInt = 2
  · rw [if_pos c1_2] at h
    refine zw_tableIn (off := 63) (tgt := 64) hX dX4_actFact_1 (by rw [c1_2]; decide) (by rw [c1_2]; decide) (by rw [c1_2]; decide) (by decide) ?_
    refine zw_aload_n hX dX4_actFact_64 rfl ?_
    obtain ⟨b10, g, h⟩ := zb_some h
    refine zw_getr hX zl_X4_29 dX4_actFact_65 g ?_
    refine zw_iload_n hX dX4_actFact_68 rfl ?_
    obtain ⟨b11, g, h⟩ := zb_some h
    refine zw_xr hX dX4_actFact_69 g ?_
    refine zw_iconst (v := (1 : Int32)) hX dX4_actFact_70 (by decide) ?_
    obtain ⟨v12, g, h⟩ := zb_some h
    refine zw_xi hX dX4_actFact_71 g ?_
    obtain rfl := Option.some.inj h
    exact zw_iret hX hr dX4_actFact_72 rfl ⟨rfl, rfl⟩
  rw [if_neg c1_2] at h
  by_cases c1_3 : (i2).toInt = 3
  · rw [if_pos c1_3] at h
    refine zw_tableIn (off := 72) (tgt := 73) hX dX4_actFact_1 (by rw [c1_3]; decide) (by rw [c1_3]; decide) (by rw [c1_3]; decide) (by decide) ?_
    refine zw_aload_n hX dX4_actFact_73 rfl ?_
    obtain ⟨b13, g, h⟩ := zb_some h
    refine zw_getr hX zl_X4_29 dX4_actFact_74 g ?_
    refine zw_iload_n hX dX4_actFact_77 rfl ?_
    obtain ⟨b14, g, h⟩ := zb_some h
    refine zw_xr hX dX4_actFact_78 g ?_
    refine zw_iconst (v := (2 : Int32)) hX dX4_actFact_79 (by decide) ?_
    obtain ⟨v15, g, h⟩ := zb_some h
    refine zw_xi hX dX4_actFact_80 g ?_
    obtain rfl := Option.some.inj h
    exact zw_iret hX hr dX4_actFact_81 rfl ⟨rfl, rfl⟩
  rw [if_neg c1_3] at h
  by_cases c1_4 : (i2).toInt = 4
  · rw [if_pos c1_4] at h
    refine zw_tableIn (off := 81) (tgt := 82) hX dX4_actFact_1 (by rw [c1_4]; decide) (by rw [c1_4]; decide) (by rw [c1_4]; decide) (by decide) ?_
    refine zw_aload_n hX dX4_actFact_82 rfl ?_
    obtain ⟨b16, g, h⟩ := zb_some h
    refine zw_getr hX zl_X4_29 dX4_actFact_83 g ?_
    refine zw_iload_n hX dX4_actFact_86 rfl ?_
    obtain ⟨b17, g, h⟩ := zb_some h
    refine zw_xr hX dX4_actFact_87 g ?_
    refine zw_iconst (v := (3 : Int32)) hX dX4_actFact_88 (by decide) ?_
    obtain ⟨v18, g, h⟩ := zb_some h
    refine zw_xi hX dX4_actFact_89 g ?_
    obtain rfl := Option.some.inj h
    exact zw_iret hX hr dX4_actFact_90 rfl ⟨rfl, rfl⟩
  rw [if_neg c1_4] at h
  refine zw_tableOut (tgt := 91) hX dX4_actFact_1 (by omega) (by decide) ?_
  refine zw_aload_n hX dX4_actFact_91 rfl ?_
  obtain ⟨b1, g, h⟩ := zb_some h
  refine zw_getr hX zl_X4_29 dX4_actFact_92 g ?_
  refine zw_iload_n hX dX4_actFact_95 rfl ?_
  obtain ⟨b2, g, h⟩ := zb_some h
  refine zw_xr hX dX4_actFact_96 g ?_
  refine zw_iconst (v := (4 : Int32)) hX dX4_actFact_97 (by decide) ?_
  obtain ⟨v3, g, h⟩ := zb_some h
  refine zw_xi hX dX4_actFact_98 g ?_
  obtain rfl := Option.some.inj h
  exact zw_iret hX hr dX4_actFact_99 rfl ⟨rfl, rfl⟩
set_option maxHeartbeats 4000000 in
set_option maxRecDepth 100000 in
theorem zt_X4_zoneFact {l : Launch} {V : zm_V} {N : Nat} {S : zm_S} {out : (Int32 × zm_S)} {d : Nat} {a0 : Nat} {i1 : Int32} {i2 : Int32} {i3 : Int32} (hd : 4 ≤ d) (h : zf_X4_zoneFact N a0 i1 i2 i3 S = some out) : zm_Met l zk_E V yX4_zoneFact (.code yX4_zoneFact cX4_zoneFact 5 (some .int)) d [.ref a0, .int i1, .int i2, .int i3] S 0 0 (zo_i out) zo_x := by
  refine zm_of (by decide +kernel) (Nat.le_of_ble_eq_true rfl) ?_
  intro p e R s m args below meth c hRR hX hr hxt
  have hR : R.frames = d ∧ R.locals = 64 * d := by rw [hRR]; exact ⟨rfl, rfl⟩
  have hX : zm_X p R s m args meth c RX4 "zoneFact" cX4_zoneFact 5 zk_E V 0 0 := hX
  unfold zf_X4_zoneFact at h
  refine zw_sub (lv' := [(0, .ref a0), (1, .int i1), (2, .int i2), (3, .int i3)]) (List.forall_mem_cons.mpr ⟨rfl, (List.forall_mem_cons.mpr ⟨rfl, (List.forall_mem_cons.mpr ⟨rfl, (List.forall_mem_cons.mpr ⟨rfl, zs_nil⟩)⟩)⟩)⟩) ?_
  refine zw_aload_n hX dX4_zoneFact_0 rfl ?_
  refine zw_iload_n hX dX4_zoneFact_1 rfl ?_
  refine zw_iload_n hX dX4_zoneFact_2 rfl ?_
  obtain ⟨_, gi, h⟩ := zb_some h
  obtain ⟨r2, g, h⟩ := zb_some h
  refine zc_Vi (as := [.int i1, .int i3]) hX gi (zt_X4_countOn (d := d - 1) (by omega) g) zl_X4_103 rfl dX4_zoneFact_3 ⟨rfl, rfl, Nat.le_of_ble_eq_true rfl⟩ ⟨by omega, by omega⟩ ?_
  refine zw_istore hX dX4_zoneFact_6 (by decide) ?_
  refine zw_iload_n hX dX4_zoneFact_8 rfl ?_
  by_cases c9_0 : (i2).toInt = 0
  · rw [if_pos c9_0] at h
    refine zw_tableIn (off := 27) (tgt := 36) hX dX4_zoneFact_9 (by rw [c9_0]; decide) (by rw [c9_0]; decide) (by rw [c9_0]; decide) (by decide) ?_
    refine zw_iload hX dX4_zoneFact_36 rfl ?_
    refine zw_aload_n hX dX4_zoneFact_38 rfl ?_
    obtain ⟨b3, g, h⟩ := zb_some h
    refine zw_getr hX zl_X4_26 dX4_zoneFact_39 g ?_
    refine zw_iload_n hX dX4_zoneFact_42 rfl ?_
    obtain ⟨b4, g, h⟩ := zb_some h
    refine zw_xr hX dX4_zoneFact_43 g ?_
    refine zw_iconst (v := (0 : Int32)) hX dX4_zoneFact_44 (by decide) ?_
    obtain ⟨v5, g, h⟩ := zb_some h
    refine zw_xi hX dX4_zoneFact_45 g ?_
    refine zw_icmp_lt (tgt := 53) hX dX4_zoneFact_46 (by decide) (fun c46 => ?_) (fun c46 => ?_)
    · rw [if_pos c46] at h
      refine zw_iconst (v := (0 : Int32)) hX dX4_zoneFact_53 (by decide) ?_
      obtain rfl := Option.some.inj h
      exact zw_iret hX hr dX4_zoneFact_54 rfl ⟨rfl, rfl⟩
    · rw [if_neg c46] at h
      refine zw_iconst (v := (1 : Int32)) hX dX4_zoneFact_49 (by decide) ?_
      refine zw_goto (tgt := 54) hX dX4_zoneFact_50 (by decide) ?_
      obtain rfl := Option.some.inj h
      exact zw_iret hX hr dX4_zoneFact_54 rfl ⟨rfl, rfl⟩
  rw [if_neg c9_0] at h
  by_cases c9_1 : (i2).toInt = 1
  · rw [if_pos c9_1] at h
    refine zw_tableIn (off := 46) (tgt := 55) hX dX4_zoneFact_9 (by rw [c9_1]; decide) (by rw [c9_1]; decide) (by rw [c9_1]; decide) (by decide) ?_
    refine zw_aload_n hX dX4_zoneFact_55 rfl ?_
    refine zw_iload hX dX4_zoneFact_56 rfl ?_
    refine zw_aload_n hX dX4_zoneFact_58 rfl ?_
    refine zw_iload_n hX dX4_zoneFact_59 rfl ?_
    refine zw_iload_n hX dX4_zoneFact_60 rfl ?_
    obtain ⟨_, gi, h⟩ := zb_some h
    obtain ⟨r7, g, h⟩ := zb_some h
    refine zc_Vi (as := [.int i1, .int i3]) hX gi (zt_X4_countAsked (d := d - 1) (by omega) g) zl_X4_110 rfl dX4_zoneFact_61 ⟨rfl, rfl, Nat.le_of_ble_eq_true rfl⟩ ⟨by omega, by omega⟩ ?_
    obtain ⟨_, gi, h⟩ := zb_some h
    obtain ⟨r9, g, h⟩ := zb_some h
    refine zc_Vi (as := [.int r2.1, .int r7.1]) hX gi (zt_X4_isSure (d := d - 1) (by omega) g) zl_X4_113 rfl dX4_zoneFact_64 ⟨rfl, rfl, Nat.le_of_ble_eq_true rfl⟩ ⟨by omega, by omega⟩ ?_
    refine zw_if_eq (tgt := 74) hX dX4_zoneFact_67 (by decide) (fun c67 => ?_) (fun c67 => ?_)
    · rw [if_pos c67] at h
      refine zw_iconst (v := (0 : Int32)) hX dX4_zoneFact_74 (by decide) ?_
      obtain rfl := Option.some.inj h
      exact zw_iret hX hr dX4_zoneFact_75 rfl ⟨rfl, rfl⟩
    · rw [if_neg c67] at h
      refine zw_iconst (v := (1 : Int32)) hX dX4_zoneFact_70 (by decide) ?_
      refine zw_goto (tgt := 75) hX dX4_zoneFact_71 (by decide) ?_
      obtain rfl := Option.some.inj h
      exact zw_iret hX hr dX4_zoneFact_75 rfl ⟨rfl, rfl⟩
  rw [if_neg c9_1] at h
  by_cases c9_2 : (i2).toInt = 2
  · rw [if_pos c9_2] at h
    refine zw_tableIn (off := 67) (tgt := 76) hX dX4_zoneFact_9 (by rw [c9_2]; decide) (by rw [c9_2]; decide) (by rw [c9_2]; decide) (by decide) ?_
    refine zw_aload_n hX dX4_zoneFact_76 rfl ?_
    obtain ⟨b10, g, h⟩ := zb_some h
    refine zw_getr hX zl_X4_26 dX4_zoneFact_77 g ?_
    refine zw_iload_n hX dX4_zoneFact_80 rfl ?_
    obtain ⟨b11, g, h⟩ := zb_some h
    refine zw_xr hX dX4_zoneFact_81 g ?_
    refine zw_iconst (v := (0 : Int32)) hX dX4_zoneFact_82 (by decide) ?_
    obtain ⟨v12, g, h⟩ := zb_some h
    refine zw_xi hX dX4_zoneFact_83 g ?_
    obtain rfl := Option.some.inj h
    exact zw_iret hX hr dX4_zoneFact_84 rfl ⟨rfl, rfl⟩
  rw [if_neg c9_2] at h
  refine zw_tableOut (tgt := 85) hX dX4_zoneFact_9 (by omega) (by decide) ?_
  refine zw_iload hX dX4_zoneFact_85 rfl ?_
  obtain rfl := Option.some.inj h
  exact zw_iret hX hr dX4_zoneFact_87 rfl ⟨rfl, rfl⟩
set_option maxHeartbeats 4000000 in
set_option maxRecDepth 100000 in
theorem zt_X4_keptEvents {l : Launch} {V : zm_V} {N : Nat} {S : zm_S} {out : (Int32 × zm_S)} {d : Nat} {a0 : Nat} (hd : 2 ≤ d) (h : zf_X4_keptEvents N a0 S = some out) : zm_Met l zk_E V yX4_keptEvents (.code yX4_keptEvents cX4_keptEvents 1 (some .int)) d [.ref a0] S 0 0 (zo_i out) zo_x := by
  refine zm_of (by decide +kernel) (Nat.le_of_ble_eq_true rfl) ?_
  intro p e R s m args below meth c hRR hX hr hxt
  have hR : R.frames = d ∧ R.locals = 64 * d := by rw [hRR]; exact ⟨rfl, rfl⟩
  have hX : zm_X p R s m args meth c RX4 "keptEvents" cX4_keptEvents 1 zk_E V 0 0 := hX
  unfold zf_X4_keptEvents at h
  refine zw_sub (lv' := [(0, .ref a0)]) (List.forall_mem_cons.mpr ⟨rfl, zs_nil⟩) ?_
  refine zw_aload_n hX dX4_keptEvents_0 rfl ?_
  obtain ⟨v1, g, h⟩ := zb_some h
  refine zw_geti hX zl_X4_143 dX4_keptEvents_1 g ?_
  refine zw_bipush (v := (60 : Int32)) hX dX4_keptEvents_4 (by decide) ?_
  refine zw_mmin hX zl_X4_87 dX4_keptEvents_6 (Nat.le_of_ble_eq_true rfl) ⟨by omega, by omega⟩ ?_
  obtain rfl := Option.some.inj h
  exact zw_iret hX hr dX4_keptEvents_9 rfl ⟨rfl, rfl⟩
set_option maxHeartbeats 4000000 in
set_option maxRecDepth 100000 in
theorem zt_X4_eventFact {l : Launch} {V : zm_V} {N : Nat} {S : zm_S} {out : (Int32 × zm_S)} {d : Nat} {a0 : Nat} {i1 : Int32} {i2 : Int32} (hd : 1 ≤ d) (h : zf_X4_eventFact N a0 i1 i2 S = some out) : zm_Met l zk_E V yX4_eventFact (.code yX4_eventFact cX4_eventFact 3 (some .int)) d [.ref a0, .int i1, .int i2] S 0 0 (zo_i out) zo_x := by
  refine zm_of (by decide +kernel) (Nat.le_of_ble_eq_true rfl) ?_
  intro p e R s m args below meth c hRR hX hr hxt
  have hR : R.frames = d ∧ R.locals = 64 * d := by rw [hRR]; exact ⟨rfl, rfl⟩
  have hX : zm_X p R s m args meth c RX4 "eventFact" cX4_eventFact 3 zk_E V 0 0 := hX
  unfold zf_X4_eventFact at h
  refine zw_sub (lv' := [(0, .ref a0), (1, .int i1), (2, .int i2)]) (List.forall_mem_cons.mpr ⟨rfl, (List.forall_mem_cons.mpr ⟨rfl, (List.forall_mem_cons.mpr ⟨rfl, zs_nil⟩)⟩)⟩) ?_
  refine zw_aload_n hX dX4_eventFact_0 rfl ?_
  obtain ⟨b1, g, h⟩ := zb_some h
  refine zw_getr hX zl_X4_56 dX4_eventFact_1 g ?_
  refine zw_aload_n hX dX4_eventFact_4 rfl ?_
  obtain ⟨v2, g, h⟩ := zb_some h
  refine zw_geti hX zl_X4_143 dX4_eventFact_5 g ?_
  refine zw_iconst (v := (1 : Int32)) hX dX4_eventFact_8 (by decide) ?_
  refine zw_isub hX dX4_eventFact_9 ?_
  refine zw_iload_n hX dX4_eventFact_10 rfl ?_
  refine zw_isub hX dX4_eventFact_11 ?_
  refine zw_bipush (v := (60 : Int32)) hX dX4_eventFact_12 (by decide) ?_
  refine zw_irem hX dX4_eventFact_14 (by decide) ?_
  obtain ⟨b3, g, h⟩ := zb_some h
  refine zw_xr hX dX4_eventFact_15 g ?_
  refine zw_iload_n hX dX4_eventFact_16 rfl ?_
  obtain ⟨v4, g, h⟩ := zb_some h
  refine zw_xi hX dX4_eventFact_17 g ?_
  obtain rfl := Option.some.inj h
  exact zw_iret hX hr dX4_eventFact_18 rfl ⟨rfl, rfl⟩
set_option maxHeartbeats 4000000 in
set_option maxRecDepth 100000 in
theorem zt_X5_init {l : Launch} {V : zm_V} {N : Nat} {S : zm_S} {out : (Unit × zm_S)} {d : Nat} {a0 : Nat} (hd : 2 ≤ d) (h : zf_X5_init N a0 S = some out) : zm_Met l zk_E V yX5_init (.code yX5_init cX5_init 1 none) d [.ref a0] S 94 2820 (zo_v out) zo_x := by
  refine zm_of (by decide +kernel) (Nat.le_of_ble_eq_true rfl) ?_
  intro p e R s m args below meth c hRR hX hr hxt
  have hR : R.frames = d ∧ R.locals = 64 * d := by rw [hRR]; exact ⟨rfl, rfl⟩
  have hX : zm_X p R s m args meth c RX5 "<init>" cX5_init 1 zk_E V 94 2820 := hX
  unfold zf_X5_init at h
  refine zw_sub (lv' := [(0, .ref a0)]) (List.forall_mem_cons.mpr ⟨rfl, zs_nil⟩) ?_
  refine zw_aload_n hX dX5_init_0 rfl ?_
  refine zw_objInit hX zl_X5_3.1 zl_X5_3.2.1 zl_X5_3.2.2 dX5_init_1 (by omega) (by show 0 + 12 ≤ R.locals; omega) ?_
  refine zw_aload_n hX dX5_init_4 rfl ?_
  refine zw_sipush (v := (2200 : Int32)) hX dX5_init_5 (by decide) ?_
  obtain ⟨S1, g, h⟩ := zb_some h
  refine zw_nc (b := 2200) hX zk_ac dX5_init_8 (by omega) (by omega) (by decide) g ?_
  obtain ⟨S2, g, h⟩ := zb_some h
  refine zw_putvF hX zl_X5_11 zt_5_0 dX5_init_10 rfl rfl g ?_
  refine zw_aload_n hX dX5_init_13 rfl ?_
  refine zw_bipush (v := (20 : Int32)) hX dX5_init_14 (by decide) ?_
  refine zw_bipush (v := (14 : Int32)) hX dX5_init_16 (by decide) ?_
  obtain ⟨S3, g, h⟩ := zb_some h
  refine zw_mnao (N := 20) (K := 14) (t1 := 4) (t2 := 0) (ty := .int) hX rfl rfl zl_X5_15 (by decide +kernel) (Or.inl rfl) zk_ai dX5_init_18 (fun _ _ => rfl) (by decide) (by decide) rfl rfl (Nat.le_of_ble_eq_true rfl) (Nat.le_of_ble_eq_true rfl) (Nat.le_of_ble_eq_true rfl) rfl rfl (fun _ h => by cases h) (by omega) (by omega) g ?_
  obtain ⟨S4, g, h⟩ := zb_some h
  refine zw_putvF hX zl_X5_17 zt_5_9 dX5_init_22 rfl rfl g ?_
  refine zw_aload_n hX dX5_init_25 rfl ?_
  refine zw_bipush (v := (20 : Int32)) hX dX5_init_26 (by decide) ?_
  refine zw_iconst (v := (5 : Int32)) hX dX5_init_28 (by decide) ?_
  obtain ⟨S5, g, h⟩ := zb_some h
  refine zw_mnao (N := 20) (K := 5) (t1 := 4) (t2 := 0) (ty := .int) hX rfl rfl zl_X5_15 (by decide +kernel) (Or.inl rfl) zk_ai dX5_init_29 (fun _ _ => rfl) (by decide) (by decide) rfl rfl (Nat.le_of_ble_eq_true rfl) (Nat.le_of_ble_eq_true rfl) (Nat.le_of_ble_eq_true rfl) rfl rfl (fun _ h => by cases h) (by omega) (by omega) g ?_
  obtain ⟨S6, g, h⟩ := zb_some h
  refine zw_putvF hX zl_X5_20 zt_5_10 dX5_init_33 rfl rfl g ?_
  refine zw_aload_n hX dX5_init_36 rfl ?_
  refine zw_bipush (v := (50 : Int32)) hX dX5_init_37 (by decide) ?_
  refine zw_iconst (v := (3 : Int32)) hX dX5_init_39 (by decide) ?_
  obtain ⟨S7, g, h⟩ := zb_some h
  refine zw_mnao (N := 50) (K := 3) (t1 := 4) (t2 := 0) (ty := .int) hX rfl rfl zl_X5_15 (by decide +kernel) (Or.inl rfl) zk_ai dX5_init_40 (fun _ _ => rfl) (by decide) (by decide) rfl rfl (Nat.le_of_ble_eq_true rfl) (Nat.le_of_ble_eq_true rfl) (Nat.le_of_ble_eq_true rfl) rfl rfl (fun _ h => by cases h) (by omega) (by omega) g ?_
  obtain ⟨S8, g, h⟩ := zb_some h
  refine zw_putvF hX zl_X5_23 zt_5_11 dX5_init_44 rfl rfl g ?_
  obtain rfl := Option.some.inj h
  exact zw_vret hX hr dX5_init_47 ⟨rfl, rfl⟩
set_option maxHeartbeats 4000000 in
set_option maxRecDepth 100000 in
theorem zt_X5_append {l : Launch} {V : zm_V} {N : Nat} {S : zm_S} {out : (Int32 × zm_S)} {d : Nat} {a0 : Nat} {i1 : Int32} (hd : 1 ≤ d) (h : zf_X5_append N a0 i1 S = some out) : zm_Met l zk_E V yX5_append (.code yX5_append cX5_append 2 (some .int)) d [.ref a0, .int i1] S 0 0 (zo_i out) zo_x := by
  refine zm_of (by decide +kernel) (Nat.le_of_ble_eq_true rfl) ?_
  intro p e R s m args below meth c hRR hX hr hxt
  have hR : R.frames = d ∧ R.locals = 64 * d := by rw [hRR]; exact ⟨rfl, rfl⟩
  have hX : zm_X p R s m args meth c RX5 "append" cX5_append 2 zk_E V 0 0 := hX
  unfold zf_X5_append at h
  refine zw_sub (lv' := [(0, .ref a0), (1, .int i1)]) (List.forall_mem_cons.mpr ⟨rfl, (List.forall_mem_cons.mpr ⟨rfl, zs_nil⟩)⟩) ?_
  refine zw_aload_n hX dX5_append_0 rfl ?_
  obtain ⟨v1, g, h⟩ := zb_some h
  refine zw_geti hX zl_X5_26 dX5_append_1 g ?_
  refine zw_sipush (v := (2000 : Int32)) hX dX5_append_4 (by decide) ?_
  refine zw_icmp_ge (tgt := 31) hX dX5_append_7 (by decide) (fun c7 => ?_) (fun c7 => ?_)
  · rw [if_pos c7] at h
    refine zw_aload_n hX dX5_append_31 rfl ?_
    obtain ⟨v2, g, h⟩ := zb_some h
    refine zw_geti hX zl_X5_26 dX5_append_32 g ?_
    obtain rfl := Option.some.inj h
    exact zw_iret hX hr dX5_append_35 rfl ⟨rfl, rfl⟩
  · rw [if_neg c7] at h
    refine zw_aload_n hX dX5_append_10 rfl ?_
    obtain ⟨b3, g, h⟩ := zb_some h
    refine zw_getr hX zl_X5_11 dX5_append_11 g ?_
    refine zw_aload_n hX dX5_append_14 rfl ?_
    obtain ⟨v4, g, h⟩ := zb_some h
    refine zw_geti hX zl_X5_26 dX5_append_15 g ?_
    refine zw_iload_n hX dX5_append_18 rfl ?_
    refine zw_i2c hX dX5_append_19 ?_
    obtain ⟨S5, g, h⟩ := zb_some h
    refine zw_sc hX dX5_append_20 g ?_
    refine zw_aload_n hX dX5_append_21 rfl ?_
    refine zw_dup hX dX5_append_22 rfl ?_
    obtain ⟨v6, g, h⟩ := zb_some h
    refine zw_geti hX zl_X5_26 dX5_append_23 g ?_
    refine zw_iconst (v := (1 : Int32)) hX dX5_append_26 (by decide) ?_
    refine zw_iadd hX dX5_append_27 ?_
    obtain ⟨S7, g, h⟩ := zb_some h
    refine zw_putv hX zl_X5_26 zt_5_1 dX5_append_28 rfl rfl g ?_
    refine zw_aload_n hX dX5_append_31 rfl ?_
    obtain ⟨v8, g, h⟩ := zb_some h
    refine zw_geti hX zl_X5_26 dX5_append_32 g ?_
    obtain rfl := Option.some.inj h
    exact zw_iret hX hr dX5_append_35 rfl ⟨rfl, rfl⟩
set_option maxHeartbeats 4000000 in
set_option maxRecDepth 100000 in
theorem zt_X5_write {l : Launch} {V : zm_V} {N : Nat} {S : zm_S} {out : (Unit × zm_S)} {d : Nat} {a0 : Nat} {i1 : Int32} (hd : 1 ≤ d) (h : zf_X5_write N a0 i1 S = some out) : zm_Met l zk_E V yX5_write (.code yX5_write cX5_write 2 none) d [.ref a0, .int i1] S 0 0 (zo_v out) zo_x := by
  refine zm_of (by decide +kernel) (Nat.le_of_ble_eq_true rfl) ?_
  intro p e R s m args below meth c hRR hX hr hxt
  have hR : R.frames = d ∧ R.locals = 64 * d := by rw [hRR]; exact ⟨rfl, rfl⟩
  have hX : zm_X p R s m args meth c RX5 "write" cX5_write 2 zk_E V 0 0 := hX
  unfold zf_X5_write at h
  refine zw_sub (lv' := [(0, .ref a0), (1, .int i1)]) (List.forall_mem_cons.mpr ⟨rfl, (List.forall_mem_cons.mpr ⟨rfl, zs_nil⟩)⟩) ?_
  refine zw_aload_n hX dX5_write_0 rfl ?_
  obtain ⟨v1, g, h⟩ := zb_some h
  refine zw_geti hX zl_X5_30 dX5_write_1 g ?_
  refine zw_aload_n hX dX5_write_4 rfl ?_
  obtain ⟨b2, g, h⟩ := zb_some h
  refine zw_getr hX zl_X5_11 dX5_write_5 g ?_
  obtain ⟨v3, g, h⟩ := zb_some h
  refine zw_len hX dX5_write_8 g ?_
  refine zw_icmp_ge (tgt := 32) hX dX5_write_9 (by decide) (fun c9 => ?_) (fun c9 => ?_)
  · rw [if_pos c9] at h
    obtain rfl := Option.some.inj h
    exact zw_vret hX hr dX5_write_32 ⟨rfl, rfl⟩
  · rw [if_neg c9] at h
    refine zw_aload_n hX dX5_write_12 rfl ?_
    obtain ⟨b4, g, h⟩ := zb_some h
    refine zw_getr hX zl_X5_11 dX5_write_13 g ?_
    refine zw_aload_n hX dX5_write_16 rfl ?_
    obtain ⟨v5, g, h⟩ := zb_some h
    refine zw_geti hX zl_X5_30 dX5_write_17 g ?_
    refine zw_iload_n hX dX5_write_20 rfl ?_
    obtain ⟨S6, g, h⟩ := zb_some h
    refine zw_sc hX dX5_write_21 g ?_
    refine zw_aload_n hX dX5_write_22 rfl ?_
    refine zw_dup hX dX5_write_23 rfl ?_
    obtain ⟨v7, g, h⟩ := zb_some h
    refine zw_geti hX zl_X5_30 dX5_write_24 g ?_
    refine zw_iconst (v := (1 : Int32)) hX dX5_write_27 (by decide) ?_
    refine zw_iadd hX dX5_write_28 ?_
    obtain ⟨S8, g, h⟩ := zb_some h
    refine zw_putv hX zl_X5_30 zt_5_2 dX5_write_29 rfl rfl g ?_
    obtain rfl := Option.some.inj h
    exact zw_vret hX hr dX5_write_32 ⟨rfl, rfl⟩
set_option maxHeartbeats 4000000 in
set_option maxRecDepth 100000 in
theorem zt_X5_writeNumber_J44 {p : Program} {l : Launch} {e : Env} {R : Room} {s : State} {m : MethodId} {args : Array Value} {below : List Frame} {meth : Method} {c : Code} {V : zm_V} {mc ms d rc rs : Nat} (hX : zm_X p R s m args meth c RX5 "writeNumber" cX5_writeNumber 5 zk_E V mc ms) (hr : meth.sig.returnType = none) (hR : R.frames = d ∧ R.locals = 64 * d) (hd : 2 ≤ d) {N : Nat} {k : Nat → Int32 → Int32 → Int32 → zm_S → Option ((Unit × zm_S) ⊕ ((Unit) × zm_S))} {a0 : Nat} {i1 : Int32} {i2 : Int32} {i3 : Int32} {res : (Unit × zm_S) ⊕ ((Unit) × zm_S)} {out : (Unit × zm_S)}   (hf : ∀ o, res = .inl o → o = out) (hk : ∀ (S' : zm_S), res = .inr ((), S') → zw p l e R s m args below meth c (vx_MQ below (zm_Qc zk_E V (zo_v out)) (zm_XC zk_E V zo_x) args s mc ms (fun q => V.2.2.2.1 ≤ q)) 5 zk_E V mc ms 52 [(0, .ref a0)] [] S' rc rs) (hrec : ∀ (i2' : Int32) (i3' : Int32) (S : zm_S), k a0 i1 i2' i3' S = some res → zw p l e R s m args below meth c (vx_MQ below (zm_Qc zk_E V (zo_v out)) (zm_XC zk_E V zo_x) args s mc ms (fun q => V.2.2.2.1 ≤ q)) 5 zk_E V mc ms 6 [(0, .ref a0), (1, .int i1), (2, .int i2'), (3, .int i3')] [] S rc rs) {S : zm_S} (h : zf_X5_writeNumber_J44 N k a0 i1 i2 i3 S = some res) : zw p l e R s m args below meth c (vx_MQ below (zm_Qc zk_E V (zo_v out)) (zm_XC zk_E V zo_x) args s mc ms (fun q => V.2.2.2.1 ≤ q)) 5 zk_E V mc ms 44 [(0, .ref a0), (1, .int i1), (2, .int i2), (3, .int i3)] [] S rc rs := by
  unfold zf_X5_writeNumber_J44 at h
  refine zw_iload_n hX dX5_writeNumber_44 rfl ?_
  refine zw_bipush (v := (10 : Int32)) hX dX5_writeNumber_45 (by decide) ?_
  refine zw_idiv hX dX5_writeNumber_47 (by decide) ?_
  refine zw_istore_n hX dX5_writeNumber_48 (by decide) ?_
  refine zw_goto (tgt := 6) hX dX5_writeNumber_49 (by decide) ?_
  refine zw_sub (lv' := [(0, .ref a0), (1, .int i1), (2, .int i2), (3, .int (i3 / (10 : Int32)))]) (List.forall_mem_cons.mpr ⟨rfl, (List.forall_mem_cons.mpr ⟨rfl, (List.forall_mem_cons.mpr ⟨rfl, (List.forall_mem_cons.mpr ⟨rfl, zs_nil⟩)⟩)⟩)⟩) ?_
  exact hrec _ _ _ h
set_option maxHeartbeats 4000000 in
set_option maxRecDepth 100000 in
theorem zt_X5_writeNumber_J32 {p : Program} {l : Launch} {e : Env} {R : Room} {s : State} {m : MethodId} {args : Array Value} {below : List Frame} {meth : Method} {c : Code} {V : zm_V} {mc ms d rc rs : Nat} (hX : zm_X p R s m args meth c RX5 "writeNumber" cX5_writeNumber 5 zk_E V mc ms) (hr : meth.sig.returnType = none) (hR : R.frames = d ∧ R.locals = 64 * d) (hd : 2 ≤ d) {N : Nat} {k : Nat → Int32 → Int32 → Int32 → zm_S → Option ((Unit × zm_S) ⊕ ((Unit) × zm_S))} {a0 : Nat} {i1 : Int32} {i3 : Int32} {i4 : Int32} {res : (Unit × zm_S) ⊕ ((Unit) × zm_S)} {out : (Unit × zm_S)}   (hf : ∀ o, res = .inl o → o = out) (hk : ∀ (S' : zm_S), res = .inr ((), S') → zw p l e R s m args below meth c (vx_MQ below (zm_Qc zk_E V (zo_v out)) (zm_XC zk_E V zo_x) args s mc ms (fun q => V.2.2.2.1 ≤ q)) 5 zk_E V mc ms 52 [(0, .ref a0)] [] S' rc rs) (hrec : ∀ (i2' : Int32) (i3' : Int32) (S : zm_S), k a0 i1 i2' i3' S = some res → zw p l e R s m args below meth c (vx_MQ below (zm_Qc zk_E V (zo_v out)) (zm_XC zk_E V zo_x) args s mc ms (fun q => V.2.2.2.1 ≤ q)) 5 zk_E V mc ms 6 [(0, .ref a0), (1, .int i1), (2, .int i2'), (3, .int i3')] [] S rc rs) {S : zm_S} (h : zf_X5_writeNumber_J32 N k a0 i1 i3 i4 S = some res) : zw p l e R s m args below meth c (vx_MQ below (zm_Qc zk_E V (zo_v out)) (zm_XC zk_E V zo_x) args s mc ms (fun q => V.2.2.2.1 ≤ q)) 5 zk_E V mc ms 32 [(0, .ref a0), (1, .int i1), (3, .int i3), (4, .int i4)] [] S rc rs := by
  unfold zf_X5_writeNumber_J32 at h
  refine zw_aload_n hX dX5_writeNumber_32 rfl ?_
  refine zw_bipush (v := (48 : Int32)) hX dX5_writeNumber_33 (by decide) ?_
  refine zw_iload hX dX5_writeNumber_35 rfl ?_
  refine zw_iadd hX dX5_writeNumber_37 ?_
  refine zw_i2c hX dX5_writeNumber_38 ?_
  obtain ⟨_, gi, h⟩ := zb_some h
  obtain ⟨r2, g, h⟩ := zb_some h
  refine zc_Vv (as := [.int ((((48 : Int32) + i4)).toUInt32 % 65536).toInt32]) hX gi (zt_X5_write (d := d - 1) (by omega) g) zl_X5_63 rfl dX5_writeNumber_39 ⟨rfl, rfl, Nat.le_of_ble_eq_true rfl⟩ ⟨by omega, by omega⟩ ?_
  refine zw_iconst (v := (1 : Int32)) hX dX5_writeNumber_42 (by decide) ?_
  refine zw_istore_n hX dX5_writeNumber_43 (by decide) ?_
  refine zw_sub (lv' := [(0, .ref a0), (1, .int i1), (2, .int (1 : Int32)), (3, .int i3)]) (List.forall_mem_cons.mpr ⟨rfl, (List.forall_mem_cons.mpr ⟨rfl, (List.forall_mem_cons.mpr ⟨rfl, (List.forall_mem_cons.mpr ⟨rfl, zs_nil⟩)⟩)⟩)⟩) ?_
  exact zt_X5_writeNumber_J44 hX hr hR hd hf hk hrec h
set_option maxHeartbeats 4000000 in
set_option maxRecDepth 100000 in
theorem zt_X5_writeNumber_L6 {p : Program} {l : Launch} {e : Env} {R : Room} {s : State} {m : MethodId} {args : Array Value} {below : List Frame} {meth : Method} {c : Code} {V : zm_V} {mc ms d rc rs : Nat} (hX : zm_X p R s m args meth c RX5 "writeNumber" cX5_writeNumber 5 zk_E V mc ms) (hr : meth.sig.returnType = none) (hR : R.frames = d ∧ R.locals = 64 * d) (hd : 2 ≤ d) {N : Nat} {res : (Unit × zm_S) ⊕ ((Unit) × zm_S)} {out : (Unit × zm_S)} (a0 : Nat) (i1 : Int32) (hf : ∀ o, res = .inl o → o = out) (hk : ∀ (S' : zm_S), res = .inr ((), S') → zw p l e R s m args below meth c (vx_MQ below (zm_Qc zk_E V (zo_v out)) (zm_XC zk_E V zo_x) args s mc ms (fun q => V.2.2.2.1 ≤ q)) 5 zk_E V mc ms 52 [(0, .ref a0)] [] S' rc rs) : ∀ (n : Nat) (i2 : Int32) (i3 : Int32) (S : zm_S), zf_X5_writeNumber_L6 N n a0 i1 i2 i3 S = some res → zw p l e R s m args below meth c (vx_MQ below (zm_Qc zk_E V (zo_v out)) (zm_XC zk_E V zo_x) args s mc ms (fun q => V.2.2.2.1 ≤ q)) 5 zk_E V mc ms 6 [(0, .ref a0), (1, .int i1), (2, .int i2), (3, .int i3)] [] S rc rs := by
  intro n
  induction n with
  | zero => intro i2 i3 S h; cases h
  | succ n ih =>
    intro i2 i3 S h
    rw [zf_X5_writeNumber_L6] at h
    refine zw_iload_n hX dX5_writeNumber_6 rfl ?_
    refine zw_if_le (tgt := 52) hX dX5_writeNumber_7 (by decide) (fun c7 => ?_) (fun c7 => ?_)
    · rw [if_pos c7] at h
      refine zw_sub (lv' := [(0, .ref a0)]) (List.forall_mem_cons.mpr ⟨rfl, zs_nil⟩) ?_
      exact hk  _ (Option.some.inj h).symm
    · rw [if_neg c7] at h
      refine zw_iload_n hX dX5_writeNumber_10 rfl ?_
      refine zw_iload_n hX dX5_writeNumber_11 rfl ?_
      by_cases c0 : i3 = 0
      · rw [if_pos c0] at h
        cases h
      rw [if_neg c0] at h
      refine zw_idiv hX dX5_writeNumber_12 c0 ?_
      refine zw_bipush (v := (10 : Int32)) hX dX5_writeNumber_13 (by decide) ?_
      refine zw_irem hX dX5_writeNumber_15 (by decide) ?_
      refine zw_istore hX dX5_writeNumber_16 (by decide) ?_
      refine zw_iload hX dX5_writeNumber_18 rfl ?_
      refine zw_if_ne (tgt := 32) hX dX5_writeNumber_20 (by decide) (fun c20 => ?_) (fun c20 => ?_)
      · rw [if_neg c20] at h
        refine zw_sub (lv' := [(0, .ref a0), (1, .int i1), (3, .int i3), (4, .int ((i1 / i3) - (i1 / i3) / (10 : Int32) * (10 : Int32)))]) (List.forall_mem_cons.mpr ⟨rfl, (List.forall_mem_cons.mpr ⟨rfl, (List.forall_mem_cons.mpr ⟨rfl, (List.forall_mem_cons.mpr ⟨rfl, zs_nil⟩)⟩)⟩)⟩) ?_
        exact zt_X5_writeNumber_J32 hX hr hR hd hf hk ih h
      · rw [if_pos c20] at h
        refine zw_iload_n hX dX5_writeNumber_23 rfl ?_
        refine zw_if_ne (tgt := 32) hX dX5_writeNumber_24 (by decide) (fun c24 => ?_) (fun c24 => ?_)
        · rw [if_neg c24] at h
          refine zw_sub (lv' := [(0, .ref a0), (1, .int i1), (3, .int i3), (4, .int ((i1 / i3) - (i1 / i3) / (10 : Int32) * (10 : Int32)))]) (List.forall_mem_cons.mpr ⟨rfl, (List.forall_mem_cons.mpr ⟨rfl, (List.forall_mem_cons.mpr ⟨rfl, (List.forall_mem_cons.mpr ⟨rfl, zs_nil⟩)⟩)⟩)⟩) ?_
          exact zt_X5_writeNumber_J32 hX hr hR hd hf hk ih h
        · rw [if_pos c24] at h
          refine zw_iload_n hX dX5_writeNumber_27 rfl ?_
          refine zw_iconst (v := (1 : Int32)) hX dX5_writeNumber_28 (by decide) ?_
          refine zw_icmp_ne (tgt := 44) hX dX5_writeNumber_29 (by decide) (fun c29 => ?_) (fun c29 => ?_)
          · rw [if_neg c29] at h
            refine zw_sub (lv' := [(0, .ref a0), (1, .int i1), (2, .int i2), (3, .int i3)]) (List.forall_mem_cons.mpr ⟨rfl, (List.forall_mem_cons.mpr ⟨rfl, (List.forall_mem_cons.mpr ⟨rfl, (List.forall_mem_cons.mpr ⟨rfl, zs_nil⟩)⟩)⟩)⟩) ?_
            exact zt_X5_writeNumber_J44 hX hr hR hd hf hk ih h
          · rw [if_pos c29] at h
            refine zw_sub (lv' := [(0, .ref a0), (1, .int i1), (3, .int i3), (4, .int ((i1 / i3) - (i1 / i3) / (10 : Int32) * (10 : Int32)))]) (List.forall_mem_cons.mpr ⟨rfl, (List.forall_mem_cons.mpr ⟨rfl, (List.forall_mem_cons.mpr ⟨rfl, (List.forall_mem_cons.mpr ⟨rfl, zs_nil⟩)⟩)⟩)⟩) ?_
            exact zt_X5_writeNumber_J32 hX hr hR hd hf hk ih h
set_option maxHeartbeats 4000000 in
set_option maxRecDepth 100000 in
theorem zt_X5_writeNumber {l : Launch} {V : zm_V} {N : Nat} {S : zm_S} {out : (Unit × zm_S)} {d : Nat} {a0 : Nat} {i1 : Int32} (hd : 2 ≤ d) (h : zf_X5_writeNumber N a0 i1 S = some out) : zm_Met l zk_E V yX5_writeNumber (.code yX5_writeNumber cX5_writeNumber 5 none) d [.ref a0, .int i1] S 0 0 (zo_v out) zo_x := by
  refine zm_of (by decide +kernel) (Nat.le_of_ble_eq_true rfl) ?_
  intro p e R s m args below meth c hRR hX hr hxt
  have hR : R.frames = d ∧ R.locals = 64 * d := by rw [hRR]; exact ⟨rfl, rfl⟩
  have hX : zm_X p R s m args meth c RX5 "writeNumber" cX5_writeNumber 5 zk_E V 0 0 := hX
  unfold zf_X5_writeNumber at h
  refine zw_sub (lv' := [(0, .ref a0), (1, .int i1)]) (List.forall_mem_cons.mpr ⟨rfl, (List.forall_mem_cons.mpr ⟨rfl, zs_nil⟩)⟩) ?_
  refine zw_iconst (v := (0 : Int32)) hX dX5_writeNumber_0 (by decide) ?_
  refine zw_istore_n hX dX5_writeNumber_1 (by decide) ?_
  refine zw_sipush (v := (10000 : Int32)) hX dX5_writeNumber_2 (by decide) ?_
  refine zw_istore_n hX dX5_writeNumber_5 (by decide) ?_
  obtain ⟨r, g, h⟩ := zb_some h
  refine zw_sub (lv' := [(0, .ref a0), (1, .int i1), (2, .int (0 : Int32)), (3, .int (10000 : Int32))]) (List.forall_mem_cons.mpr ⟨rfl, (List.forall_mem_cons.mpr ⟨rfl, (List.forall_mem_cons.mpr ⟨rfl, (List.forall_mem_cons.mpr ⟨rfl, zs_nil⟩)⟩)⟩)⟩) ?_
  refine zt_X5_writeNumber_L6 hX hr hR hd (res := r) (out := out) a0 i1 ?_ ?_ N _ _ _ g
  · intro o ho
    subst ho
    exact Option.some.inj h
  · intro  S3 hx
    subst hx
    try dsimp only at h
    refine zw_aload_n hX dX5_writeNumber_52 rfl ?_
    refine zw_bipush (v := (32 : Int32)) hX dX5_writeNumber_53 (by decide) ?_
    obtain ⟨_, gi, h⟩ := zb_some h
    obtain ⟨r5, g, h⟩ := zb_some h
    refine zc_Vv (as := [.int (32 : Int32)]) hX gi (zt_X5_write (d := d - 1) (by omega) g) zl_X5_63 rfl dX5_writeNumber_55 ⟨rfl, rfl, Nat.le_of_ble_eq_true rfl⟩ ⟨by omega, by omega⟩ ?_
    obtain rfl := Option.some.inj h
    exact zw_vret hX hr dX5_writeNumber_58 ⟨rfl, rfl⟩
set_option maxHeartbeats 4000000 in
set_option maxRecDepth 100000 in
theorem zt_X5_writePart_L4 {p : Program} {l : Launch} {e : Env} {R : Room} {s : State} {m : MethodId} {args : Array Value} {below : List Frame} {meth : Method} {c : Code} {V : zm_V} {mc ms d rc rs : Nat} (hX : zm_X p R s m args meth c RX5 "writePart" cX5_writePart 7 zk_E V mc ms) (hr : meth.sig.returnType = none) (hR : R.frames = d ∧ R.locals = 64 * d) (hd : 3 ≤ d) {N : Nat} {res : (Unit × zm_S) ⊕ ((Unit) × zm_S)} {out : (Unit × zm_S)} (a0 : Nat) (j1 : Int64) (i3 : Int32) (hf : ∀ o, res = .inl o → o = out) (hk : ∀ (S' : zm_S), res = .inr ((), S') → zw p l e R s m args below meth c (vx_MQ below (zm_Qc zk_E V (zo_v out)) (zm_XC zk_E V zo_x) args s mc ms (fun q => V.2.2.2.1 ≤ q)) 7 zk_E V mc ms 40 [(0, .ref a0), (3, .int i3)] [] S' rc rs) : ∀ (n : Nat) (i4 : Int32) (S : zm_S), zf_X5_writePart_L4 N n a0 j1 i3 i4 S = some res → zw p l e R s m args below meth c (vx_MQ below (zm_Qc zk_E V (zo_v out)) (zm_XC zk_E V zo_x) args s mc ms (fun q => V.2.2.2.1 ≤ q)) 7 zk_E V mc ms 4 [(0, .ref a0), (1, .long j1), (3, .int i3), (4, .int i4)] [] S rc rs := by
  intro n
  induction n with
  | zero => intro i4 S h; cases h
  | succ n ih =>
    intro i4 S h
    rw [zf_X5_writePart_L4] at h
    refine zw_iload hX dX5_writePart_4 rfl ?_
    refine zw_if_lt (tgt := 40) hX dX5_writePart_6 (by decide) (fun c6 => ?_) (fun c6 => ?_)
    · rw [if_pos c6] at h
      refine zw_sub (lv' := [(0, .ref a0), (3, .int i3)]) (List.forall_mem_cons.mpr ⟨rfl, (List.forall_mem_cons.mpr ⟨rfl, zs_nil⟩)⟩) ?_
      exact hk  _ (Option.some.inj h).symm
    · rw [if_neg c6] at h
      refine zw_lload_n hX dX5_writePart_9 rfl ?_
      refine zw_iload hX dX5_writePart_10 rfl ?_
      refine zw_lshr hX dX5_writePart_12 ?_
      refine zw_ldc2 (v := (255 : Int64)) hX dX5_writePart_13 zl_X5_67 ?_
      refine zw_land hX dX5_writePart_16 ?_
      refine zw_lstore hX dX5_writePart_17 (by decide) ?_
      refine zw_lload hX dX5_writePart_19 rfl ?_
      refine zw_lconst (v := (0 : Int64)) hX dX5_writePart_21 (by decide) ?_
      refine zw_lcmp hX dX5_writePart_22 ?_
      refine zw_if_eq (tgt := 34) hX dX5_writePart_23 (by decide) (fun c23 => ?_) (fun c23 => ?_)
      · rw [if_pos c23] at h
        refine zw_iinc (v := (i4 + (-8 : Int32))) hX dX5_writePart_34 rfl rfl (by decide) ?_
        refine zw_goto (tgt := 4) hX dX5_writePart_37 (by decide) ?_
        refine zw_sub (lv' := [(0, .ref a0), (1, .long j1), (3, .int i3), (4, .int (i4 + (-8 : Int32)))]) (List.forall_mem_cons.mpr ⟨rfl, (List.forall_mem_cons.mpr ⟨rfl, (List.forall_mem_cons.mpr ⟨rfl, (List.forall_mem_cons.mpr ⟨rfl, zs_nil⟩)⟩)⟩)⟩) ?_
        exact ih _ _ h
      · rw [if_neg c23] at h
        refine zw_aload_n hX dX5_writePart_26 rfl ?_
        refine zw_lload hX dX5_writePart_27 rfl ?_
        refine zw_l2i hX dX5_writePart_29 ?_
        refine zw_i2c hX dX5_writePart_30 ?_
        obtain ⟨_, gi, h⟩ := zb_some h
        obtain ⟨r2, g, h⟩ := zb_some h
        refine zc_Vv (as := [.int (((((j1 >>> ((i4).toInt64 &&& 63)) &&& (255 : Int64))).toInt32).toUInt32 % 65536).toInt32]) hX gi (zt_X5_write (d := d - 1) (by omega) g) zl_X5_63 rfl dX5_writePart_31 ⟨rfl, rfl, Nat.le_of_ble_eq_true rfl⟩ ⟨by omega, by omega⟩ ?_
        refine zw_iinc (v := (i4 + (-8 : Int32))) hX dX5_writePart_34 rfl rfl (by decide) ?_
        refine zw_goto (tgt := 4) hX dX5_writePart_37 (by decide) ?_
        refine zw_sub (lv' := [(0, .ref a0), (1, .long j1), (3, .int i3), (4, .int (i4 + (-8 : Int32)))]) (List.forall_mem_cons.mpr ⟨rfl, (List.forall_mem_cons.mpr ⟨rfl, (List.forall_mem_cons.mpr ⟨rfl, (List.forall_mem_cons.mpr ⟨rfl, zs_nil⟩)⟩)⟩)⟩) ?_
        exact ih _ _ h
set_option maxHeartbeats 4000000 in
set_option maxRecDepth 100000 in
theorem zt_X5_writePart {l : Launch} {V : zm_V} {N : Nat} {S : zm_S} {out : (Unit × zm_S)} {d : Nat} {a0 : Nat} {j1 : Int64} {i3 : Int32} (hd : 3 ≤ d) (h : zf_X5_writePart N a0 j1 i3 S = some out) : zm_Met l zk_E V yX5_writePart (.code yX5_writePart cX5_writePart 7 none) d [.ref a0, .long j1, .int i3] S 0 0 (zo_v out) zo_x := by
  refine zm_of (by decide +kernel) (Nat.le_of_ble_eq_true rfl) ?_
  intro p e R s m args below meth c hRR hX hr hxt
  have hR : R.frames = d ∧ R.locals = 64 * d := by rw [hRR]; exact ⟨rfl, rfl⟩
  have hX : zm_X p R s m args meth c RX5 "writePart" cX5_writePart 7 zk_E V 0 0 := hX
  unfold zf_X5_writePart at h
  refine zw_sub (lv' := [(0, .ref a0), (1, .long j1), (3, .int i3)]) (List.forall_mem_cons.mpr ⟨rfl, (List.forall_mem_cons.mpr ⟨rfl, (List.forall_mem_cons.mpr ⟨rfl, zs_nil⟩)⟩)⟩) ?_
  refine zw_bipush (v := (56 : Int32)) hX dX5_writePart_0 (by decide) ?_
  refine zw_istore hX dX5_writePart_2 (by decide) ?_
  obtain ⟨r, g, h⟩ := zb_some h
  refine zw_sub (lv' := [(0, .ref a0), (1, .long j1), (3, .int i3), (4, .int (56 : Int32))]) (List.forall_mem_cons.mpr ⟨rfl, (List.forall_mem_cons.mpr ⟨rfl, (List.forall_mem_cons.mpr ⟨rfl, (List.forall_mem_cons.mpr ⟨rfl, zs_nil⟩)⟩)⟩)⟩) ?_
  refine zt_X5_writePart_L4 hX hr hR hd (res := r) (out := out) a0 j1 i3 ?_ ?_ N _ _ g
  · intro o ho
    subst ho
    exact Option.some.inj h
  · intro  S3 hx
    subst hx
    try dsimp only at h
    refine zw_aload_n hX dX5_writePart_40 rfl ?_
    refine zw_bipush (v := (32 : Int32)) hX dX5_writePart_41 (by decide) ?_
    obtain ⟨_, gi, h⟩ := zb_some h
    obtain ⟨r5, g, h⟩ := zb_some h
    refine zc_Vv (as := [.int (32 : Int32)]) hX gi (zt_X5_write (d := d - 1) (by omega) g) zl_X5_63 rfl dX5_writePart_43 ⟨rfl, rfl, Nat.le_of_ble_eq_true rfl⟩ ⟨by omega, by omega⟩ ?_
    refine zw_aload_n hX dX5_writePart_46 rfl ?_
    refine zw_iload_n hX dX5_writePart_47 rfl ?_
    obtain ⟨_, gi, h⟩ := zb_some h
    obtain ⟨r7, g, h⟩ := zb_some h
    refine zc_Vv (as := [.int i3]) hX gi (zt_X5_writeNumber (d := d - 1) (by omega) g) zl_X5_43 rfl dX5_writePart_48 ⟨rfl, rfl, Nat.le_of_ble_eq_true rfl⟩ ⟨by omega, by omega⟩ ?_
    obtain rfl := Option.some.inj h
    exact zw_vret hX hr dX5_writePart_51 ⟨rfl, rfl⟩
set_option maxHeartbeats 4000000 in
set_option maxRecDepth 100000 in
theorem zt_X5_writeSentence_J192 {p : Program} {l : Launch} {e : Env} {R : Room} {s : State} {m : MethodId} {args : Array Value} {below : List Frame} {meth : Method} {c : Code} {V : zm_V} {mc ms d rc rs : Nat} (hX : zm_X p R s m args meth c RX5 "writeSentence" cX5_writeSentence 7 zk_E V mc ms) (hr : meth.sig.returnType = (some .int)) (hR : R.frames = d ∧ R.locals = 64 * d) (hd : 4 ≤ d) {N : Nat} {a0 : Nat} {out : (Int32 × zm_S)} {S : zm_S} (h : zf_X5_writeSentence_J192 N a0 S = some out) : zw p l e R s m args below meth c (vx_MQ below (zm_Qc zk_E V (zo_i out)) (zm_XC zk_E V zo_x) args s mc ms (fun q => V.2.2.2.1 ≤ q)) 7 zk_E V mc ms 192 [(0, .ref a0)] [] S rc rs := by
  unfold zf_X5_writeSentence_J192 at h
  refine zw_aload_n hX dX5_writeSentence_192 rfl ?_
  refine zw_bipush (v := (59 : Int32)) hX dX5_writeSentence_193 (by decide) ?_
  obtain ⟨_, gi, h⟩ := zb_some h
  obtain ⟨r6, g, h⟩ := zb_some h
  refine zc_Vv (as := [.int (59 : Int32)]) hX gi (zt_X5_write (d := d - 1) (by omega) g) zl_X5_63 rfl dX5_writeSentence_195 ⟨rfl, rfl, Nat.le_of_ble_eq_true rfl⟩ ⟨by omega, by omega⟩ ?_
  refine zw_aload_n hX dX5_writeSentence_198 rfl ?_
  refine zw_bipush (v := (32 : Int32)) hX dX5_writeSentence_199 (by decide) ?_
  obtain ⟨_, gi, h⟩ := zb_some h
  obtain ⟨r8, g, h⟩ := zb_some h
  refine zc_Vv (as := [.int (32 : Int32)]) hX gi (zt_X5_write (d := d - 1) (by omega) g) zl_X5_63 rfl dX5_writeSentence_201 ⟨rfl, rfl, Nat.le_of_ble_eq_true rfl⟩ ⟨by omega, by omega⟩ ?_
  refine zw_aload_n hX dX5_writeSentence_204 rfl ?_
  obtain ⟨v9, g, h⟩ := zb_some h
  refine zw_geti hX zl_X5_30 dX5_writeSentence_205 g ?_
  obtain rfl := Option.some.inj h
  exact zw_iret hX hr dX5_writeSentence_208 rfl ⟨rfl, rfl⟩
set_option maxHeartbeats 4000000 in
set_option maxRecDepth 100000 in
theorem zt_X5_writeSentence_L68 {p : Program} {l : Launch} {e : Env} {R : Room} {s : State} {m : MethodId} {args : Array Value} {below : List Frame} {meth : Method} {c : Code} {V : zm_V} {mc ms d rc rs : Nat} (hX : zm_X p R s m args meth c RX5 "writeSentence" cX5_writeSentence 7 zk_E V mc ms) (hr : meth.sig.returnType = (some .int)) (hR : R.frames = d ∧ R.locals = 64 * d) (hd : 4 ≤ d) {N : Nat} {res : (Int32 × zm_S) ⊕ ((Unit) × zm_S)} {out : (Int32 × zm_S)} (a0 : Nat) (i4 : Int32) (i5 : Int32) (hf : ∀ o, res = .inl o → o = out) (hk : ∀ (S' : zm_S), res = .inr ((), S') → zw p l e R s m args below meth c (vx_MQ below (zm_Qc zk_E V (zo_i out)) (zm_XC zk_E V zo_x) args s mc ms (fun q => V.2.2.2.1 ≤ q)) 7 zk_E V mc ms 97 [(0, .ref a0)] [] S' rc rs) : ∀ (n : Nat) (i6 : Int32) (S : zm_S), zf_X5_writeSentence_L68 N n a0 i4 i5 i6 S = some res → zw p l e R s m args below meth c (vx_MQ below (zm_Qc zk_E V (zo_i out)) (zm_XC zk_E V zo_x) args s mc ms (fun q => V.2.2.2.1 ≤ q)) 7 zk_E V mc ms 68 [(0, .ref a0), (4, .int i4), (5, .int i5), (6, .int i6)] [] S rc rs := by
  intro n
  induction n with
  | zero => intro i6 S h; cases h
  | succ n ih =>
    intro i6 S h
    rw [zf_X5_writeSentence_L68] at h
    refine zw_iload hX dX5_writeSentence_68 rfl ?_
    refine zw_iload hX dX5_writeSentence_70 rfl ?_
    refine zw_icmp_ge (tgt := 97) hX dX5_writeSentence_72 (by decide) (fun c72 => ?_) (fun c72 => ?_)
    · rw [if_pos c72] at h
      refine zw_sub (lv' := [(0, .ref a0)]) (List.forall_mem_cons.mpr ⟨rfl, zs_nil⟩) ?_
      exact hk  _ (Option.some.inj h).symm
    · rw [if_neg c72] at h
      refine zw_iload hX dX5_writeSentence_75 rfl ?_
      refine zw_bipush (v := (12 : Int32)) hX dX5_writeSentence_77 (by decide) ?_
      refine zw_icmp_ge (tgt := 97) hX dX5_writeSentence_79 (by decide) (fun c79 => ?_) (fun c79 => ?_)
      · rw [if_pos c79] at h
        refine zw_sub (lv' := [(0, .ref a0)]) (List.forall_mem_cons.mpr ⟨rfl, zs_nil⟩) ?_
        exact hk  _ (Option.some.inj h).symm
      · rw [if_neg c79] at h
        refine zw_aload_n hX dX5_writeSentence_82 rfl ?_
        refine zw_iload hX dX5_writeSentence_83 rfl ?_
        refine zw_iload hX dX5_writeSentence_85 rfl ?_
        refine zw_iadd hX dX5_writeSentence_87 ?_
        obtain ⟨_, gi, h⟩ := zb_some h
        obtain ⟨r17, g, h⟩ := zb_some h
        refine zc_Vv (as := [.int (i4 + i6)]) hX gi (zt_X5_writeNumber (d := d - 1) (by omega) g) zl_X5_43 rfl dX5_writeSentence_88 ⟨rfl, rfl, Nat.le_of_ble_eq_true rfl⟩ ⟨by omega, by omega⟩ ?_
        refine zw_iinc (v := (i6 + (1 : Int32))) hX dX5_writeSentence_91 rfl rfl (by decide) ?_
        refine zw_goto (tgt := 68) hX dX5_writeSentence_94 (by decide) ?_
        refine zw_sub (lv' := [(0, .ref a0), (4, .int i4), (5, .int i5), (6, .int (i6 + (1 : Int32)))]) (List.forall_mem_cons.mpr ⟨rfl, (List.forall_mem_cons.mpr ⟨rfl, (List.forall_mem_cons.mpr ⟨rfl, (List.forall_mem_cons.mpr ⟨rfl, zs_nil⟩)⟩)⟩)⟩) ?_
        exact ih _ _ h
set_option maxHeartbeats 4000000 in
set_option maxRecDepth 100000 in
theorem zt_X5_writeSentence_J97 {p : Program} {l : Launch} {e : Env} {R : Room} {s : State} {m : MethodId} {args : Array Value} {below : List Frame} {meth : Method} {c : Code} {V : zm_V} {mc ms d rc rs : Nat} (hX : zm_X p R s m args meth c RX5 "writeSentence" cX5_writeSentence 7 zk_E V mc ms) (hr : meth.sig.returnType = (some .int)) (hR : R.frames = d ∧ R.locals = 64 * d) (hd : 4 ≤ d) {N : Nat} {a0 : Nat} {out : (Int32 × zm_S)} {S : zm_S} (h : zf_X5_writeSentence_J97 N a0 S = some out) : zw p l e R s m args below meth c (vx_MQ below (zm_Qc zk_E V (zo_i out)) (zm_XC zk_E V zo_x) args s mc ms (fun q => V.2.2.2.1 ≤ q)) 7 zk_E V mc ms 97 [(0, .ref a0)] [] S rc rs := by
  unfold zf_X5_writeSentence_J97 at h
  refine zw_goto (tgt := 192) hX dX5_writeSentence_97 (by decide) ?_
  refine zw_sub (lv' := [(0, .ref a0)]) (List.forall_mem_cons.mpr ⟨rfl, zs_nil⟩) ?_
  exact zt_X5_writeSentence_J192 hX hr hR hd h
set_option maxHeartbeats 4000000 in
set_option maxRecDepth 100000 in
theorem zt_X5_writeSentence {l : Launch} {V : zm_V} {N : Nat} {S : zm_S} {out : (Int32 × zm_S)} {d : Nat} {a0 : Nat} {i1 : Int32} {i2 : Int32} {i3 : Int32} {i4 : Int32} {i5 : Int32} (hd : 4 ≤ d) (h : zf_X5_writeSentence N a0 i1 i2 i3 i4 i5 S = some out) : zm_Met l zk_E V yX5_writeSentence (.code yX5_writeSentence cX5_writeSentence 7 (some .int)) d [.ref a0, .int i1, .int i2, .int i3, .int i4, .int i5] S 0 0 (zo_i out) zo_x := by
  refine zm_of (by decide +kernel) (Nat.le_of_ble_eq_true rfl) ?_
  intro p e R s m args below meth c hRR hX hr hxt
  have hR : R.frames = d ∧ R.locals = 64 * d := by rw [hRR]; exact ⟨rfl, rfl⟩
  have hX : zm_X p R s m args meth c RX5 "writeSentence" cX5_writeSentence 7 zk_E V 0 0 := hX
  unfold zf_X5_writeSentence at h
  refine zw_sub (lv' := [(0, .ref a0), (1, .int i1), (2, .int i2), (3, .int i3), (4, .int i4), (5, .int i5)]) (List.forall_mem_cons.mpr ⟨rfl, (List.forall_mem_cons.mpr ⟨rfl, (List.forall_mem_cons.mpr ⟨rfl, (List.forall_mem_cons.mpr ⟨rfl, (List.forall_mem_cons.mpr ⟨rfl, (List.forall_mem_cons.mpr ⟨rfl, zs_nil⟩)⟩)⟩)⟩)⟩)⟩) ?_
  refine zw_aload_n hX dX5_writeSentence_0 rfl ?_
  refine zw_aload_n hX dX5_writeSentence_1 rfl ?_
  obtain ⟨v1, g, h⟩ := zb_some h
  refine zw_geti hX zl_X5_26 dX5_writeSentence_2 g ?_
  obtain ⟨S2, g, h⟩ := zb_some h
  refine zw_putv hX zl_X5_30 zt_5_2 dX5_writeSentence_5 rfl rfl g ?_
  refine zw_iload_n hX dX5_writeSentence_8 rfl ?_
  by_cases c9_0 : (i1).toInt = 0
  · rw [if_pos c9_0] at h
    refine zw_tableIn (off := 31) (tgt := 40) hX dX5_writeSentence_9 (by rw [c9_0]; decide) (by rw [c9_0]; decide) (by rw [c9_0]; decide) (by decide) ?_
    refine zw_aload_n hX dX5_writeSentence_40 rfl ?_
    refine zw_ldc2 (v := (2054123109 : Int64)) hX dX5_writeSentence_41 zl_X5_33 ?_
    refine zw_iload_n hX dX5_writeSentence_44 rfl ?_
    obtain ⟨_, gi, h⟩ := zb_some h
    obtain ⟨r11, g, h⟩ := zb_some h
    refine zc_Vv (as := [.long (2054123109 : Int64), .int i2]) hX gi (zt_X5_writePart (d := d - 1) (by omega) g) zl_X5_35 rfl dX5_writeSentence_45 ⟨rfl, rfl, Nat.le_of_ble_eq_true rfl⟩ ⟨by omega, by omega⟩ ?_
    refine zw_aload_n hX dX5_writeSentence_48 rfl ?_
    refine zw_ldc2 (v := (474147546227 : Int64)) hX dX5_writeSentence_49 zl_X5_39 ?_
    refine zw_iload_n hX dX5_writeSentence_52 rfl ?_
    obtain ⟨_, gi, h⟩ := zb_some h
    obtain ⟨r13, g, h⟩ := zb_some h
    refine zc_Vv (as := [.long (474147546227 : Int64), .int i3]) hX gi (zt_X5_writePart (d := d - 1) (by omega) g) zl_X5_35 rfl dX5_writeSentence_53 ⟨rfl, rfl, Nat.le_of_ble_eq_true rfl⟩ ⟨by omega, by omega⟩ ?_
    refine zw_aload_n hX dX5_writeSentence_56 rfl ?_
    refine zw_ldc2 (v := (28518 : Int64)) hX dX5_writeSentence_57 zl_X5_41 ?_
    refine zw_iload hX dX5_writeSentence_60 rfl ?_
    obtain ⟨_, gi, h⟩ := zb_some h
    obtain ⟨r15, g, h⟩ := zb_some h
    refine zc_Vv (as := [.long (28518 : Int64), .int i4]) hX gi (zt_X5_writePart (d := d - 1) (by omega) g) zl_X5_35 rfl dX5_writeSentence_62 ⟨rfl, rfl, Nat.le_of_ble_eq_true rfl⟩ ⟨by omega, by omega⟩ ?_
    refine zw_iconst (v := (1 : Int32)) hX dX5_writeSentence_65 (by decide) ?_
    refine zw_istore hX dX5_writeSentence_66 (by decide) ?_
    obtain ⟨r, g, h⟩ := zb_some h
    refine zw_sub (lv' := [(0, .ref a0), (4, .int i4), (5, .int i5), (6, .int (1 : Int32))]) (List.forall_mem_cons.mpr ⟨rfl, (List.forall_mem_cons.mpr ⟨rfl, (List.forall_mem_cons.mpr ⟨rfl, (List.forall_mem_cons.mpr ⟨rfl, zs_nil⟩)⟩)⟩)⟩) ?_
    refine zt_X5_writeSentence_L68 hX hr hR hd (res := r) (out := out) a0 i4 i5 ?_ ?_ N _ _ g
    · intro o ho
      subst ho
      exact Option.some.inj h
    · intro  S18 hx
      subst hx
      try dsimp only at h
      refine zw_sub (lv' := [(0, .ref a0)]) (List.forall_mem_cons.mpr ⟨rfl, zs_nil⟩) ?_
      exact zt_X5_writeSentence_J97 hX hr hR hd h
  rw [if_neg c9_0] at h
  by_cases c9_1 : (i1).toInt = 1
  · rw [if_pos c9_1] at h
    refine zw_tableIn (off := 91) (tgt := 100) hX dX5_writeSentence_9 (by rw [c9_1]; decide) (by rw [c9_1]; decide) (by rw [c9_1]; decide) (by decide) ?_
    refine zw_aload_n hX dX5_writeSentence_100 rfl ?_
    refine zw_ldc2 (v := (6382452 : Int64)) hX dX5_writeSentence_101 zl_X5_47 ?_
    refine zw_iload_n hX dX5_writeSentence_104 rfl ?_
    obtain ⟨_, gi, h⟩ := zb_some h
    obtain ⟨r20, g, h⟩ := zb_some h
    refine zc_Vv (as := [.long (6382452 : Int64), .int i2]) hX gi (zt_X5_writePart (d := d - 1) (by omega) g) zl_X5_35 rfl dX5_writeSentence_105 ⟨rfl, rfl, Nat.le_of_ble_eq_true rfl⟩ ⟨by omega, by omega⟩ ?_
    refine zw_aload_n hX dX5_writeSentence_108 rfl ?_
    refine zw_ldc2 (v := (1802071652 : Int64)) hX dX5_writeSentence_109 zl_X5_49 ?_
    refine zw_iload_n hX dX5_writeSentence_112 rfl ?_
    obtain ⟨_, gi, h⟩ := zb_some h
    obtain ⟨r22, g, h⟩ := zb_some h
    refine zc_Vv (as := [.long (1802071652 : Int64), .int i3]) hX gi (zt_X5_writePart (d := d - 1) (by omega) g) zl_X5_35 rfl dX5_writeSentence_113 ⟨rfl, rfl, Nat.le_of_ble_eq_true rfl⟩ ⟨by omega, by omega⟩ ?_
    refine zw_aload_n hX dX5_writeSentence_116 rfl ?_
    refine zw_ldc2 (v := (1918987883 : Int64)) hX dX5_writeSentence_117 zl_X5_51 ?_
    refine zw_iload hX dX5_writeSentence_120 rfl ?_
    obtain ⟨_, gi, h⟩ := zb_some h
    obtain ⟨r24, g, h⟩ := zb_some h
    refine zc_Vv (as := [.long (1918987883 : Int64), .int i4]) hX gi (zt_X5_writePart (d := d - 1) (by omega) g) zl_X5_35 rfl dX5_writeSentence_122 ⟨rfl, rfl, Nat.le_of_ble_eq_true rfl⟩ ⟨by omega, by omega⟩ ?_
    refine zw_aload_n hX dX5_writeSentence_125 rfl ?_
    refine zw_ldc2 (v := (431198331257 : Int64)) hX dX5_writeSentence_126 zl_X5_53 ?_
    refine zw_iload hX dX5_writeSentence_129 rfl ?_
    obtain ⟨_, gi, h⟩ := zb_some h
    obtain ⟨r26, g, h⟩ := zb_some h
    refine zc_Vv (as := [.long (431198331257 : Int64), .int i5]) hX gi (zt_X5_writePart (d := d - 1) (by omega) g) zl_X5_35 rfl dX5_writeSentence_131 ⟨rfl, rfl, Nat.le_of_ble_eq_true rfl⟩ ⟨by omega, by omega⟩ ?_
    refine zw_goto (tgt := 192) hX dX5_writeSentence_134 (by decide) ?_
    refine zw_sub (lv' := [(0, .ref a0)]) (List.forall_mem_cons.mpr ⟨rfl, zs_nil⟩) ?_
    exact zt_X5_writeSentence_J192 hX hr hR hd h
  rw [if_neg c9_1] at h
  by_cases c9_2 : (i1).toInt = 2
  · rw [if_pos c9_2] at h
    refine zw_tableIn (off := 128) (tgt := 137) hX dX5_writeSentence_9 (by rw [c9_2]; decide) (by rw [c9_2]; decide) (by rw [c9_2]; decide) (by decide) ?_
    refine zw_aload_n hX dX5_writeSentence_137 rfl ?_
    refine zw_ldc2 (v := (2003330414 : Int64)) hX dX5_writeSentence_138 zl_X5_55 ?_
    refine zw_iload_n hX dX5_writeSentence_141 rfl ?_
    obtain ⟨_, gi, h⟩ := zb_some h
    obtain ⟨r28, g, h⟩ := zb_some h
    refine zc_Vv (as := [.long (2003330414 : Int64), .int i2]) hX gi (zt_X5_writePart (d := d - 1) (by omega) g) zl_X5_35 rfl dX5_writeSentence_142 ⟨rfl, rfl, Nat.le_of_ble_eq_true rfl⟩ ⟨by omega, by omega⟩ ?_
    refine zw_aload_n hX dX5_writeSentence_145 rfl ?_
    refine zw_ldc2 (v := (1685022067 : Int64)) hX dX5_writeSentence_146 zl_X5_57 ?_
    refine zw_iload_n hX dX5_writeSentence_149 rfl ?_
    obtain ⟨_, gi, h⟩ := zb_some h
    obtain ⟨r30, g, h⟩ := zb_some h
    refine zc_Vv (as := [.long (1685022067 : Int64), .int i3]) hX gi (zt_X5_writePart (d := d - 1) (by omega) g) zl_X5_35 rfl dX5_writeSentence_150 ⟨rfl, rfl, Nat.le_of_ble_eq_true rfl⟩ ⟨by omega, by omega⟩ ?_
    refine zw_goto (tgt := 192) hX dX5_writeSentence_153 (by decide) ?_
    refine zw_sub (lv' := [(0, .ref a0)]) (List.forall_mem_cons.mpr ⟨rfl, zs_nil⟩) ?_
    exact zt_X5_writeSentence_J192 hX hr hR hd h
  rw [if_neg c9_2] at h
  by_cases c9_3 : (i1).toInt = 3
  · rw [if_pos c9_3] at h
    refine zw_tableIn (off := 147) (tgt := 156) hX dX5_writeSentence_9 (by rw [c9_3]; decide) (by rw [c9_3]; decide) (by rw [c9_3]; decide) (by decide) ?_
    refine zw_aload_n hX dX5_writeSentence_156 rfl ?_
    refine zw_ldc2 (v := (2003330414 : Int64)) hX dX5_writeSentence_157 zl_X5_55 ?_
    refine zw_iload_n hX dX5_writeSentence_160 rfl ?_
    obtain ⟨_, gi, h⟩ := zb_some h
    obtain ⟨r32, g, h⟩ := zb_some h
    refine zc_Vv (as := [.long (2003330414 : Int64), .int i2]) hX gi (zt_X5_writePart (d := d - 1) (by omega) g) zl_X5_35 rfl dX5_writeSentence_161 ⟨rfl, rfl, Nat.le_of_ble_eq_true rfl⟩ ⟨by omega, by omega⟩ ?_
    refine zw_aload_n hX dX5_writeSentence_164 rfl ?_
    refine zw_ldc2 (v := (38 : Int64)) hX dX5_writeSentence_165 zl_X5_59 ?_
    refine zw_iload_n hX dX5_writeSentence_168 rfl ?_
    obtain ⟨_, gi, h⟩ := zb_some h
    obtain ⟨r34, g, h⟩ := zb_some h
    refine zc_Vv (as := [.long (38 : Int64), .int i3]) hX gi (zt_X5_writePart (d := d - 1) (by omega) g) zl_X5_35 rfl dX5_writeSentence_169 ⟨rfl, rfl, Nat.le_of_ble_eq_true rfl⟩ ⟨by omega, by omega⟩ ?_
    refine zw_aload_n hX dX5_writeSentence_172 rfl ?_
    refine zw_ldc2 (v := (1685022067 : Int64)) hX dX5_writeSentence_173 zl_X5_57 ?_
    refine zw_iload hX dX5_writeSentence_176 rfl ?_
    obtain ⟨_, gi, h⟩ := zb_some h
    obtain ⟨r36, g, h⟩ := zb_some h
    refine zc_Vv (as := [.long (1685022067 : Int64), .int i4]) hX gi (zt_X5_writePart (d := d - 1) (by omega) g) zl_X5_35 rfl dX5_writeSentence_178 ⟨rfl, rfl, Nat.le_of_ble_eq_true rfl⟩ ⟨by omega, by omega⟩ ?_
    refine zw_goto (tgt := 192) hX dX5_writeSentence_181 (by decide) ?_
    refine zw_sub (lv' := [(0, .ref a0)]) (List.forall_mem_cons.mpr ⟨rfl, zs_nil⟩) ?_
    exact zt_X5_writeSentence_J192 hX hr hR hd h
  rw [if_neg c9_3] at h
  refine zw_tableOut (tgt := 184) hX dX5_writeSentence_9 (by omega) (by decide) ?_
  refine zw_aload_n hX dX5_writeSentence_184 rfl ?_
  refine zw_ldc2 (v := (1752132708 : Int64)) hX dX5_writeSentence_185 zl_X5_61 ?_
  refine zw_iload_n hX dX5_writeSentence_188 rfl ?_
  obtain ⟨_, gi, h⟩ := zb_some h
  obtain ⟨r4, g, h⟩ := zb_some h
  refine zc_Vv (as := [.long (1752132708 : Int64), .int i2]) hX gi (zt_X5_writePart (d := d - 1) (by omega) g) zl_X5_35 rfl dX5_writeSentence_189 ⟨rfl, rfl, Nat.le_of_ble_eq_true rfl⟩ ⟨by omega, by omega⟩ ?_
  refine zw_sub (lv' := [(0, .ref a0)]) (List.forall_mem_cons.mpr ⟨rfl, zs_nil⟩) ?_
  exact zt_X5_writeSentence_J192 hX hr hR hd h
set_option maxHeartbeats 4000000 in
set_option maxRecDepth 100000 in
theorem zt_X5_forgetTables_L7 {p : Program} {l : Launch} {e : Env} {R : Room} {s : State} {m : MethodId} {args : Array Value} {below : List Frame} {meth : Method} {c : Code} {V : zm_V} {mc ms d rc rs : Nat} (hX : zm_X p R s m args meth c RX5 "forgetTables" cX5_forgetTables 2 zk_E V mc ms) (hr : meth.sig.returnType = none) (hR : R.frames = d ∧ R.locals = 64 * d) (hd : 2 ≤ d) {N : Nat} {res : (Unit × zm_S) ⊕ ((Unit) × zm_S)} {out : (Unit × zm_S)} (a0 : Nat) (hf : ∀ o, res = .inl o → o = out) (hk : ∀ (S' : zm_S), res = .inr ((), S') → zw p l e R s m args below meth c (vx_MQ below (zm_Qc zk_E V (zo_v out)) (zm_XC zk_E V zo_x) args s mc ms (fun q => V.2.2.2.1 ≤ q)) 2 zk_E V mc ms 29 [(0, .ref a0)] [] S' rc rs) : ∀ (n : Nat) (i1 : Int32) (S : zm_S), zf_X5_forgetTables_L7 N n a0 i1 S = some res → zw p l e R s m args below meth c (vx_MQ below (zm_Qc zk_E V (zo_v out)) (zm_XC zk_E V zo_x) args s mc ms (fun q => V.2.2.2.1 ≤ q)) 2 zk_E V mc ms 7 [(0, .ref a0), (1, .int i1)] [] S rc rs := by
  intro n
  induction n with
  | zero => intro i1 S h; cases h
  | succ n ih =>
    intro i1 S h
    rw [zf_X5_forgetTables_L7] at h
    refine zw_iload_n hX dX5_forgetTables_7 rfl ?_
    refine zw_bipush (v := (20 : Int32)) hX dX5_forgetTables_8 (by decide) ?_
    refine zw_icmp_ge (tgt := 29) hX dX5_forgetTables_10 (by decide) (fun c10 => ?_) (fun c10 => ?_)
    · rw [if_pos c10] at h
      refine zw_sub (lv' := [(0, .ref a0)]) (List.forall_mem_cons.mpr ⟨rfl, zs_nil⟩) ?_
      exact hk  _ (Option.some.inj h).symm
    · rw [if_neg c10] at h
      refine zw_aload_n hX dX5_forgetTables_13 rfl ?_
      obtain ⟨b2, g, h⟩ := zb_some h
      refine zw_getr hX zl_X5_17 dX5_forgetTables_14 g ?_
      refine zw_iload_n hX dX5_forgetTables_17 rfl ?_
      obtain ⟨b3, g, h⟩ := zb_some h
      refine zw_xr hX dX5_forgetTables_18 g ?_
      refine zw_iconst (v := (0 : Int32)) hX dX5_forgetTables_19 (by decide) ?_
      obtain ⟨r5, g, h⟩ := zb_some h
      refine zc_Sv (as := [.ref b3, .int (0 : Int32)]) hX (zt_J7_fill_53178 (d := d - 1) (by omega) g) zl_X5_94 dX5_forgetTables_20 ⟨rfl, rfl, Nat.le_of_ble_eq_true rfl⟩ ⟨by omega, by omega⟩ ?_
      refine zw_iinc (v := (i1 + (1 : Int32))) hX dX5_forgetTables_23 rfl rfl (by decide) ?_
      refine zw_goto (tgt := 7) hX dX5_forgetTables_26 (by decide) ?_
      refine zw_sub (lv' := [(0, .ref a0), (1, .int (i1 + (1 : Int32)))]) (List.forall_mem_cons.mpr ⟨rfl, (List.forall_mem_cons.mpr ⟨rfl, zs_nil⟩)⟩) ?_
      exact ih _ _ h
set_option maxHeartbeats 4000000 in
set_option maxRecDepth 100000 in
theorem zt_X5_forgetTables_L31 {p : Program} {l : Launch} {e : Env} {R : Room} {s : State} {m : MethodId} {args : Array Value} {below : List Frame} {meth : Method} {c : Code} {V : zm_V} {mc ms d rc rs : Nat} (hX : zm_X p R s m args meth c RX5 "forgetTables" cX5_forgetTables 2 zk_E V mc ms) (hr : meth.sig.returnType = none) (hR : R.frames = d ∧ R.locals = 64 * d) (hd : 2 ≤ d) {N : Nat} {res : (Unit × zm_S) ⊕ ((Unit) × zm_S)} {out : (Unit × zm_S)} (a0 : Nat) (hf : ∀ o, res = .inl o → o = out) (hk : ∀ (S' : zm_S), res = .inr ((), S') → zw p l e R s m args below meth c (vx_MQ below (zm_Qc zk_E V (zo_v out)) (zm_XC zk_E V zo_x) args s mc ms (fun q => V.2.2.2.1 ≤ q)) 2 zk_E V mc ms 53 [] [] S' rc rs) : ∀ (n : Nat) (i1 : Int32) (S : zm_S), zf_X5_forgetTables_L31 N n a0 i1 S = some res → zw p l e R s m args below meth c (vx_MQ below (zm_Qc zk_E V (zo_v out)) (zm_XC zk_E V zo_x) args s mc ms (fun q => V.2.2.2.1 ≤ q)) 2 zk_E V mc ms 31 [(0, .ref a0), (1, .int i1)] [] S rc rs := by
  intro n
  induction n with
  | zero => intro i1 S h; cases h
  | succ n ih =>
    intro i1 S h
    rw [zf_X5_forgetTables_L31] at h
    refine zw_iload_n hX dX5_forgetTables_31 rfl ?_
    refine zw_bipush (v := (20 : Int32)) hX dX5_forgetTables_32 (by decide) ?_
    refine zw_icmp_ge (tgt := 53) hX dX5_forgetTables_34 (by decide) (fun c34 => ?_) (fun c34 => ?_)
    · rw [if_pos c34] at h
      refine zw_sub (lv' := []) zs_nil ?_
      exact hk  _ (Option.some.inj h).symm
    · rw [if_neg c34] at h
      refine zw_aload_n hX dX5_forgetTables_37 rfl ?_
      obtain ⟨b7, g, h⟩ := zb_some h
      refine zw_getr hX zl_X5_20 dX5_forgetTables_38 g ?_
      refine zw_iload_n hX dX5_forgetTables_41 rfl ?_
      obtain ⟨b8, g, h⟩ := zb_some h
      refine zw_xr hX dX5_forgetTables_42 g ?_
      refine zw_iconst (v := (0 : Int32)) hX dX5_forgetTables_43 (by decide) ?_
      obtain ⟨r10, g, h⟩ := zb_some h
      refine zc_Sv (as := [.ref b8, .int (0 : Int32)]) hX (zt_J7_fill_53178 (d := d - 1) (by omega) g) zl_X5_94 dX5_forgetTables_44 ⟨rfl, rfl, Nat.le_of_ble_eq_true rfl⟩ ⟨by omega, by omega⟩ ?_
      refine zw_iinc (v := (i1 + (1 : Int32))) hX dX5_forgetTables_47 rfl rfl (by decide) ?_
      refine zw_goto (tgt := 31) hX dX5_forgetTables_50 (by decide) ?_
      refine zw_sub (lv' := [(0, .ref a0), (1, .int (i1 + (1 : Int32)))]) (List.forall_mem_cons.mpr ⟨rfl, (List.forall_mem_cons.mpr ⟨rfl, zs_nil⟩)⟩) ?_
      exact ih _ _ h
set_option maxHeartbeats 4000000 in
set_option maxRecDepth 100000 in
theorem zt_X5_forgetTables {l : Launch} {V : zm_V} {N : Nat} {S : zm_S} {out : (Unit × zm_S)} {d : Nat} {a0 : Nat} (hd : 2 ≤ d) (h : zf_X5_forgetTables N a0 S = some out) : zm_Met l zk_E V yX5_forgetTables (.code yX5_forgetTables cX5_forgetTables 2 none) d [.ref a0] S 0 0 (zo_v out) zo_x := by
  refine zm_of (by decide +kernel) (Nat.le_of_ble_eq_true rfl) ?_
  intro p e R s m args below meth c hRR hX hr hxt
  have hR : R.frames = d ∧ R.locals = 64 * d := by rw [hRR]; exact ⟨rfl, rfl⟩
  have hX : zm_X p R s m args meth c RX5 "forgetTables" cX5_forgetTables 2 zk_E V 0 0 := hX
  unfold zf_X5_forgetTables at h
  refine zw_sub (lv' := [(0, .ref a0)]) (List.forall_mem_cons.mpr ⟨rfl, zs_nil⟩) ?_
  refine zw_aload_n hX dX5_forgetTables_0 rfl ?_
  refine zw_iconst (v := (0 : Int32)) hX dX5_forgetTables_1 (by decide) ?_
  obtain ⟨S1, g, h⟩ := zb_some h
  refine zw_putv hX zl_X5_91 zt_5_12 dX5_forgetTables_2 rfl rfl g ?_
  refine zw_iconst (v := (0 : Int32)) hX dX5_forgetTables_5 (by decide) ?_
  refine zw_istore_n hX dX5_forgetTables_6 (by decide) ?_
  obtain ⟨r, g, h⟩ := zb_some h
  refine zw_sub (lv' := [(0, .ref a0), (1, .int (0 : Int32))]) (List.forall_mem_cons.mpr ⟨rfl, (List.forall_mem_cons.mpr ⟨rfl, zs_nil⟩)⟩) ?_
  refine zt_X5_forgetTables_L7 hX hr hR hd (res := r) (out := out) a0 ?_ ?_ N _ _ g
  · intro o ho
    subst ho
    exact Option.some.inj h
  · intro  S6 hx
    subst hx
    try dsimp only at h
    refine zw_iconst (v := (0 : Int32)) hX dX5_forgetTables_29 (by decide) ?_
    refine zw_istore_n hX dX5_forgetTables_30 (by decide) ?_
    obtain ⟨r, g, h⟩ := zb_some h
    refine zw_sub (lv' := [(0, .ref a0), (1, .int (0 : Int32))]) (List.forall_mem_cons.mpr ⟨rfl, (List.forall_mem_cons.mpr ⟨rfl, zs_nil⟩)⟩) ?_
    refine zt_X5_forgetTables_L31 hX hr hR hd (res := r) (out := out) a0 ?_ ?_ N _ _ g
    · intro o ho
      subst ho
      exact Option.some.inj h
    · intro  S11 hx
      subst hx
      try dsimp only at h
      obtain rfl := Option.some.inj h
      exact zw_vret hX hr dX5_forgetTables_53 ⟨rfl, rfl⟩
set_option maxHeartbeats 4000000 in
set_option maxRecDepth 100000 in
theorem zt_X5_kindOf_J30 {p : Program} {l : Launch} {e : Env} {R : Room} {s : State} {m : MethodId} {args : Array Value} {below : List Frame} {meth : Method} {c : Code} {V : zm_V} {mc ms d rc rs : Nat} (hX : zm_X p R s m args meth c RX5 "kindOf" cX5_kindOf 1 zk_E V mc ms) (hr : meth.sig.returnType = (some .int)) (hR : R.frames = d ∧ R.locals = 64 * d) (hd : 1 ≤ d) {N : Nat} {i0 : Int32} {out : (Int32 × zm_S)} {S : zm_S} (h : zf_X5_kindOf_J30 N i0 S = some out) : zw p l e R s m args below meth c (vx_MQ below (zm_Qc zk_E V (zo_i out)) (zm_XC zk_E V zo_x) args s mc ms (fun q => V.2.2.2.1 ≤ q)) 1 zk_E V mc ms 30 [(0, .int i0)] [] S rc rs := by
  unfold zf_X5_kindOf_J30 at h
  refine zw_iload_n hX dX5_kindOf_30 rfl ?_
  refine zw_bipush (v := (59 : Int32)) hX dX5_kindOf_31 (by decide) ?_
  refine zw_icmp_eq (tgt := 42) hX dX5_kindOf_33 (by decide) (fun c33 => ?_) (fun c33 => ?_)
  · rw [if_pos c33] at h
    refine zw_iload_n hX dX5_kindOf_42 rfl ?_
    refine zw_goto (tgt := 48) hX dX5_kindOf_43 (by decide) ?_
    obtain rfl := Option.some.inj h
    exact zw_iret hX hr dX5_kindOf_48 rfl ⟨rfl, rfl⟩
  · rw [if_neg c33] at h
    refine zw_iload_n hX dX5_kindOf_36 rfl ?_
    refine zw_bipush (v := (38 : Int32)) hX dX5_kindOf_37 (by decide) ?_
    refine zw_icmp_ne (tgt := 46) hX dX5_kindOf_39 (by decide) (fun c39 => ?_) (fun c39 => ?_)
    · rw [if_neg c39] at h
      refine zw_bipush (v := (63 : Int32)) hX dX5_kindOf_46 (by decide) ?_
      obtain rfl := Option.some.inj h
      exact zw_iret hX hr dX5_kindOf_48 rfl ⟨rfl, rfl⟩
    · rw [if_pos c39] at h
      refine zw_iload_n hX dX5_kindOf_42 rfl ?_
      refine zw_goto (tgt := 48) hX dX5_kindOf_43 (by decide) ?_
      obtain rfl := Option.some.inj h
      exact zw_iret hX hr dX5_kindOf_48 rfl ⟨rfl, rfl⟩
set_option maxHeartbeats 4000000 in
set_option maxRecDepth 100000 in
theorem zt_X5_kindOf_J15 {p : Program} {l : Launch} {e : Env} {R : Room} {s : State} {m : MethodId} {args : Array Value} {below : List Frame} {meth : Method} {c : Code} {V : zm_V} {mc ms d rc rs : Nat} (hX : zm_X p R s m args meth c RX5 "kindOf" cX5_kindOf 1 zk_E V mc ms) (hr : meth.sig.returnType = (some .int)) (hR : R.frames = d ∧ R.locals = 64 * d) (hd : 1 ≤ d) {N : Nat} {i0 : Int32} {out : (Int32 × zm_S)} {S : zm_S} (h : zf_X5_kindOf_J15 N i0 S = some out) : zw p l e R s m args below meth c (vx_MQ below (zm_Qc zk_E V (zo_i out)) (zm_XC zk_E V zo_x) args s mc ms (fun q => V.2.2.2.1 ≤ q)) 1 zk_E V mc ms 15 [(0, .int i0)] [] S rc rs := by
  unfold zf_X5_kindOf_J15 at h
  refine zw_iload_n hX dX5_kindOf_15 rfl ?_
  refine zw_bipush (v := (48 : Int32)) hX dX5_kindOf_16 (by decide) ?_
  refine zw_icmp_lt (tgt := 30) hX dX5_kindOf_18 (by decide) (fun c18 => ?_) (fun c18 => ?_)
  · rw [if_pos c18] at h
    refine zw_sub (lv' := [(0, .int i0)]) (List.forall_mem_cons.mpr ⟨rfl, zs_nil⟩) ?_
    exact zt_X5_kindOf_J30 hX hr hR hd h
  · rw [if_neg c18] at h
    refine zw_iload_n hX dX5_kindOf_21 rfl ?_
    refine zw_bipush (v := (57 : Int32)) hX dX5_kindOf_22 (by decide) ?_
    refine zw_icmp_gt (tgt := 30) hX dX5_kindOf_24 (by decide) (fun c24 => ?_) (fun c24 => ?_)
    · rw [if_pos c24] at h
      refine zw_sub (lv' := [(0, .int i0)]) (List.forall_mem_cons.mpr ⟨rfl, zs_nil⟩) ?_
      exact zt_X5_kindOf_J30 hX hr hR hd h
    · rw [if_neg c24] at h
      refine zw_bipush (v := (48 : Int32)) hX dX5_kindOf_27 (by decide) ?_
      obtain rfl := Option.some.inj h
      exact zw_iret hX hr dX5_kindOf_29 rfl ⟨rfl, rfl⟩
set_option maxHeartbeats 4000000 in
set_option maxRecDepth 100000 in
theorem zt_X5_kindOf {l : Launch} {V : zm_V} {N : Nat} {S : zm_S} {out : (Int32 × zm_S)} {d : Nat} {i0 : Int32} (hd : 1 ≤ d) (h : zf_X5_kindOf N i0 S = some out) : zm_Met l zk_E V yX5_kindOf (.code yX5_kindOf cX5_kindOf 1 (some .int)) d [.int i0] S 0 0 (zo_i out) zo_x := by
  refine zm_of (by decide +kernel) (Nat.le_of_ble_eq_true rfl) ?_
  intro p e R s m args below meth c hRR hX hr hxt
  have hR : R.frames = d ∧ R.locals = 64 * d := by rw [hRR]; exact ⟨rfl, rfl⟩
  have hX : zm_X p R s m args meth c RX5 "kindOf" cX5_kindOf 1 zk_E V 0 0 := hX
  unfold zf_X5_kindOf at h
  refine zw_sub (lv' := [(0, .int i0)]) (List.forall_mem_cons.mpr ⟨rfl, zs_nil⟩) ?_
  refine zw_iload_n hX dX5_kindOf_0 rfl ?_
  refine zw_bipush (v := (97 : Int32)) hX dX5_kindOf_1 (by decide) ?_
  refine zw_icmp_lt (tgt := 15) hX dX5_kindOf_3 (by decide) (fun c3 => ?_) (fun c3 => ?_)
  · rw [if_pos c3] at h
    refine zw_sub (lv' := [(0, .int i0)]) (List.forall_mem_cons.mpr ⟨rfl, zs_nil⟩) ?_
    exact zt_X5_kindOf_J15 hX hr hR hd h
  · rw [if_neg c3] at h
    refine zw_iload_n hX dX5_kindOf_6 rfl ?_
    refine zw_bipush (v := (122 : Int32)) hX dX5_kindOf_7 (by decide) ?_
    refine zw_icmp_gt (tgt := 15) hX dX5_kindOf_9 (by decide) (fun c9 => ?_) (fun c9 => ?_)
    · rw [if_pos c9] at h
      refine zw_sub (lv' := [(0, .int i0)]) (List.forall_mem_cons.mpr ⟨rfl, zs_nil⟩) ?_
      exact zt_X5_kindOf_J15 hX hr hR hd h
    · rw [if_neg c9] at h
      refine zw_bipush (v := (97 : Int32)) hX dX5_kindOf_12 (by decide) ?_
      obtain rfl := Option.some.inj h
      exact zw_iret hX hr dX5_kindOf_14 rfl ⟨rfl, rfl⟩
set_option maxHeartbeats 4000000 in
set_option maxRecDepth 100000 in
theorem zt_X5_nextWord_L5 {p : Program} {l : Launch} {e : Env} {R : Room} {s : State} {m : MethodId} {args : Array Value} {below : List Frame} {meth : Method} {c : Code} {V : zm_V} {mc ms d rc rs : Nat} (hX : zm_X p R s m args meth c RX5 "nextWord" cX5_nextWord 3 zk_E V mc ms) (hr : meth.sig.returnType = none) (hR : R.frames = d ∧ R.locals = 64 * d) (hd : 2 ≤ d) {N : Nat} {res : (Unit × zm_S) ⊕ ((Int32) × zm_S)} {out : (Unit × zm_S)} (a0 : Nat) (hf : ∀ o, res = .inl o → o = out) (hk : ∀ (x1 : Int32) (S' : zm_S), res = .inr (x1, S') → zw p l e R s m args below meth c (vx_MQ below (zm_Qc zk_E V (zo_v out)) (zm_XC zk_E V zo_x) args s mc ms (fun q => V.2.2.2.1 ≤ q)) 3 zk_E V mc ms 41 [(0, .ref a0), (1, .int x1)] [] S' rc rs) : ∀ (n : Nat) (i1 : Int32) (S : zm_S), zf_X5_nextWord_L5 N n a0 i1 S = some res → zw p l e R s m args below meth c (vx_MQ below (zm_Qc zk_E V (zo_v out)) (zm_XC zk_E V zo_x) args s mc ms (fun q => V.2.2.2.1 ≤ q)) 3 zk_E V mc ms 5 [(0, .ref a0), (1, .int i1)] [] S rc rs := by
  intro n
  induction n with
  | zero => intro i1 S h; cases h
  | succ n ih =>
    intro i1 S h
    rw [zf_X5_nextWord_L5] at h
    refine zw_iload_n hX dX5_nextWord_5 rfl ?_
    refine zw_aload_n hX dX5_nextWord_6 rfl ?_
    obtain ⟨v2, g, h⟩ := zb_some h
    refine zw_geti hX zl_X5_26 dX5_nextWord_7 g ?_
    refine zw_icmp_ge (tgt := 41) hX dX5_nextWord_10 (by decide) (fun c10 => ?_) (fun c10 => ?_)
    · rw [if_pos c10] at h
      refine zw_sub (lv' := [(0, .ref a0), (1, .int i1)]) (List.forall_mem_cons.mpr ⟨rfl, (List.forall_mem_cons.mpr ⟨rfl, zs_nil⟩)⟩) ?_
      exact hk _ _ (Option.some.inj h).symm
    · rw [if_neg c10] at h
      refine zw_aload_n hX dX5_nextWord_13 rfl ?_
      obtain ⟨b3, g, h⟩ := zb_some h
      refine zw_getr hX zl_X5_11 dX5_nextWord_14 g ?_
      refine zw_iload_n hX dX5_nextWord_17 rfl ?_
      obtain ⟨v4, g, h⟩ := zb_some h
      refine zw_xc hX dX5_nextWord_18 g ?_
      refine zw_bipush (v := (32 : Int32)) hX dX5_nextWord_19 (by decide) ?_
      refine zw_icmp_eq (tgt := 35) hX dX5_nextWord_21 (by decide) (fun c21 => ?_) (fun c21 => ?_)
      · rw [if_pos c21] at h
        refine zw_iinc (v := (i1 + (1 : Int32))) hX dX5_nextWord_35 rfl rfl (by decide) ?_
        refine zw_goto (tgt := 5) hX dX5_nextWord_38 (by decide) ?_
        refine zw_sub (lv' := [(0, .ref a0), (1, .int (i1 + (1 : Int32)))]) (List.forall_mem_cons.mpr ⟨rfl, (List.forall_mem_cons.mpr ⟨rfl, zs_nil⟩)⟩) ?_
        exact ih _ _ h
      · rw [if_neg c21] at h
        refine zw_aload_n hX dX5_nextWord_24 rfl ?_
        obtain ⟨b5, g, h⟩ := zb_some h
        refine zw_getr hX zl_X5_11 dX5_nextWord_25 g ?_
        refine zw_iload_n hX dX5_nextWord_28 rfl ?_
        obtain ⟨v6, g, h⟩ := zb_some h
        refine zw_xc hX dX5_nextWord_29 g ?_
        refine zw_bipush (v := (10 : Int32)) hX dX5_nextWord_30 (by decide) ?_
        refine zw_icmp_ne (tgt := 41) hX dX5_nextWord_32 (by decide) (fun c32 => ?_) (fun c32 => ?_)
        · rw [if_neg c32] at h
          refine zw_sub (lv' := [(0, .ref a0), (1, .int i1)]) (List.forall_mem_cons.mpr ⟨rfl, (List.forall_mem_cons.mpr ⟨rfl, zs_nil⟩)⟩) ?_
          exact hk _ _ (Option.some.inj h).symm
        · rw [if_pos c32] at h
          refine zw_iinc (v := (i1 + (1 : Int32))) hX dX5_nextWord_35 rfl rfl (by decide) ?_
          refine zw_goto (tgt := 5) hX dX5_nextWord_38 (by decide) ?_
          refine zw_sub (lv' := [(0, .ref a0), (1, .int (i1 + (1 : Int32)))]) (List.forall_mem_cons.mpr ⟨rfl, (List.forall_mem_cons.mpr ⟨rfl, zs_nil⟩)⟩) ?_
          exact ih _ _ h
set_option maxHeartbeats 4000000 in
set_option maxRecDepth 100000 in
theorem zt_X5_nextWord_L111 {p : Program} {l : Launch} {e : Env} {R : Room} {s : State} {m : MethodId} {args : Array Value} {below : List Frame} {meth : Method} {c : Code} {V : zm_V} {mc ms d rc rs : Nat} (hX : zm_X p R s m args meth c RX5 "nextWord" cX5_nextWord 3 zk_E V mc ms) (hr : meth.sig.returnType = none) (hR : R.frames = d ∧ R.locals = 64 * d) (hd : 2 ≤ d) {N : Nat} {res : (Unit × zm_S) ⊕ ((Int32) × zm_S)} {out : (Unit × zm_S)} (a0 : Nat) (i2 : Int32) (hf : ∀ o, res = .inl o → o = out) (hk : ∀ (x1 : Int32) (S' : zm_S), res = .inr (x1, S') → zw p l e R s m args below meth c (vx_MQ below (zm_Qc zk_E V (zo_v out)) (zm_XC zk_E V zo_x) args s mc ms (fun q => V.2.2.2.1 ≤ q)) 3 zk_E V mc ms 164 [(0, .ref a0), (1, .int x1), (2, .int i2)] [] S' rc rs) : ∀ (n : Nat) (i1 : Int32) (S : zm_S), zf_X5_nextWord_L111 N n a0 i1 i2 S = some res → zw p l e R s m args below meth c (vx_MQ below (zm_Qc zk_E V (zo_v out)) (zm_XC zk_E V zo_x) args s mc ms (fun q => V.2.2.2.1 ≤ q)) 3 zk_E V mc ms 111 [(0, .ref a0), (1, .int i1), (2, .int i2)] [] S rc rs := by
  intro n
  induction n with
  | zero => intro i1 S h; cases h
  | succ n ih =>
    intro i1 S h
    rw [zf_X5_nextWord_L111] at h
    refine zw_iload_n hX dX5_nextWord_111 rfl ?_
    refine zw_if_eq (tgt := 164) hX dX5_nextWord_112 (by decide) (fun c112 => ?_) (fun c112 => ?_)
    · rw [if_pos c112] at h
      refine zw_sub (lv' := [(0, .ref a0), (1, .int i1), (2, .int i2)]) (List.forall_mem_cons.mpr ⟨rfl, (List.forall_mem_cons.mpr ⟨rfl, (List.forall_mem_cons.mpr ⟨rfl, zs_nil⟩)⟩)⟩) ?_
      exact hk _ _ (Option.some.inj h).symm
    · rw [if_neg c112] at h
      refine zw_iload_n hX dX5_nextWord_115 rfl ?_
      refine zw_aload_n hX dX5_nextWord_116 rfl ?_
      obtain ⟨v16, g, h⟩ := zb_some h
      refine zw_geti hX zl_X5_26 dX5_nextWord_117 g ?_
      refine zw_icmp_ge (tgt := 164) hX dX5_nextWord_120 (by decide) (fun c120 => ?_) (fun c120 => ?_)
      · rw [if_pos c120] at h
        refine zw_sub (lv' := [(0, .ref a0), (1, .int i1), (2, .int i2)]) (List.forall_mem_cons.mpr ⟨rfl, (List.forall_mem_cons.mpr ⟨rfl, (List.forall_mem_cons.mpr ⟨rfl, zs_nil⟩)⟩)⟩) ?_
        exact hk _ _ (Option.some.inj h).symm
      · rw [if_neg c120] at h
        refine zw_aload_n hX dX5_nextWord_123 rfl ?_
        obtain ⟨b17, g, h⟩ := zb_some h
        refine zw_getr hX zl_X5_11 dX5_nextWord_124 g ?_
        refine zw_iload_n hX dX5_nextWord_127 rfl ?_
        obtain ⟨v18, g, h⟩ := zb_some h
        refine zw_xc hX dX5_nextWord_128 g ?_
        obtain ⟨r20, g, h⟩ := zb_some h
        refine zc_Si (as := [.int v18]) hX (zt_X5_kindOf (d := d - 1) (by omega) g) zl_X5_107 dX5_nextWord_129 ⟨rfl, rfl, Nat.le_of_ble_eq_true rfl⟩ ⟨by omega, by omega⟩ ?_
        refine zw_aload_n hX dX5_nextWord_132 rfl ?_
        obtain ⟨v21, g, h⟩ := zb_some h
        refine zw_geti hX zl_X5_84 dX5_nextWord_133 g ?_
        refine zw_icmp_ne (tgt := 164) hX dX5_nextWord_136 (by decide) (fun c136 => ?_) (fun c136 => ?_)
        · rw [if_neg c136] at h
          refine zw_sub (lv' := [(0, .ref a0), (1, .int i1), (2, .int i2)]) (List.forall_mem_cons.mpr ⟨rfl, (List.forall_mem_cons.mpr ⟨rfl, (List.forall_mem_cons.mpr ⟨rfl, zs_nil⟩)⟩)⟩) ?_
          exact hk _ _ (Option.some.inj h).symm
        · rw [if_pos c136] at h
          refine zw_aload_n hX dX5_nextWord_139 rfl ?_
          refine zw_aload_n hX dX5_nextWord_140 rfl ?_
          obtain ⟨w22, g, h⟩ := zb_some h
          refine zw_getl hX zl_X5_103 dX5_nextWord_141 g ?_
          refine zw_bipush (v := (8 : Int32)) hX dX5_nextWord_144 (by decide) ?_
          refine zw_lshl hX dX5_nextWord_146 ?_
          refine zw_aload_n hX dX5_nextWord_147 rfl ?_
          obtain ⟨b23, g, h⟩ := zb_some h
          refine zw_getr hX zl_X5_11 dX5_nextWord_148 g ?_
          refine zw_iload_n hX dX5_nextWord_151 rfl ?_
          obtain ⟨v24, g, h⟩ := zb_some h
          refine zw_xc hX dX5_nextWord_152 g ?_
          refine zw_i2l hX dX5_nextWord_153 ?_
          refine zw_lor hX dX5_nextWord_154 ?_
          obtain ⟨S25, g, h⟩ := zb_some h
          refine zw_putv hX zl_X5_103 zt_5_8 dX5_nextWord_155 rfl rfl g ?_
          refine zw_iinc (v := (i1 + (1 : Int32))) hX dX5_nextWord_158 rfl rfl (by decide) ?_
          refine zw_goto (tgt := 111) hX dX5_nextWord_161 (by decide) ?_
          refine zw_sub (lv' := [(0, .ref a0), (1, .int (i1 + (1 : Int32))), (2, .int i2)]) (List.forall_mem_cons.mpr ⟨rfl, (List.forall_mem_cons.mpr ⟨rfl, (List.forall_mem_cons.mpr ⟨rfl, zs_nil⟩)⟩)⟩) ?_
          exact ih _ _ h
set_option maxHeartbeats 4000000 in
set_option maxRecDepth 100000 in
theorem zt_X5_nextWord_J178 {p : Program} {l : Launch} {e : Env} {R : Room} {s : State} {m : MethodId} {args : Array Value} {below : List Frame} {meth : Method} {c : Code} {V : zm_V} {mc ms d rc rs : Nat} (hX : zm_X p R s m args meth c RX5 "nextWord" cX5_nextWord 3 zk_E V mc ms) (hr : meth.sig.returnType = none) (hR : R.frames = d ∧ R.locals = 64 * d) (hd : 2 ≤ d) {N : Nat} {i1 : Int32} {t0 : Nat} {out : (Unit × zm_S)} {S : zm_S} (h : zf_X5_nextWord_J178 N i1 t0 S = some out) : zw p l e R s m args below meth c (vx_MQ below (zm_Qc zk_E V (zo_v out)) (zm_XC zk_E V zo_x) args s mc ms (fun q => V.2.2.2.1 ≤ q)) 3 zk_E V mc ms 178 [(1, .int i1)] [.ref t0] S rc rs := by
  unfold zf_X5_nextWord_J178 at h
  refine zw_iload_n hX dX5_nextWord_178 rfl ?_
  refine zw_goto (tgt := 185) hX dX5_nextWord_179 (by decide) ?_
  obtain ⟨S28, g, h⟩ := zb_some h
  refine zw_putv hX zl_X5_78 zt_5_7 dX5_nextWord_185 rfl rfl g ?_
  obtain rfl := Option.some.inj h
  exact zw_vret hX hr dX5_nextWord_188 ⟨rfl, rfl⟩
set_option maxHeartbeats 4000000 in
set_option maxRecDepth 100000 in
theorem zt_X5_nextWord_J164 {p : Program} {l : Launch} {e : Env} {R : Room} {s : State} {m : MethodId} {args : Array Value} {below : List Frame} {meth : Method} {c : Code} {V : zm_V} {mc ms d rc rs : Nat} (hX : zm_X p R s m args meth c RX5 "nextWord" cX5_nextWord 3 zk_E V mc ms) (hr : meth.sig.returnType = none) (hR : R.frames = d ∧ R.locals = 64 * d) (hd : 2 ≤ d) {N : Nat} {a0 : Nat} {i1 : Int32} {i2 : Int32} {out : (Unit × zm_S)} {S : zm_S} (h : zf_X5_nextWord_J164 N a0 i1 i2 S = some out) : zw p l e R s m args below meth c (vx_MQ below (zm_Qc zk_E V (zo_v out)) (zm_XC zk_E V zo_x) args s mc ms (fun q => V.2.2.2.1 ≤ q)) 3 zk_E V mc ms 164 [(0, .ref a0), (1, .int i1), (2, .int i2)] [] S rc rs := by
  unfold zf_X5_nextWord_J164 at h
  refine zw_aload_n hX dX5_nextWord_164 rfl ?_
  refine zw_iload_n hX dX5_nextWord_165 rfl ?_
  refine zw_if_ne (tgt := 178) hX dX5_nextWord_166 (by decide) (fun c166 => ?_) (fun c166 => ?_)
  · rw [if_neg c166] at h
    refine zw_sub (lv' := [(1, .int i1)]) (List.forall_mem_cons.mpr ⟨rfl, zs_nil⟩) ?_
    exact zt_X5_nextWord_J178 hX hr hR hd h
  · rw [if_pos c166] at h
    refine zw_aload_n hX dX5_nextWord_169 rfl ?_
    obtain ⟨v29, g, h⟩ := zb_some h
    refine zw_geti hX zl_X5_84 dX5_nextWord_170 g ?_
    refine zw_bipush (v := (101 : Int32)) hX dX5_nextWord_173 (by decide) ?_
    refine zw_icmp_ne (tgt := 182) hX dX5_nextWord_175 (by decide) (fun c175 => ?_) (fun c175 => ?_)
    · rw [if_neg c175] at h
      refine zw_iload_n hX dX5_nextWord_182 rfl ?_
      refine zw_iconst (v := (1 : Int32)) hX dX5_nextWord_183 (by decide) ?_
      refine zw_iadd hX dX5_nextWord_184 ?_
      obtain ⟨S30, g, h⟩ := zb_some h
      refine zw_putv hX zl_X5_78 zt_5_7 dX5_nextWord_185 rfl rfl g ?_
      obtain rfl := Option.some.inj h
      exact zw_vret hX hr dX5_nextWord_188 ⟨rfl, rfl⟩
    · rw [if_pos c175] at h
      refine zw_sub (lv' := [(1, .int i1)]) (List.forall_mem_cons.mpr ⟨rfl, zs_nil⟩) ?_
      exact zt_X5_nextWord_J178 hX hr hR hd h
set_option maxHeartbeats 4000000 in
set_option maxRecDepth 100000 in
theorem zt_X5_nextWord_J110 {p : Program} {l : Launch} {e : Env} {R : Room} {s : State} {m : MethodId} {args : Array Value} {below : List Frame} {meth : Method} {c : Code} {V : zm_V} {mc ms d rc rs : Nat} (hX : zm_X p R s m args meth c RX5 "nextWord" cX5_nextWord 3 zk_E V mc ms) (hr : meth.sig.returnType = none) (hR : R.frames = d ∧ R.locals = 64 * d) (hd : 2 ≤ d) {N : Nat} {a0 : Nat} {i1 : Int32} {t0 : Int32} {out : (Unit × zm_S)} {S : zm_S} (h : zf_X5_nextWord_J110 N a0 i1 t0 S = some out) : zw p l e R s m args below meth c (vx_MQ below (zm_Qc zk_E V (zo_v out)) (zm_XC zk_E V zo_x) args s mc ms (fun q => V.2.2.2.1 ≤ q)) 3 zk_E V mc ms 110 [(0, .ref a0), (1, .int i1)] [.int t0] S rc rs := by
  unfold zf_X5_nextWord_J110 at h
  refine zw_istore_n hX dX5_nextWord_110 (by decide) ?_
  obtain ⟨r, g, h⟩ := zb_some h
  refine zw_sub (lv' := [(0, .ref a0), (1, .int i1), (2, .int t0)]) (List.forall_mem_cons.mpr ⟨rfl, (List.forall_mem_cons.mpr ⟨rfl, (List.forall_mem_cons.mpr ⟨rfl, zs_nil⟩)⟩)⟩) ?_
  refine zt_X5_nextWord_L111 hX hr hR hd (res := r) (out := out) a0 t0 ?_ ?_ N _ _ g
  · intro o ho
    subst ho
    exact Option.some.inj h
  · intro v27 S26 hx
    subst hx
    try dsimp only at h
    refine zw_sub (lv' := [(0, .ref a0), (1, .int v27), (2, .int t0)]) (List.forall_mem_cons.mpr ⟨rfl, (List.forall_mem_cons.mpr ⟨rfl, (List.forall_mem_cons.mpr ⟨rfl, zs_nil⟩)⟩)⟩) ?_
    exact zt_X5_nextWord_J164 hX hr hR hd h
set_option maxHeartbeats 4000000 in
set_option maxRecDepth 100000 in
theorem zt_X5_nextWord_J105 {p : Program} {l : Launch} {e : Env} {R : Room} {s : State} {m : MethodId} {args : Array Value} {below : List Frame} {meth : Method} {c : Code} {V : zm_V} {mc ms d rc rs : Nat} (hX : zm_X p R s m args meth c RX5 "nextWord" cX5_nextWord 3 zk_E V mc ms) (hr : meth.sig.returnType = none) (hR : R.frames = d ∧ R.locals = 64 * d) (hd : 2 ≤ d) {N : Nat} {a0 : Nat} {i1 : Int32} {out : (Unit × zm_S)} {S : zm_S} (h : zf_X5_nextWord_J105 N a0 i1 S = some out) : zw p l e R s m args below meth c (vx_MQ below (zm_Qc zk_E V (zo_v out)) (zm_XC zk_E V zo_x) args s mc ms (fun q => V.2.2.2.1 ≤ q)) 3 zk_E V mc ms 105 [(0, .ref a0), (1, .int i1)] [] S rc rs := by
  unfold zf_X5_nextWord_J105 at h
  refine zw_iconst (v := (1 : Int32)) hX dX5_nextWord_105 (by decide) ?_
  refine zw_goto (tgt := 110) hX dX5_nextWord_106 (by decide) ?_
  refine zw_sub (lv' := [(0, .ref a0), (1, .int i1)]) (List.forall_mem_cons.mpr ⟨rfl, (List.forall_mem_cons.mpr ⟨rfl, zs_nil⟩)⟩) ?_
  exact zt_X5_nextWord_J110 hX hr hR hd h
set_option maxHeartbeats 4000000 in
set_option maxRecDepth 100000 in
theorem zt_X5_nextWord_J84 {p : Program} {l : Launch} {e : Env} {R : Room} {s : State} {m : MethodId} {args : Array Value} {below : List Frame} {meth : Method} {c : Code} {V : zm_V} {mc ms d rc rs : Nat} (hX : zm_X p R s m args meth c RX5 "nextWord" cX5_nextWord 3 zk_E V mc ms) (hr : meth.sig.returnType = none) (hR : R.frames = d ∧ R.locals = 64 * d) (hd : 2 ≤ d) {N : Nat} {a0 : Nat} {i1 : Int32} {t0 : Nat} {t1 : Int32} {out : (Unit × zm_S)} {S : zm_S} (h : zf_X5_nextWord_J84 N a0 i1 t0 t1 S = some out) : zw p l e R s m args below meth c (vx_MQ below (zm_Qc zk_E V (zo_v out)) (zm_XC zk_E V zo_x) args s mc ms (fun q => V.2.2.2.1 ≤ q)) 3 zk_E V mc ms 84 [(0, .ref a0), (1, .int i1)] [.int t1, .ref t0] S rc rs := by
  unfold zf_X5_nextWord_J84 at h
  obtain ⟨S14, g, h⟩ := zb_some h
  refine zw_putv hX zl_X5_84 zt_5_5 dX5_nextWord_84 rfl rfl g ?_
  refine zw_aload_n hX dX5_nextWord_87 rfl ?_
  obtain ⟨v15, g, h⟩ := zb_some h
  refine zw_geti hX zl_X5_84 dX5_nextWord_88 g ?_
  refine zw_bipush (v := (97 : Int32)) hX dX5_nextWord_91 (by decide) ?_
  refine zw_icmp_eq (tgt := 105) hX dX5_nextWord_93 (by decide) (fun c93 => ?_) (fun c93 => ?_)
  · rw [if_pos c93] at h
    refine zw_sub (lv' := [(0, .ref a0), (1, .int i1)]) (List.forall_mem_cons.mpr ⟨rfl, (List.forall_mem_cons.mpr ⟨rfl, zs_nil⟩)⟩) ?_
    exact zt_X5_nextWord_J105 hX hr hR hd h
  · rw [if_neg c93] at h
    refine zw_aload_n hX dX5_nextWord_96 rfl ?_
    obtain ⟨v31, g, h⟩ := zb_some h
    refine zw_geti hX zl_X5_84 dX5_nextWord_97 g ?_
    refine zw_bipush (v := (48 : Int32)) hX dX5_nextWord_100 (by decide) ?_
    refine zw_icmp_ne (tgt := 109) hX dX5_nextWord_102 (by decide) (fun c102 => ?_) (fun c102 => ?_)
    · rw [if_neg c102] at h
      refine zw_iconst (v := (0 : Int32)) hX dX5_nextWord_109 (by decide) ?_
      refine zw_sub (lv' := [(0, .ref a0), (1, .int i1)]) (List.forall_mem_cons.mpr ⟨rfl, (List.forall_mem_cons.mpr ⟨rfl, zs_nil⟩)⟩) ?_
      exact zt_X5_nextWord_J110 hX hr hR hd h
    · rw [if_pos c102] at h
      refine zw_sub (lv' := [(0, .ref a0), (1, .int i1)]) (List.forall_mem_cons.mpr ⟨rfl, (List.forall_mem_cons.mpr ⟨rfl, zs_nil⟩)⟩) ?_
      exact zt_X5_nextWord_J105 hX hr hR hd h
set_option maxHeartbeats 4000000 in
set_option maxRecDepth 100000 in
theorem zt_X5_nextWord_J41 {p : Program} {l : Launch} {e : Env} {R : Room} {s : State} {m : MethodId} {args : Array Value} {below : List Frame} {meth : Method} {c : Code} {V : zm_V} {mc ms d rc rs : Nat} (hX : zm_X p R s m args meth c RX5 "nextWord" cX5_nextWord 3 zk_E V mc ms) (hr : meth.sig.returnType = none) (hR : R.frames = d ∧ R.locals = 64 * d) (hd : 2 ≤ d) {N : Nat} {a0 : Nat} {i1 : Int32} {out : (Unit × zm_S)} {S : zm_S} (h : zf_X5_nextWord_J41 N a0 i1 S = some out) : zw p l e R s m args below meth c (vx_MQ below (zm_Qc zk_E V (zo_v out)) (zm_XC zk_E V zo_x) args s mc ms (fun q => V.2.2.2.1 ≤ q)) 3 zk_E V mc ms 41 [(0, .ref a0), (1, .int i1)] [] S rc rs := by
  unfold zf_X5_nextWord_J41 at h
  refine zw_aload_n hX dX5_nextWord_41 rfl ?_
  refine zw_dup hX dX5_nextWord_42 rfl ?_
  obtain ⟨v9, g, h⟩ := zb_some h
  refine zw_geti hX zl_X5_75 dX5_nextWord_43 g ?_
  refine zw_iconst (v := (1 : Int32)) hX dX5_nextWord_46 (by decide) ?_
  refine zw_iadd hX dX5_nextWord_47 ?_
  obtain ⟨S10, g, h⟩ := zb_some h
  refine zw_putv hX zl_X5_75 zt_5_4 dX5_nextWord_48 rfl rfl g ?_
  refine zw_aload_n hX dX5_nextWord_51 rfl ?_
  refine zw_iload_n hX dX5_nextWord_52 rfl ?_
  obtain ⟨S11, g, h⟩ := zb_some h
  refine zw_putv hX zl_X5_100 zt_5_6 dX5_nextWord_53 rfl rfl g ?_
  refine zw_aload_n hX dX5_nextWord_56 rfl ?_
  refine zw_lconst (v := (0 : Int64)) hX dX5_nextWord_57 (by decide) ?_
  obtain ⟨S12, g, h⟩ := zb_some h
  refine zw_putv hX zl_X5_103 zt_5_8 dX5_nextWord_58 rfl rfl g ?_
  refine zw_aload_n hX dX5_nextWord_61 rfl ?_
  refine zw_iload_n hX dX5_nextWord_62 rfl ?_
  refine zw_aload_n hX dX5_nextWord_63 rfl ?_
  obtain ⟨v13, g, h⟩ := zb_some h
  refine zw_geti hX zl_X5_26 dX5_nextWord_64 g ?_
  refine zw_icmp_ge (tgt := 82) hX dX5_nextWord_67 (by decide) (fun c67 => ?_) (fun c67 => ?_)
  · rw [if_pos c67] at h
    refine zw_bipush (v := (101 : Int32)) hX dX5_nextWord_82 (by decide) ?_
    refine zw_sub (lv' := [(0, .ref a0), (1, .int i1)]) (List.forall_mem_cons.mpr ⟨rfl, (List.forall_mem_cons.mpr ⟨rfl, zs_nil⟩)⟩) ?_
    exact zt_X5_nextWord_J84 hX hr hR hd h
  · rw [if_neg c67] at h
    refine zw_aload_n hX dX5_nextWord_70 rfl ?_
    obtain ⟨b32, g, h⟩ := zb_some h
    refine zw_getr hX zl_X5_11 dX5_nextWord_71 g ?_
    refine zw_iload_n hX dX5_nextWord_74 rfl ?_
    obtain ⟨v33, g, h⟩ := zb_some h
    refine zw_xc hX dX5_nextWord_75 g ?_
    obtain ⟨r35, g, h⟩ := zb_some h
    refine zc_Si (as := [.int v33]) hX (zt_X5_kindOf (d := d - 1) (by omega) g) zl_X5_107 dX5_nextWord_76 ⟨rfl, rfl, Nat.le_of_ble_eq_true rfl⟩ ⟨by omega, by omega⟩ ?_
    refine zw_goto (tgt := 84) hX dX5_nextWord_79 (by decide) ?_
    refine zw_sub (lv' := [(0, .ref a0), (1, .int i1)]) (List.forall_mem_cons.mpr ⟨rfl, (List.forall_mem_cons.mpr ⟨rfl, zs_nil⟩)⟩) ?_
    exact zt_X5_nextWord_J84 hX hr hR hd h
set_option maxHeartbeats 4000000 in
set_option maxRecDepth 100000 in
theorem zt_X5_nextWord {l : Launch} {V : zm_V} {N : Nat} {S : zm_S} {out : (Unit × zm_S)} {d : Nat} {a0 : Nat} (hd : 2 ≤ d) (h : zf_X5_nextWord N a0 S = some out) : zm_Met l zk_E V yX5_nextWord (.code yX5_nextWord cX5_nextWord 3 none) d [.ref a0] S 0 0 (zo_v out) zo_x := by
  refine zm_of (by decide +kernel) (Nat.le_of_ble_eq_true rfl) ?_
  intro p e R s m args below meth c hRR hX hr hxt
  have hR : R.frames = d ∧ R.locals = 64 * d := by rw [hRR]; exact ⟨rfl, rfl⟩
  have hX : zm_X p R s m args meth c RX5 "nextWord" cX5_nextWord 3 zk_E V 0 0 := hX
  unfold zf_X5_nextWord at h
  refine zw_sub (lv' := [(0, .ref a0)]) (List.forall_mem_cons.mpr ⟨rfl, zs_nil⟩) ?_
  refine zw_aload_n hX dX5_nextWord_0 rfl ?_
  obtain ⟨v1, g, h⟩ := zb_some h
  refine zw_geti hX zl_X5_78 dX5_nextWord_1 g ?_
  refine zw_istore_n hX dX5_nextWord_4 (by decide) ?_
  obtain ⟨r, g, h⟩ := zb_some h
  refine zw_sub (lv' := [(0, .ref a0), (1, .int v1)]) (List.forall_mem_cons.mpr ⟨rfl, (List.forall_mem_cons.mpr ⟨rfl, zs_nil⟩)⟩) ?_
  refine zt_X5_nextWord_L5 hX hr hR hd (res := r) (out := out) a0 ?_ ?_ N _ _ g
  · intro o ho
    subst ho
    exact Option.some.inj h
  · intro v8 S7 hx
    subst hx
    try dsimp only at h
    refine zw_sub (lv' := [(0, .ref a0), (1, .int v8)]) (List.forall_mem_cons.mpr ⟨rfl, (List.forall_mem_cons.mpr ⟨rfl, zs_nil⟩)⟩) ?_
    exact zt_X5_nextWord_J41 hX hr hR hd h
set_option maxHeartbeats 4000000 in
set_option maxRecDepth 100000 in
theorem zt_X5_isWord {l : Launch} {V : zm_V} {N : Nat} {S : zm_S} {out : (Int32 × zm_S)} {d : Nat} {a0 : Nat} {j1 : Int64} (hd : 1 ≤ d) (h : zf_X5_isWord N a0 j1 S = some out) : zm_Met l zk_E V yX5_isWord (.code yX5_isWord cX5_isWord 3 (some .boolean)) d [.ref a0, .long j1] S 0 0 (zo_i out) zo_x := by
  refine zm_of (by decide +kernel) (Nat.le_of_ble_eq_true rfl) ?_
  intro p e R s m args below meth c hRR hX hr hxt
  have hR : R.frames = d ∧ R.locals = 64 * d := by rw [hRR]; exact ⟨rfl, rfl⟩
  have hX : zm_X p R s m args meth c RX5 "isWord" cX5_isWord 3 zk_E V 0 0 := hX
  unfold zf_X5_isWord at h
  refine zw_sub (lv' := [(0, .ref a0), (1, .long j1)]) (List.forall_mem_cons.mpr ⟨rfl, (List.forall_mem_cons.mpr ⟨rfl, zs_nil⟩)⟩) ?_
  refine zw_aload_n hX dX5_isWord_0 rfl ?_
  obtain ⟨v1, g, h⟩ := zb_some h
  refine zw_geti hX zl_X5_84 dX5_isWord_1 g ?_
  refine zw_bipush (v := (97 : Int32)) hX dX5_isWord_4 (by decide) ?_
  refine zw_icmp_ne (tgt := 22) hX dX5_isWord_6 (by decide) (fun c6 => ?_) (fun c6 => ?_)
  · rw [if_neg c6] at h
    refine zw_iconst (v := (0 : Int32)) hX dX5_isWord_22 (by decide) ?_
    obtain rfl := Option.some.inj h
    exact zw_iret hX hr dX5_isWord_23 rfl ⟨rfl, rfl⟩
  · rw [if_pos c6] at h
    refine zw_aload_n hX dX5_isWord_9 rfl ?_
    obtain ⟨w2, g, h⟩ := zb_some h
    refine zw_getl hX zl_X5_103 dX5_isWord_10 g ?_
    refine zw_lload_n hX dX5_isWord_13 rfl ?_
    refine zw_lcmp hX dX5_isWord_14 ?_
    refine zw_if_ne (tgt := 22) hX dX5_isWord_15 (by decide) (fun c15 => ?_) (fun c15 => ?_)
    · rw [if_neg c15] at h
      refine zw_iconst (v := (0 : Int32)) hX dX5_isWord_22 (by decide) ?_
      obtain rfl := Option.some.inj h
      exact zw_iret hX hr dX5_isWord_23 rfl ⟨rfl, rfl⟩
    · rw [if_pos c15] at h
      refine zw_iconst (v := (1 : Int32)) hX dX5_isWord_18 (by decide) ?_
      refine zw_goto (tgt := 23) hX dX5_isWord_19 (by decide) ?_
      obtain rfl := Option.some.inj h
      exact zw_iret hX hr dX5_isWord_23 rfl ⟨rfl, rfl⟩
set_option maxHeartbeats 4000000 in
set_option maxRecDepth 100000 in
theorem zt_X5_skipWord {l : Launch} {V : zm_V} {N : Nat} {S : zm_S} {out : (Int32 × zm_S)} {d : Nat} {a0 : Nat} {j1 : Int64} (hd : 3 ≤ d) (h : zf_X5_skipWord N a0 j1 S = some out) : zm_Met l zk_E V yX5_skipWord (.code yX5_skipWord cX5_skipWord 4 (some .boolean)) d [.ref a0, .long j1] S 0 0 (zo_i out) zo_x := by
  refine zm_of (by decide +kernel) (Nat.le_of_ble_eq_true rfl) ?_
  intro p e R s m args below meth c hRR hX hr hxt
  have hR : R.frames = d ∧ R.locals = 64 * d := by rw [hRR]; exact ⟨rfl, rfl⟩
  have hX : zm_X p R s m args meth c RX5 "skipWord" cX5_skipWord 4 zk_E V 0 0 := hX
  unfold zf_X5_skipWord at h
  refine zw_sub (lv' := [(0, .ref a0), (1, .long j1)]) (List.forall_mem_cons.mpr ⟨rfl, (List.forall_mem_cons.mpr ⟨rfl, zs_nil⟩)⟩) ?_
  refine zw_aload_n hX dX5_skipWord_0 rfl ?_
  refine zw_lload_n hX dX5_skipWord_1 rfl ?_
  obtain ⟨_, gi, h⟩ := zb_some h
  obtain ⟨r2, g, h⟩ := zb_some h
  refine zc_Vi (as := [.long j1]) hX gi (zt_X5_isWord (d := d - 1) (by omega) g) zl_X5_111 rfl dX5_skipWord_2 ⟨rfl, rfl, Nat.le_of_ble_eq_true rfl⟩ ⟨by omega, by omega⟩ ?_
  refine zw_istore_n hX dX5_skipWord_5 (by decide) ?_
  refine zw_iload_n hX dX5_skipWord_6 rfl ?_
  refine zw_if_eq (tgt := 14) hX dX5_skipWord_7 (by decide) (fun c7 => ?_) (fun c7 => ?_)
  · rw [if_pos c7] at h
    refine zw_iload_n hX dX5_skipWord_14 rfl ?_
    by_cases cz : r2.1 = 0 ∨ r2.1 = 1
    · rw [if_pos cz] at h
      obtain rfl := Option.some.inj h
      exact zw_iret hX hr dX5_skipWord_15 (zn_z cz) ⟨rfl, rfl⟩
    · rw [if_neg cz] at h
      cases h
  · rw [if_neg c7] at h
    refine zw_aload_n hX dX5_skipWord_10 rfl ?_
    obtain ⟨_, gi, h⟩ := zb_some h
    obtain ⟨r4, g, h⟩ := zb_some h
    refine zc_Vv (as := []) hX gi (zt_X5_nextWord (d := d - 1) (by omega) g) zl_X5_81 rfl dX5_skipWord_11 ⟨rfl, rfl, Nat.le_of_ble_eq_true rfl⟩ ⟨by omega, by omega⟩ ?_
    refine zw_iload_n hX dX5_skipWord_14 rfl ?_
    by_cases cz : r2.1 = 0 ∨ r2.1 = 1
    · rw [if_pos cz] at h
      obtain rfl := Option.some.inj h
      exact zw_iret hX hr dX5_skipWord_15 (zn_z cz) ⟨rfl, rfl⟩
    · rw [if_neg cz] at h
      cases h
set_option maxHeartbeats 4000000 in
set_option maxRecDepth 100000 in
theorem zt_X5_numberHere_L33 {p : Program} {l : Launch} {e : Env} {R : Room} {s : State} {m : MethodId} {args : Array Value} {below : List Frame} {meth : Method} {c : Code} {V : zm_V} {mc ms d rc rs : Nat} (hX : zm_X p R s m args meth c RX5 "numberHere" cX5_numberHere 5 zk_E V mc ms) (hr : meth.sig.returnType = (some .int)) (hR : R.frames = d ∧ R.locals = 64 * d) (hd : 1 ≤ d) {N : Nat} {res : (Int32 × zm_S) ⊕ ((Int32) × zm_S)} {out : (Int32 × zm_S)} (a0 : Nat) (i1 : Int32) (i2 : Int32) (hf : ∀ o, res = .inl o → o = out) (hk : ∀ (x3 : Int32) (S' : zm_S), res = .inr (x3, S') → zw p l e R s m args below meth c (vx_MQ below (zm_Qc zk_E V (zo_i out)) (zm_XC zk_E V zo_x) args s mc ms (fun q => V.2.2.2.1 ≤ q)) 5 zk_E V mc ms 64 [(1, .int i1), (2, .int i2), (3, .int x3)] [] S' rc rs) : ∀ (n : Nat) (i3 : Int32) (i4 : Int32) (S : zm_S), zf_X5_numberHere_L33 N n a0 i1 i2 i3 i4 S = some res → zw p l e R s m args below meth c (vx_MQ below (zm_Qc zk_E V (zo_i out)) (zm_XC zk_E V zo_x) args s mc ms (fun q => V.2.2.2.1 ≤ q)) 5 zk_E V mc ms 33 [(0, .ref a0), (1, .int i1), (2, .int i2), (3, .int i3), (4, .int i4)] [] S rc rs := by
  intro n
  induction n with
  | zero => intro i3 i4 S h; cases h
  | succ n ih =>
    intro i3 i4 S h
    rw [zf_X5_numberHere_L33] at h
    refine zw_iload hX dX5_numberHere_33 rfl ?_
    refine zw_aload_n hX dX5_numberHere_35 rfl ?_
    obtain ⟨v5, g, h⟩ := zb_some h
    refine zw_geti hX zl_X5_78 dX5_numberHere_36 g ?_
    refine zw_icmp_ge (tgt := 64) hX dX5_numberHere_39 (by decide) (fun c39 => ?_) (fun c39 => ?_)
    · rw [if_pos c39] at h
      refine zw_sub (lv' := [(1, .int i1), (2, .int i2), (3, .int i3)]) (List.forall_mem_cons.mpr ⟨rfl, (List.forall_mem_cons.mpr ⟨rfl, (List.forall_mem_cons.mpr ⟨rfl, zs_nil⟩)⟩)⟩) ?_
      exact hk _ _ (Option.some.inj h).symm
    · rw [if_neg c39] at h
      refine zw_iload_n hX dX5_numberHere_42 rfl ?_
      refine zw_bipush (v := (10 : Int32)) hX dX5_numberHere_43 (by decide) ?_
      refine zw_imul hX dX5_numberHere_45 ?_
      refine zw_aload_n hX dX5_numberHere_46 rfl ?_
      obtain ⟨b6, g, h⟩ := zb_some h
      refine zw_getr hX zl_X5_11 dX5_numberHere_47 g ?_
      refine zw_iload hX dX5_numberHere_50 rfl ?_
      obtain ⟨v7, g, h⟩ := zb_some h
      refine zw_xc hX dX5_numberHere_52 g ?_
      refine zw_bipush (v := (48 : Int32)) hX dX5_numberHere_53 (by decide) ?_
      refine zw_isub hX dX5_numberHere_55 ?_
      refine zw_iadd hX dX5_numberHere_56 ?_
      refine zw_istore_n hX dX5_numberHere_57 (by decide) ?_
      refine zw_iinc (v := (i4 + (1 : Int32))) hX dX5_numberHere_58 rfl rfl (by decide) ?_
      refine zw_goto (tgt := 33) hX dX5_numberHere_61 (by decide) ?_
      refine zw_sub (lv' := [(0, .ref a0), (1, .int i1), (2, .int i2), (3, .int ((i3 * (10 : Int32)) + (v7 - (48 : Int32)))), (4, .int (i4 + (1 : Int32)))]) (List.forall_mem_cons.mpr ⟨rfl, (List.forall_mem_cons.mpr ⟨rfl, (List.forall_mem_cons.mpr ⟨rfl, (List.forall_mem_cons.mpr ⟨rfl, (List.forall_mem_cons.mpr ⟨rfl, zs_nil⟩)⟩)⟩)⟩)⟩) ?_
      exact ih _ _ _ h
set_option maxHeartbeats 4000000 in
set_option maxRecDepth 100000 in
theorem zt_X5_numberHere {l : Launch} {V : zm_V} {N : Nat} {S : zm_S} {out : (Int32 × zm_S)} {d : Nat} {a0 : Nat} {i1 : Int32} {i2 : Int32} (hd : 1 ≤ d) (h : zf_X5_numberHere N a0 i1 i2 S = some out) : zm_Met l zk_E V yX5_numberHere (.code yX5_numberHere cX5_numberHere 5 (some .int)) d [.ref a0, .int i1, .int i2] S 0 0 (zo_i out) zo_x := by
  refine zm_of (by decide +kernel) (Nat.le_of_ble_eq_true rfl) ?_
  intro p e R s m args below meth c hRR hX hr hxt
  have hR : R.frames = d ∧ R.locals = 64 * d := by rw [hRR]; exact ⟨rfl, rfl⟩
  have hX : zm_X p R s m args meth c RX5 "numberHere" cX5_numberHere 5 zk_E V 0 0 := hX
  unfold zf_X5_numberHere at h
  refine zw_sub (lv' := [(0, .ref a0), (1, .int i1), (2, .int i2)]) (List.forall_mem_cons.mpr ⟨rfl, (List.forall_mem_cons.mpr ⟨rfl, (List.forall_mem_cons.mpr ⟨rfl, zs_nil⟩)⟩)⟩) ?_
  refine zw_aload_n hX dX5_numberHere_0 rfl ?_
  obtain ⟨v1, g, h⟩ := zb_some h
  refine zw_geti hX zl_X5_84 dX5_numberHere_1 g ?_
  refine zw_bipush (v := (48 : Int32)) hX dX5_numberHere_4 (by decide) ?_
  refine zw_icmp_ne (tgt := 23) hX dX5_numberHere_6 (by decide) (fun c6 => ?_) (fun c6 => ?_)
  · rw [if_neg c6] at h
    refine zw_iconst (v := (-1 : Int32)) hX dX5_numberHere_23 (by decide) ?_
    obtain rfl := Option.some.inj h
    exact zw_iret hX hr dX5_numberHere_24 rfl ⟨rfl, rfl⟩
  · rw [if_pos c6] at h
    refine zw_aload_n hX dX5_numberHere_9 rfl ?_
    obtain ⟨v2, g, h⟩ := zb_some h
    refine zw_geti hX zl_X5_78 dX5_numberHere_10 g ?_
    refine zw_aload_n hX dX5_numberHere_13 rfl ?_
    obtain ⟨v3, g, h⟩ := zb_some h
    refine zw_geti hX zl_X5_100 dX5_numberHere_14 g ?_
    refine zw_isub hX dX5_numberHere_17 ?_
    refine zw_bipush (v := (6 : Int32)) hX dX5_numberHere_18 (by decide) ?_
    refine zw_icmp_le (tgt := 25) hX dX5_numberHere_20 (by decide) (fun c20 => ?_) (fun c20 => ?_)
    · rw [if_pos c20] at h
      refine zw_iconst (v := (0 : Int32)) hX dX5_numberHere_25 (by decide) ?_
      refine zw_istore_n hX dX5_numberHere_26 (by decide) ?_
      refine zw_aload_n hX dX5_numberHere_27 rfl ?_
      obtain ⟨v4, g, h⟩ := zb_some h
      refine zw_geti hX zl_X5_100 dX5_numberHere_28 g ?_
      refine zw_istore hX dX5_numberHere_31 (by decide) ?_
      obtain ⟨r, g, h⟩ := zb_some h
      refine zw_sub (lv' := [(0, .ref a0), (1, .int i1), (2, .int i2), (3, .int (0 : Int32)), (4, .int v4)]) (List.forall_mem_cons.mpr ⟨rfl, (List.forall_mem_cons.mpr ⟨rfl, (List.forall_mem_cons.mpr ⟨rfl, (List.forall_mem_cons.mpr ⟨rfl, (List.forall_mem_cons.mpr ⟨rfl, zs_nil⟩)⟩)⟩)⟩)⟩) ?_
      refine zt_X5_numberHere_L33 hX hr hR hd (res := r) (out := out) a0 i1 i2 ?_ ?_ N _ _ _ g
      · intro o ho
        subst ho
        exact Option.some.inj h
      · intro v9 S8 hx
        subst hx
        try dsimp only at h
        refine zw_iload_n hX dX5_numberHere_64 rfl ?_
        refine zw_iload_n hX dX5_numberHere_65 rfl ?_
        refine zw_icmp_lt (tgt := 78) hX dX5_numberHere_66 (by decide) (fun c66 => ?_) (fun c66 => ?_)
        · rw [if_pos c66] at h
          refine zw_iconst (v := (-1 : Int32)) hX dX5_numberHere_78 (by decide) ?_
          obtain rfl := Option.some.inj h
          exact zw_iret hX hr dX5_numberHere_79 rfl ⟨rfl, rfl⟩
        · rw [if_neg c66] at h
          refine zw_iload_n hX dX5_numberHere_69 rfl ?_
          refine zw_iload_n hX dX5_numberHere_70 rfl ?_
          refine zw_icmp_gt (tgt := 78) hX dX5_numberHere_71 (by decide) (fun c71 => ?_) (fun c71 => ?_)
          · rw [if_pos c71] at h
            refine zw_iconst (v := (-1 : Int32)) hX dX5_numberHere_78 (by decide) ?_
            obtain rfl := Option.some.inj h
            exact zw_iret hX hr dX5_numberHere_79 rfl ⟨rfl, rfl⟩
          · rw [if_neg c71] at h
            refine zw_iload_n hX dX5_numberHere_74 rfl ?_
            refine zw_goto (tgt := 79) hX dX5_numberHere_75 (by decide) ?_
            obtain rfl := Option.some.inj h
            exact zw_iret hX hr dX5_numberHere_79 rfl ⟨rfl, rfl⟩
    · rw [if_neg c20] at h
      refine zw_iconst (v := (-1 : Int32)) hX dX5_numberHere_23 (by decide) ?_
      obtain rfl := Option.some.inj h
      exact zw_iret hX hr dX5_numberHere_24 rfl ⟨rfl, rfl⟩
set_option maxHeartbeats 4000000 in
set_option maxRecDepth 100000 in
theorem zt_X5_isAmong_L2 {p : Program} {l : Launch} {e : Env} {R : Room} {s : State} {m : MethodId} {args : Array Value} {below : List Frame} {meth : Method} {c : Code} {V : zm_V} {mc ms d rc rs : Nat} (hX : zm_X p R s m args meth c RX5 "isAmong" cX5_isAmong 4 zk_E V mc ms) (hr : meth.sig.returnType = (some .boolean)) (hR : R.frames = d ∧ R.locals = 64 * d) (hd : 1 ≤ d) {N : Nat} {res : (Int32 × zm_S) ⊕ ((Unit) × zm_S)} {out : (Int32 × zm_S)} (a0 : Nat) (i1 : Int32) (i2 : Int32) (hf : ∀ o, res = .inl o → o = out) (hk : ∀ (S' : zm_S), res = .inr ((), S') → zw p l e R s m args below meth c (vx_MQ below (zm_Qc zk_E V (zo_i out)) (zm_XC zk_E V zo_x) args s mc ms (fun q => V.2.2.2.1 ≤ q)) 4 zk_E V mc ms 24 [] [] S' rc rs) : ∀ (n : Nat) (i3 : Int32) (S : zm_S), zf_X5_isAmong_L2 N n a0 i1 i2 i3 S = some res → zw p l e R s m args below meth c (vx_MQ below (zm_Qc zk_E V (zo_i out)) (zm_XC zk_E V zo_x) args s mc ms (fun q => V.2.2.2.1 ≤ q)) 4 zk_E V mc ms 2 [(0, .ref a0), (1, .int i1), (2, .int i2), (3, .int i3)] [] S rc rs := by
  intro n
  induction n with
  | zero => intro i3 S h; cases h
  | succ n ih =>
    intro i3 S h
    rw [zf_X5_isAmong_L2] at h
    refine zw_iload_n hX dX5_isAmong_2 rfl ?_
    refine zw_iload_n hX dX5_isAmong_3 rfl ?_
    refine zw_icmp_ge (tgt := 24) hX dX5_isAmong_4 (by decide) (fun c4 => ?_) (fun c4 => ?_)
    · rw [if_pos c4] at h
      refine zw_sub (lv' := []) zs_nil ?_
      exact hk  _ (Option.some.inj h).symm
    · rw [if_neg c4] at h
      refine zw_aload_n hX dX5_isAmong_7 rfl ?_
      refine zw_iconst (v := (2 : Int32)) hX dX5_isAmong_8 (by decide) ?_
      refine zw_iload_n hX dX5_isAmong_9 rfl ?_
      refine zw_iadd hX dX5_isAmong_10 ?_
      obtain ⟨v1, g, h⟩ := zb_some h
      refine zw_xi hX dX5_isAmong_11 g ?_
      refine zw_iload_n hX dX5_isAmong_12 rfl ?_
      refine zw_icmp_ne (tgt := 18) hX dX5_isAmong_13 (by decide) (fun c13 => ?_) (fun c13 => ?_)
      · rw [if_neg c13] at h
        refine zw_iinc (v := (i3 + (1 : Int32))) hX dX5_isAmong_18 rfl rfl (by decide) ?_
        refine zw_goto (tgt := 2) hX dX5_isAmong_21 (by decide) ?_
        refine zw_sub (lv' := [(0, .ref a0), (1, .int i1), (2, .int i2), (3, .int (i3 + (1 : Int32)))]) (List.forall_mem_cons.mpr ⟨rfl, (List.forall_mem_cons.mpr ⟨rfl, (List.forall_mem_cons.mpr ⟨rfl, (List.forall_mem_cons.mpr ⟨rfl, zs_nil⟩)⟩)⟩)⟩) ?_
        exact ih _ _ h
      · rw [if_pos c13] at h
        refine zw_iconst (v := (1 : Int32)) hX dX5_isAmong_16 (by decide) ?_
        have hz := hf _ (Option.some.inj h).symm
        subst hz
        exact zw_iret hX hr dX5_isAmong_17 rfl ⟨rfl, rfl⟩
set_option maxHeartbeats 4000000 in
set_option maxRecDepth 100000 in
theorem zt_X5_isAmong {l : Launch} {V : zm_V} {N : Nat} {S : zm_S} {out : (Int32 × zm_S)} {d : Nat} {a0 : Nat} {i1 : Int32} {i2 : Int32} (hd : 1 ≤ d) (h : zf_X5_isAmong N a0 i1 i2 S = some out) : zm_Met l zk_E V yX5_isAmong (.code yX5_isAmong cX5_isAmong 4 (some .boolean)) d [.ref a0, .int i1, .int i2] S 0 0 (zo_i out) zo_x := by
  refine zm_of (by decide +kernel) (Nat.le_of_ble_eq_true rfl) ?_
  intro p e R s m args below meth c hRR hX hr hxt
  have hR : R.frames = d ∧ R.locals = 64 * d := by rw [hRR]; exact ⟨rfl, rfl⟩
  have hX : zm_X p R s m args meth c RX5 "isAmong" cX5_isAmong 4 zk_E V 0 0 := hX
  unfold zf_X5_isAmong at h
  refine zw_sub (lv' := [(0, .ref a0), (1, .int i1), (2, .int i2)]) (List.forall_mem_cons.mpr ⟨rfl, (List.forall_mem_cons.mpr ⟨rfl, (List.forall_mem_cons.mpr ⟨rfl, zs_nil⟩)⟩)⟩) ?_
  refine zw_iconst (v := (0 : Int32)) hX dX5_isAmong_0 (by decide) ?_
  refine zw_istore_n hX dX5_isAmong_1 (by decide) ?_
  obtain ⟨r, g, h⟩ := zb_some h
  refine zw_sub (lv' := [(0, .ref a0), (1, .int i1), (2, .int i2), (3, .int (0 : Int32))]) (List.forall_mem_cons.mpr ⟨rfl, (List.forall_mem_cons.mpr ⟨rfl, (List.forall_mem_cons.mpr ⟨rfl, (List.forall_mem_cons.mpr ⟨rfl, zs_nil⟩)⟩)⟩)⟩) ?_
  refine zt_X5_isAmong_L2 hX hr hR hd (res := r) (out := out) a0 i1 i2 ?_ ?_ N _ _ g
  · intro o ho
    subst ho
    exact Option.some.inj h
  · intro  S2 hx
    subst hx
    try dsimp only at h
    refine zw_iconst (v := (0 : Int32)) hX dX5_isAmong_24 (by decide) ?_
    obtain rfl := Option.some.inj h
    exact zw_iret hX hr dX5_isAmong_25 rfl ⟨rfl, rfl⟩
set_option maxHeartbeats 4000000 in
set_option maxRecDepth 100000 in
theorem zt_X5_readPoints_L4 {p : Program} {l : Launch} {e : Env} {R : Room} {s : State} {m : MethodId} {args : Array Value} {below : List Frame} {meth : Method} {c : Code} {V : zm_V} {mc ms d rc rs : Nat} (hX : zm_X p R s m args meth c RX5 "readPoints" cX5_readPoints 5 zk_E V mc ms) (hr : meth.sig.returnType = (some .int)) (hR : R.frames = d ∧ R.locals = 64 * d) (hd : 3 ≤ d) {N : Nat} {res : (Int32 × zm_S) ⊕ ((Int32) × zm_S)} {out : (Int32 × zm_S)} (a0 : Nat) (a1 : Nat) (hf : ∀ o, res = .inl o → o = out) (hk : ∀ (x2 : Int32) (S' : zm_S), res = .inr (x2, S') → zw p l e R s m args below meth c (vx_MQ below (zm_Qc zk_E V (zo_i out)) (zm_XC zk_E V zo_x) args s mc ms (fun q => V.2.2.2.1 ≤ q)) 5 zk_E V mc ms 61 [(2, .int x2)] [] S' rc rs) : ∀ (n : Nat) (i2 : Int32) (i3 : Int32) (S : zm_S), zf_X5_readPoints_L4 N n a0 a1 i2 i3 S = some res → zw p l e R s m args below meth c (vx_MQ below (zm_Qc zk_E V (zo_i out)) (zm_XC zk_E V zo_x) args s mc ms (fun q => V.2.2.2.1 ≤ q)) 5 zk_E V mc ms 4 [(0, .ref a0), (1, .ref a1), (2, .int i2), (3, .int i3)] [] S rc rs := by
  intro n
  induction n with
  | zero => intro i2 i3 S h; cases h
  | succ n ih =>
    intro i2 i3 S h
    rw [zf_X5_readPoints_L4] at h
    refine zw_iload_n hX dX5_readPoints_4 rfl ?_
    refine zw_bipush (v := (12 : Int32)) hX dX5_readPoints_5 (by decide) ?_
    refine zw_icmp_ge (tgt := 61) hX dX5_readPoints_7 (by decide) (fun c7 => ?_) (fun c7 => ?_)
    · rw [if_pos c7] at h
      refine zw_sub (lv' := [(2, .int i2)]) (List.forall_mem_cons.mpr ⟨rfl, zs_nil⟩) ?_
      exact hk _ _ (Option.some.inj h).symm
    · rw [if_neg c7] at h
      refine zw_aload_n hX dX5_readPoints_10 rfl ?_
      refine zw_iconst (v := (0 : Int32)) hX dX5_readPoints_11 (by decide) ?_
      refine zw_aload_n hX dX5_readPoints_12 rfl ?_
      obtain ⟨v1, g, h⟩ := zb_some h
      refine zw_geti hX zl_X5_69 dX5_readPoints_13 g ?_
      refine zw_iconst (v := (1 : Int32)) hX dX5_readPoints_16 (by decide) ?_
      refine zw_isub hX dX5_readPoints_17 ?_
      obtain ⟨_, gi, h⟩ := zb_some h
      obtain ⟨r3, g, h⟩ := zb_some h
      refine zc_Vi (as := [.int (0 : Int32), .int (v1 - (1 : Int32))]) hX gi (zt_X5_numberHere (d := d - 1) (by omega) g) zl_X5_130 rfl dX5_readPoints_18 ⟨rfl, rfl, Nat.le_of_ble_eq_true rfl⟩ ⟨by omega, by omega⟩ ?_
      refine zw_istore hX dX5_readPoints_21 (by decide) ?_
      refine zw_iload hX dX5_readPoints_23 rfl ?_
      refine zw_iconst (v := (-1 : Int32)) hX dX5_readPoints_25 (by decide) ?_
      refine zw_icmp_eq (tgt := 39) hX dX5_readPoints_26 (by decide) (fun c26 => ?_) (fun c26 => ?_)
      · rw [if_pos c26] at h
        refine zw_iload_n hX dX5_readPoints_39 rfl ?_
        have hz := hf _ (Option.some.inj h).symm
        subst hz
        exact zw_iret hX hr dX5_readPoints_40 rfl ⟨rfl, rfl⟩
      · rw [if_neg c26] at h
        refine zw_aload_n hX dX5_readPoints_29 rfl ?_
        refine zw_iload_n hX dX5_readPoints_30 rfl ?_
        refine zw_iload hX dX5_readPoints_31 rfl ?_
        obtain ⟨r5, g, h⟩ := zb_some h
        refine zc_Si (as := [.ref a1, .int i2, .int r3.1]) hX (zt_X5_isAmong (d := d - 1) (by omega) g) zl_X5_142 dX5_readPoints_33 ⟨rfl, rfl, Nat.le_of_ble_eq_true rfl⟩ ⟨by omega, by omega⟩ ?_
        refine zw_if_eq (tgt := 41) hX dX5_readPoints_36 (by decide) (fun c36 => ?_) (fun c36 => ?_)
        · rw [if_pos c36] at h
          refine zw_aload_n hX dX5_readPoints_41 rfl ?_
          refine zw_iconst (v := (2 : Int32)) hX dX5_readPoints_42 (by decide) ?_
          refine zw_iload_n hX dX5_readPoints_43 rfl ?_
          refine zw_iadd hX dX5_readPoints_44 ?_
          refine zw_iload hX dX5_readPoints_45 rfl ?_
          obtain ⟨S6, g, h⟩ := zb_some h
          refine zw_si hX dX5_readPoints_47 g ?_
          refine zw_iinc (v := (i2 + (1 : Int32))) hX dX5_readPoints_48 rfl rfl (by decide) ?_
          refine zw_aload_n hX dX5_readPoints_51 rfl ?_
          obtain ⟨_, gi, h⟩ := zb_some h
          obtain ⟨r8, g, h⟩ := zb_some h
          refine zc_Vv (as := []) hX gi (zt_X5_nextWord (d := d - 1) (by omega) g) zl_X5_81 rfl dX5_readPoints_52 ⟨rfl, rfl, Nat.le_of_ble_eq_true rfl⟩ ⟨by omega, by omega⟩ ?_
          refine zw_iinc (v := (i3 + (1 : Int32))) hX dX5_readPoints_55 rfl rfl (by decide) ?_
          refine zw_goto (tgt := 4) hX dX5_readPoints_58 (by decide) ?_
          refine zw_sub (lv' := [(0, .ref a0), (1, .ref a1), (2, .int (i2 + (1 : Int32))), (3, .int (i3 + (1 : Int32)))]) (List.forall_mem_cons.mpr ⟨rfl, (List.forall_mem_cons.mpr ⟨rfl, (List.forall_mem_cons.mpr ⟨rfl, (List.forall_mem_cons.mpr ⟨rfl, zs_nil⟩)⟩)⟩)⟩) ?_
          exact ih _ _ _ h
        · rw [if_neg c36] at h
          refine zw_iload_n hX dX5_readPoints_39 rfl ?_
          have hz := hf _ (Option.some.inj h).symm
          subst hz
          exact zw_iret hX hr dX5_readPoints_40 rfl ⟨rfl, rfl⟩
set_option maxHeartbeats 4000000 in
set_option maxRecDepth 100000 in
theorem zt_X5_readPoints {l : Launch} {V : zm_V} {N : Nat} {S : zm_S} {out : (Int32 × zm_S)} {d : Nat} {a0 : Nat} {a1 : Nat} (hd : 3 ≤ d) (h : zf_X5_readPoints N a0 a1 S = some out) : zm_Met l zk_E V yX5_readPoints (.code yX5_readPoints cX5_readPoints 5 (some .int)) d [.ref a0, .ref a1] S 0 0 (zo_i out) zo_x := by
  refine zm_of (by decide +kernel) (Nat.le_of_ble_eq_true rfl) ?_
  intro p e R s m args below meth c hRR hX hr hxt
  have hR : R.frames = d ∧ R.locals = 64 * d := by rw [hRR]; exact ⟨rfl, rfl⟩
  have hX : zm_X p R s m args meth c RX5 "readPoints" cX5_readPoints 5 zk_E V 0 0 := hX
  unfold zf_X5_readPoints at h
  refine zw_sub (lv' := [(0, .ref a0), (1, .ref a1)]) (List.forall_mem_cons.mpr ⟨rfl, (List.forall_mem_cons.mpr ⟨rfl, zs_nil⟩)⟩) ?_
  refine zw_iconst (v := (0 : Int32)) hX dX5_readPoints_0 (by decide) ?_
  refine zw_istore_n hX dX5_readPoints_1 (by decide) ?_
  refine zw_iconst (v := (0 : Int32)) hX dX5_readPoints_2 (by decide) ?_
  refine zw_istore_n hX dX5_readPoints_3 (by decide) ?_
  obtain ⟨r, g, h⟩ := zb_some h
  refine zw_sub (lv' := [(0, .ref a0), (1, .ref a1), (2, .int (0 : Int32)), (3, .int (0 : Int32))]) (List.forall_mem_cons.mpr ⟨rfl, (List.forall_mem_cons.mpr ⟨rfl, (List.forall_mem_cons.mpr ⟨rfl, (List.forall_mem_cons.mpr ⟨rfl, zs_nil⟩)⟩)⟩)⟩) ?_
  refine zt_X5_readPoints_L4 hX hr hR hd (res := r) (out := out) a0 a1 ?_ ?_ N _ _ _ g
  · intro o ho
    subst ho
    exact Option.some.inj h
  · intro v10 S9 hx
    subst hx
    try dsimp only at h
    refine zw_iload_n hX dX5_readPoints_61 rfl ?_
    obtain rfl := Option.some.inj h
    exact zw_iret hX hr dX5_readPoints_62 rfl ⟨rfl, rfl⟩
set_option maxHeartbeats 4000000 in
set_option maxRecDepth 100000 in
theorem zt_X5_skipSign_J13 {p : Program} {l : Launch} {e : Env} {R : Room} {s : State} {m : MethodId} {args : Array Value} {below : List Frame} {meth : Method} {c : Code} {V : zm_V} {mc ms d rc rs : Nat} (hX : zm_X p R s m args meth c RX5 "skipSign" cX5_skipSign 3 zk_E V mc ms) (hr : meth.sig.returnType = (some .boolean)) (hR : R.frames = d ∧ R.locals = 64 * d) (hd : 3 ≤ d) {N : Nat} {a0 : Nat} {t0 : Int32} {out : (Int32 × zm_S)} {S : zm_S} (h : zf_X5_skipSign_J13 N a0 t0 S = some out) : zw p l e R s m args below meth c (vx_MQ below (zm_Qc zk_E V (zo_i out)) (zm_XC zk_E V zo_x) args s mc ms (fun q => V.2.2.2.1 ≤ q)) 3 zk_E V mc ms 13 [(0, .ref a0)] [.int t0] S rc rs := by
  unfold zf_X5_skipSign_J13 at h
  refine zw_istore_n hX dX5_skipSign_13 (by decide) ?_
  refine zw_iload_n hX dX5_skipSign_14 rfl ?_
  refine zw_if_eq (tgt := 22) hX dX5_skipSign_15 (by decide) (fun c15 => ?_) (fun c15 => ?_)
  · rw [if_pos c15] at h
    refine zw_iload_n hX dX5_skipSign_22 rfl ?_
    by_cases cz : t0 = 0 ∨ t0 = 1
    · rw [if_pos cz] at h
      obtain rfl := Option.some.inj h
      exact zw_iret hX hr dX5_skipSign_23 (zn_z cz) ⟨rfl, rfl⟩
    · rw [if_neg cz] at h
      cases h
  · rw [if_neg c15] at h
    refine zw_aload_n hX dX5_skipSign_18 rfl ?_
    obtain ⟨_, gi, h⟩ := zb_some h
    obtain ⟨r3, g, h⟩ := zb_some h
    refine zc_Vv (as := []) hX gi (zt_X5_nextWord (d := d - 1) (by omega) g) zl_X5_81 rfl dX5_skipSign_19 ⟨rfl, rfl, Nat.le_of_ble_eq_true rfl⟩ ⟨by omega, by omega⟩ ?_
    refine zw_iload_n hX dX5_skipSign_22 rfl ?_
    by_cases cz : t0 = 0 ∨ t0 = 1
    · rw [if_pos cz] at h
      obtain rfl := Option.some.inj h
      exact zw_iret hX hr dX5_skipSign_23 (zn_z cz) ⟨rfl, rfl⟩
    · rw [if_neg cz] at h
      cases h
set_option maxHeartbeats 4000000 in
set_option maxRecDepth 100000 in
theorem zt_X5_skipSign {l : Launch} {V : zm_V} {N : Nat} {S : zm_S} {out : (Int32 × zm_S)} {d : Nat} {a0 : Nat} {i1 : Int32} (hd : 3 ≤ d) (h : zf_X5_skipSign N a0 i1 S = some out) : zm_Met l zk_E V yX5_skipSign (.code yX5_skipSign cX5_skipSign 3 (some .boolean)) d [.ref a0, .int i1] S 0 0 (zo_i out) zo_x := by
  refine zm_of (by decide +kernel) (Nat.le_of_ble_eq_true rfl) ?_
  intro p e R s m args below meth c hRR hX hr hxt
  have hR : R.frames = d ∧ R.locals = 64 * d := by rw [hRR]; exact ⟨rfl, rfl⟩
  have hX : zm_X p R s m args meth c RX5 "skipSign" cX5_skipSign 3 zk_E V 0 0 := hX
  unfold zf_X5_skipSign at h
  refine zw_sub (lv' := [(0, .ref a0), (1, .int i1)]) (List.forall_mem_cons.mpr ⟨rfl, (List.forall_mem_cons.mpr ⟨rfl, zs_nil⟩)⟩) ?_
  refine zw_aload_n hX dX5_skipSign_0 rfl ?_
  obtain ⟨v1, g, h⟩ := zb_some h
  refine zw_geti hX zl_X5_84 dX5_skipSign_1 g ?_
  refine zw_iload_n hX dX5_skipSign_4 rfl ?_
  refine zw_icmp_ne (tgt := 12) hX dX5_skipSign_5 (by decide) (fun c5 => ?_) (fun c5 => ?_)
  · rw [if_neg c5] at h
    refine zw_iconst (v := (0 : Int32)) hX dX5_skipSign_12 (by decide) ?_
    refine zw_sub (lv' := [(0, .ref a0)]) (List.forall_mem_cons.mpr ⟨rfl, zs_nil⟩) ?_
    exact zt_X5_skipSign_J13 hX hr hR hd h
  · rw [if_pos c5] at h
    refine zw_iconst (v := (1 : Int32)) hX dX5_skipSign_8 (by decide) ?_
    refine zw_goto (tgt := 13) hX dX5_skipSign_9 (by decide) ?_
    refine zw_sub (lv' := [(0, .ref a0)]) (List.forall_mem_cons.mpr ⟨rfl, zs_nil⟩) ?_
    exact zt_X5_skipSign_J13 hX hr hR hd h
set_option maxHeartbeats 4000000 in
set_option maxRecDepth 100000 in
theorem zt_X5_readZone {l : Launch} {V : zm_V} {N : Nat} {S : zm_S} {out : (Int32 × zm_S)} {d : Nat} {a0 : Nat} (hd : 4 ≤ d) (h : zf_X5_readZone N a0 S = some out) : zm_Met l zk_E V yX5_readZone (.code yX5_readZone cX5_readZone 5 (some .boolean)) d [.ref a0] S 0 0 (zo_i out) zo_x := by
  refine zm_of (by decide +kernel) (Nat.le_of_ble_eq_true rfl) ?_
  intro p e R s m args below meth c hRR hX hr hxt
  have hR : R.frames = d ∧ R.locals = 64 * d := by rw [hRR]; exact ⟨rfl, rfl⟩
  have hX : zm_X p R s m args meth c RX5 "readZone" cX5_readZone 5 zk_E V 0 0 := hX
  unfold zf_X5_readZone at h
  refine zw_sub (lv' := [(0, .ref a0)]) (List.forall_mem_cons.mpr ⟨rfl, zs_nil⟩) ?_
  refine zw_aload_n hX dX5_readZone_0 rfl ?_
  refine zw_iconst (v := (0 : Int32)) hX dX5_readZone_1 (by decide) ?_
  refine zw_bipush (v := (19 : Int32)) hX dX5_readZone_2 (by decide) ?_
  obtain ⟨_, gi, h⟩ := zb_some h
  obtain ⟨r2, g, h⟩ := zb_some h
  refine zc_Vi (as := [.int (0 : Int32), .int (19 : Int32)]) hX gi (zt_X5_numberHere (d := d - 1) (by omega) g) zl_X5_130 rfl dX5_readZone_4 ⟨rfl, rfl, Nat.le_of_ble_eq_true rfl⟩ ⟨by omega, by omega⟩ ?_
  refine zw_istore_n hX dX5_readZone_7 (by decide) ?_
  refine zw_iload_n hX dX5_readZone_8 rfl ?_
  refine zw_iconst (v := (-1 : Int32)) hX dX5_readZone_9 (by decide) ?_
  refine zw_icmp_eq (tgt := 24) hX dX5_readZone_10 (by decide) (fun c10 => ?_) (fun c10 => ?_)
  · rw [if_pos c10] at h
    refine zw_iconst (v := (0 : Int32)) hX dX5_readZone_24 (by decide) ?_
    obtain rfl := Option.some.inj h
    exact zw_iret hX hr dX5_readZone_25 rfl ⟨rfl, rfl⟩
  · rw [if_neg c10] at h
    refine zw_aload_n hX dX5_readZone_13 rfl ?_
    obtain ⟨b3, g, h⟩ := zb_some h
    refine zw_getr hX zl_X5_17 dX5_readZone_14 g ?_
    refine zw_iload_n hX dX5_readZone_17 rfl ?_
    obtain ⟨b4, g, h⟩ := zb_some h
    refine zw_xr hX dX5_readZone_18 g ?_
    refine zw_iconst (v := (0 : Int32)) hX dX5_readZone_19 (by decide) ?_
    obtain ⟨v5, g, h⟩ := zb_some h
    refine zw_xi hX dX5_readZone_20 g ?_
    refine zw_if_eq (tgt := 26) hX dX5_readZone_21 (by decide) (fun c21 => ?_) (fun c21 => ?_)
    · rw [if_pos c21] at h
      refine zw_aload_n hX dX5_readZone_26 rfl ?_
      obtain ⟨_, gi, h⟩ := zb_some h
      obtain ⟨r7, g, h⟩ := zb_some h
      refine zc_Vv (as := []) hX gi (zt_X5_nextWord (d := d - 1) (by omega) g) zl_X5_81 rfl dX5_readZone_27 ⟨rfl, rfl, Nat.le_of_ble_eq_true rfl⟩ ⟨by omega, by omega⟩ ?_
      refine zw_aload_n hX dX5_readZone_30 rfl ?_
      refine zw_ldc2 (v := (474147546227 : Int64)) hX dX5_readZone_31 zl_X5_39 ?_
      obtain ⟨_, gi, h⟩ := zb_some h
      obtain ⟨r9, g, h⟩ := zb_some h
      refine zc_Vi (as := [.long (474147546227 : Int64)]) hX gi (zt_X5_skipWord (d := d - 1) (by omega) g) zl_X5_115 rfl dX5_readZone_34 ⟨rfl, rfl, Nat.le_of_ble_eq_true rfl⟩ ⟨by omega, by omega⟩ ?_
      refine zw_if_ne (tgt := 42) hX dX5_readZone_37 (by decide) (fun c37 => ?_) (fun c37 => ?_)
      · rw [if_neg c37] at h
        refine zw_aload_n hX dX5_readZone_42 rfl ?_
        refine zw_iconst (v := (1 : Int32)) hX dX5_readZone_43 (by decide) ?_
        refine zw_bipush (v := (12 : Int32)) hX dX5_readZone_44 (by decide) ?_
        obtain ⟨_, gi, h⟩ := zb_some h
        obtain ⟨r11, g, h⟩ := zb_some h
        refine zc_Vi (as := [.int (1 : Int32), .int (12 : Int32)]) hX gi (zt_X5_numberHere (d := d - 1) (by omega) g) zl_X5_130 rfl dX5_readZone_46 ⟨rfl, rfl, Nat.le_of_ble_eq_true rfl⟩ ⟨by omega, by omega⟩ ?_
        refine zw_istore_n hX dX5_readZone_49 (by decide) ?_
        refine zw_aload_n hX dX5_readZone_50 rfl ?_
        obtain ⟨v12, g, h⟩ := zb_some h
        refine zw_geti hX zl_X5_75 dX5_readZone_51 g ?_
        refine zw_istore_n hX dX5_readZone_54 (by decide) ?_
        refine zw_iload_n hX dX5_readZone_55 rfl ?_
        refine zw_iconst (v := (-1 : Int32)) hX dX5_readZone_56 (by decide) ?_
        refine zw_icmp_ne (tgt := 62) hX dX5_readZone_57 (by decide) (fun c57 => ?_) (fun c57 => ?_)
        · rw [if_neg c57] at h
          refine zw_aload_n hX dX5_readZone_62 rfl ?_
          obtain ⟨_, gi, h⟩ := zb_some h
          obtain ⟨r14, g, h⟩ := zb_some h
          refine zc_Vv (as := []) hX gi (zt_X5_nextWord (d := d - 1) (by omega) g) zl_X5_81 rfl dX5_readZone_63 ⟨rfl, rfl, Nat.le_of_ble_eq_true rfl⟩ ⟨by omega, by omega⟩ ?_
          refine zw_aload_n hX dX5_readZone_66 rfl ?_
          refine zw_ldc2 (v := (28518 : Int64)) hX dX5_readZone_67 zl_X5_41 ?_
          obtain ⟨_, gi, h⟩ := zb_some h
          obtain ⟨r16, g, h⟩ := zb_some h
          refine zc_Vi (as := [.long (28518 : Int64)]) hX gi (zt_X5_skipWord (d := d - 1) (by omega) g) zl_X5_115 rfl dX5_readZone_70 ⟨rfl, rfl, Nat.le_of_ble_eq_true rfl⟩ ⟨by omega, by omega⟩ ?_
          refine zw_if_ne (tgt := 78) hX dX5_readZone_73 (by decide) (fun c73 => ?_) (fun c73 => ?_)
          · rw [if_neg c73] at h
            refine zw_aload_n hX dX5_readZone_78 rfl ?_
            refine zw_aload_n hX dX5_readZone_79 rfl ?_
            obtain ⟨b17, g, h⟩ := zb_some h
            refine zw_getr hX zl_X5_17 dX5_readZone_80 g ?_
            refine zw_iload_n hX dX5_readZone_83 rfl ?_
            obtain ⟨b18, g, h⟩ := zb_some h
            refine zw_xr hX dX5_readZone_84 g ?_
            obtain ⟨_, gi, h⟩ := zb_some h
            obtain ⟨r20, g, h⟩ := zb_some h
            refine zc_Vi (as := [.ref b18]) hX gi (zt_X5_readPoints (d := d - 1) (by omega) g) zl_X5_134 rfl dX5_readZone_85 ⟨rfl, rfl, Nat.le_of_ble_eq_true rfl⟩ ⟨by omega, by omega⟩ ?_
            refine zw_istore hX dX5_readZone_88 (by decide) ?_
            refine zw_iload hX dX5_readZone_90 rfl ?_
            refine zw_if_eq (tgt := 104) hX dX5_readZone_92 (by decide) (fun c92 => ?_) (fun c92 => ?_)
            · rw [if_pos c92] at h
              refine zw_iconst (v := (0 : Int32)) hX dX5_readZone_104 (by decide) ?_
              obtain rfl := Option.some.inj h
              exact zw_iret hX hr dX5_readZone_105 rfl ⟨rfl, rfl⟩
            · rw [if_neg c92] at h
              refine zw_aload_n hX dX5_readZone_95 rfl ?_
              refine zw_bipush (v := (59 : Int32)) hX dX5_readZone_96 (by decide) ?_
              obtain ⟨_, gi, h⟩ := zb_some h
              obtain ⟨r22, g, h⟩ := zb_some h
              refine zc_Vi (as := [.int (59 : Int32)]) hX gi (zt_X5_skipSign (d := d - 1) (by omega) g) zl_X5_138 rfl dX5_readZone_98 ⟨rfl, rfl, Nat.le_of_ble_eq_true rfl⟩ ⟨by omega, by omega⟩ ?_
              refine zw_if_ne (tgt := 106) hX dX5_readZone_101 (by decide) (fun c101 => ?_) (fun c101 => ?_)
              · rw [if_neg c101] at h
                refine zw_iload_n hX dX5_readZone_106 rfl ?_
                refine zw_iload hX dX5_readZone_107 rfl ?_
                refine zw_icmp_le (tgt := 119) hX dX5_readZone_109 (by decide) (fun c109 => ?_) (fun c109 => ?_)
                · rw [if_pos c109] at h
                  refine zw_aload_n hX dX5_readZone_119 rfl ?_
                  obtain ⟨b23, g, h⟩ := zb_some h
                  refine zw_getr hX zl_X5_17 dX5_readZone_120 g ?_
                  refine zw_iload_n hX dX5_readZone_123 rfl ?_
                  obtain ⟨b24, g, h⟩ := zb_some h
                  refine zw_xr hX dX5_readZone_124 g ?_
                  refine zw_iconst (v := (0 : Int32)) hX dX5_readZone_125 (by decide) ?_
                  refine zw_iload_n hX dX5_readZone_126 rfl ?_
                  obtain ⟨S25, g, h⟩ := zb_some h
                  refine zw_si hX dX5_readZone_127 g ?_
                  refine zw_aload_n hX dX5_readZone_128 rfl ?_
                  obtain ⟨b26, g, h⟩ := zb_some h
                  refine zw_getr hX zl_X5_17 dX5_readZone_129 g ?_
                  refine zw_iload_n hX dX5_readZone_132 rfl ?_
                  obtain ⟨b27, g, h⟩ := zb_some h
                  refine zw_xr hX dX5_readZone_133 g ?_
                  refine zw_iconst (v := (1 : Int32)) hX dX5_readZone_134 (by decide) ?_
                  refine zw_iload hX dX5_readZone_135 rfl ?_
                  obtain ⟨S28, g, h⟩ := zb_some h
                  refine zw_si hX dX5_readZone_137 g ?_
                  refine zw_iconst (v := (1 : Int32)) hX dX5_readZone_138 (by decide) ?_
                  obtain rfl := Option.some.inj h
                  exact zw_iret hX hr dX5_readZone_139 rfl ⟨rfl, rfl⟩
                · rw [if_neg c109] at h
                  refine zw_aload_n hX dX5_readZone_112 rfl ?_
                  refine zw_iload_n hX dX5_readZone_113 rfl ?_
                  obtain ⟨S29, g, h⟩ := zb_some h
                  refine zw_putv hX zl_X5_75 zt_5_4 dX5_readZone_114 rfl rfl g ?_
                  refine zw_iconst (v := (0 : Int32)) hX dX5_readZone_117 (by decide) ?_
                  obtain rfl := Option.some.inj h
                  exact zw_iret hX hr dX5_readZone_118 rfl ⟨rfl, rfl⟩
              · rw [if_pos c101] at h
                refine zw_iconst (v := (0 : Int32)) hX dX5_readZone_104 (by decide) ?_
                obtain rfl := Option.some.inj h
                exact zw_iret hX hr dX5_readZone_105 rfl ⟨rfl, rfl⟩
          · rw [if_pos c73] at h
            refine zw_iconst (v := (0 : Int32)) hX dX5_readZone_76 (by decide) ?_
            obtain rfl := Option.some.inj h
            exact zw_iret hX hr dX5_readZone_77 rfl ⟨rfl, rfl⟩
        · rw [if_pos c57] at h
          refine zw_iconst (v := (0 : Int32)) hX dX5_readZone_60 (by decide) ?_
          obtain rfl := Option.some.inj h
          exact zw_iret hX hr dX5_readZone_61 rfl ⟨rfl, rfl⟩
      · rw [if_pos c37] at h
        refine zw_iconst (v := (0 : Int32)) hX dX5_readZone_40 (by decide) ?_
        obtain rfl := Option.some.inj h
        exact zw_iret hX hr dX5_readZone_41 rfl ⟨rfl, rfl⟩
    · rw [if_neg c21] at h
      refine zw_iconst (v := (0 : Int32)) hX dX5_readZone_24 (by decide) ?_
      obtain rfl := Option.some.inj h
      exact zw_iret hX hr dX5_readZone_25 rfl ⟨rfl, rfl⟩
set_option maxHeartbeats 4000000 in
set_option maxRecDepth 100000 in
theorem zt_X5_readActNumber {l : Launch} {V : zm_V} {N : Nat} {S : zm_S} {out : (Int32 × zm_S)} {d : Nat} {a0 : Nat} {i1 : Int32} {j2 : Int64} {i4 : Int32} {i5 : Int32} (hd : 4 ≤ d) (h : zf_X5_readActNumber N a0 i1 j2 i4 i5 S = some out) : zm_Met l zk_E V yX5_readActNumber (.code yX5_readActNumber cX5_readActNumber 7 (some .boolean)) d [.ref a0, .int i1, .long j2, .int i4, .int i5] S 0 0 (zo_i out) zo_x := by
  refine zm_of (by decide +kernel) (Nat.le_of_ble_eq_true rfl) ?_
  intro p e R s m args below meth c hRR hX hr hxt
  have hR : R.frames = d ∧ R.locals = 64 * d := by rw [hRR]; exact ⟨rfl, rfl⟩
  have hX : zm_X p R s m args meth c RX5 "readActNumber" cX5_readActNumber 7 zk_E V 0 0 := hX
  unfold zf_X5_readActNumber at h
  refine zw_sub (lv' := [(0, .ref a0), (1, .int i1), (2, .long j2), (4, .int i4), (5, .int i5)]) (List.forall_mem_cons.mpr ⟨rfl, (List.forall_mem_cons.mpr ⟨rfl, (List.forall_mem_cons.mpr ⟨rfl, (List.forall_mem_cons.mpr ⟨rfl, (List.forall_mem_cons.mpr ⟨rfl, zs_nil⟩)⟩)⟩)⟩)⟩) ?_
  refine zw_aload_n hX dX5_readActNumber_0 rfl ?_
  refine zw_lload_n hX dX5_readActNumber_1 rfl ?_
  obtain ⟨_, gi, h⟩ := zb_some h
  obtain ⟨r2, g, h⟩ := zb_some h
  refine zc_Vi (as := [.long j2]) hX gi (zt_X5_skipWord (d := d - 1) (by omega) g) zl_X5_115 rfl dX5_readActNumber_2 ⟨rfl, rfl, Nat.le_of_ble_eq_true rfl⟩ ⟨by omega, by omega⟩ ?_
  refine zw_if_ne (tgt := 10) hX dX5_readActNumber_5 (by decide) (fun c5 => ?_) (fun c5 => ?_)
  · rw [if_neg c5] at h
    refine zw_aload_n hX dX5_readActNumber_10 rfl ?_
    refine zw_iconst (v := (0 : Int32)) hX dX5_readActNumber_11 (by decide) ?_
    refine zw_iload hX dX5_readActNumber_12 rfl ?_
    obtain ⟨_, gi, h⟩ := zb_some h
    obtain ⟨r4, g, h⟩ := zb_some h
    refine zc_Vi (as := [.int (0 : Int32), .int i5]) hX gi (zt_X5_numberHere (d := d - 1) (by omega) g) zl_X5_130 rfl dX5_readActNumber_14 ⟨rfl, rfl, Nat.le_of_ble_eq_true rfl⟩ ⟨by omega, by omega⟩ ?_
    refine zw_istore hX dX5_readActNumber_17 (by decide) ?_
    refine zw_iload hX dX5_readActNumber_19 rfl ?_
    refine zw_iconst (v := (-1 : Int32)) hX dX5_readActNumber_21 (by decide) ?_
    refine zw_icmp_ne (tgt := 27) hX dX5_readActNumber_22 (by decide) (fun c22 => ?_) (fun c22 => ?_)
    · rw [if_neg c22] at h
      refine zw_aload_n hX dX5_readActNumber_27 rfl ?_
      obtain ⟨b5, g, h⟩ := zb_some h
      refine zw_getr hX zl_X5_20 dX5_readActNumber_28 g ?_
      refine zw_iload_n hX dX5_readActNumber_31 rfl ?_
      obtain ⟨b6, g, h⟩ := zb_some h
      refine zw_xr hX dX5_readActNumber_32 g ?_
      refine zw_iload hX dX5_readActNumber_33 rfl ?_
      refine zw_iload hX dX5_readActNumber_35 rfl ?_
      obtain ⟨S7, g, h⟩ := zb_some h
      refine zw_si hX dX5_readActNumber_37 g ?_
      refine zw_aload_n hX dX5_readActNumber_38 rfl ?_
      obtain ⟨_, gi, h⟩ := zb_some h
      obtain ⟨r9, g, h⟩ := zb_some h
      refine zc_Vv (as := []) hX gi (zt_X5_nextWord (d := d - 1) (by omega) g) zl_X5_81 rfl dX5_readActNumber_39 ⟨rfl, rfl, Nat.le_of_ble_eq_true rfl⟩ ⟨by omega, by omega⟩ ?_
      refine zw_iconst (v := (1 : Int32)) hX dX5_readActNumber_42 (by decide) ?_
      obtain rfl := Option.some.inj h
      exact zw_iret hX hr dX5_readActNumber_43 rfl ⟨rfl, rfl⟩
    · rw [if_pos c22] at h
      refine zw_iconst (v := (0 : Int32)) hX dX5_readActNumber_25 (by decide) ?_
      obtain rfl := Option.some.inj h
      exact zw_iret hX hr dX5_readActNumber_26 rfl ⟨rfl, rfl⟩
  · rw [if_pos c5] at h
    refine zw_iconst (v := (0 : Int32)) hX dX5_readActNumber_8 (by decide) ?_
    obtain rfl := Option.some.inj h
    exact zw_iret hX hr dX5_readActNumber_9 rfl ⟨rfl, rfl⟩
set_option maxHeartbeats 4000000 in
set_option maxRecDepth 100000 in
theorem zt_X5_readAct_J86 {p : Program} {l : Launch} {e : Env} {R : Room} {s : State} {m : MethodId} {args : Array Value} {below : List Frame} {meth : Method} {c : Code} {V : zm_V} {mc ms d rc rs : Nat} (hX : zm_X p R s m args meth c RX5 "readAct" cX5_readAct 3 zk_E V mc ms) (hr : meth.sig.returnType = (some .boolean)) (hR : R.frames = d ∧ R.locals = 64 * d) (hd : 5 ≤ d) {N : Nat} {a0 : Nat} {i1 : Int32} {t0 : Int32} {out : (Int32 × zm_S)} {S : zm_S} (h : zf_X5_readAct_J86 N a0 i1 t0 S = some out) : zw p l e R s m args below meth c (vx_MQ below (zm_Qc zk_E V (zo_i out)) (zm_XC zk_E V zo_x) args s mc ms (fun q => V.2.2.2.1 ≤ q)) 3 zk_E V mc ms 86 [(0, .ref a0), (1, .int i1)] [.int t0] S rc rs := by
  unfold zf_X5_readAct_J86 at h
  refine zw_istore_n hX dX5_readAct_86 (by decide) ?_
  refine zw_aload_n hX dX5_readAct_87 rfl ?_
  obtain ⟨b10, g, h⟩ := zb_some h
  refine zw_getr hX zl_X5_20 dX5_readAct_88 g ?_
  refine zw_iload_n hX dX5_readAct_91 rfl ?_
  obtain ⟨b11, g, h⟩ := zb_some h
  refine zw_xr hX dX5_readAct_92 g ?_
  refine zw_iconst (v := (0 : Int32)) hX dX5_readAct_93 (by decide) ?_
  refine zw_iconst (v := (1 : Int32)) hX dX5_readAct_94 (by decide) ?_
  obtain ⟨S12, g, h⟩ := zb_some h
  refine zw_si hX dX5_readAct_95 g ?_
  refine zw_iload_n hX dX5_readAct_96 rfl ?_
  by_cases cz : t0 = 0 ∨ t0 = 1
  · rw [if_pos cz] at h
    obtain rfl := Option.some.inj h
    exact zw_iret hX hr dX5_readAct_97 (zn_z cz) ⟨rfl, rfl⟩
  · rw [if_neg cz] at h
    cases h
set_option maxHeartbeats 4000000 in
set_option maxRecDepth 100000 in
theorem zt_X5_readAct_J85 {p : Program} {l : Launch} {e : Env} {R : Room} {s : State} {m : MethodId} {args : Array Value} {below : List Frame} {meth : Method} {c : Code} {V : zm_V} {mc ms d rc rs : Nat} (hX : zm_X p R s m args meth c RX5 "readAct" cX5_readAct 3 zk_E V mc ms) (hr : meth.sig.returnType = (some .boolean)) (hR : R.frames = d ∧ R.locals = 64 * d) (hd : 5 ≤ d) {N : Nat} {a0 : Nat} {i1 : Int32} {out : (Int32 × zm_S)} {S : zm_S} (h : zf_X5_readAct_J85 N a0 i1 S = some out) : zw p l e R s m args below meth c (vx_MQ below (zm_Qc zk_E V (zo_i out)) (zm_XC zk_E V zo_x) args s mc ms (fun q => V.2.2.2.1 ≤ q)) 3 zk_E V mc ms 85 [(0, .ref a0), (1, .int i1)] [] S rc rs := by
  unfold zf_X5_readAct_J85 at h
  refine zw_iconst (v := (0 : Int32)) hX dX5_readAct_85 (by decide) ?_
  refine zw_sub (lv' := [(0, .ref a0), (1, .int i1)]) (List.forall_mem_cons.mpr ⟨rfl, (List.forall_mem_cons.mpr ⟨rfl, zs_nil⟩)⟩) ?_
  exact zt_X5_readAct_J86 hX hr hR hd h
set_option maxHeartbeats 4000000 in
set_option maxRecDepth 100000 in
theorem zt_X5_readAct {l : Launch} {V : zm_V} {N : Nat} {S : zm_S} {out : (Int32 × zm_S)} {d : Nat} {a0 : Nat} (hd : 5 ≤ d) (h : zf_X5_readAct N a0 S = some out) : zm_Met l zk_E V yX5_readAct (.code yX5_readAct cX5_readAct 3 (some .boolean)) d [.ref a0] S 0 0 (zo_i out) zo_x := by
  refine zm_of (by decide +kernel) (Nat.le_of_ble_eq_true rfl) ?_
  intro p e R s m args below meth c hRR hX hr hxt
  have hR : R.frames = d ∧ R.locals = 64 * d := by rw [hRR]; exact ⟨rfl, rfl⟩
  have hX : zm_X p R s m args meth c RX5 "readAct" cX5_readAct 3 zk_E V 0 0 := hX
  unfold zf_X5_readAct at h
  refine zw_sub (lv' := [(0, .ref a0)]) (List.forall_mem_cons.mpr ⟨rfl, zs_nil⟩) ?_
  refine zw_aload_n hX dX5_readAct_0 rfl ?_
  refine zw_iconst (v := (0 : Int32)) hX dX5_readAct_1 (by decide) ?_
  refine zw_bipush (v := (19 : Int32)) hX dX5_readAct_2 (by decide) ?_
  obtain ⟨_, gi, h⟩ := zb_some h
  obtain ⟨r2, g, h⟩ := zb_some h
  refine zc_Vi (as := [.int (0 : Int32), .int (19 : Int32)]) hX gi (zt_X5_numberHere (d := d - 1) (by omega) g) zl_X5_130 rfl dX5_readAct_4 ⟨rfl, rfl, Nat.le_of_ble_eq_true rfl⟩ ⟨by omega, by omega⟩ ?_
  refine zw_istore_n hX dX5_readAct_7 (by decide) ?_
  refine zw_iload_n hX dX5_readAct_8 rfl ?_
  refine zw_iconst (v := (-1 : Int32)) hX dX5_readAct_9 (by decide) ?_
  refine zw_icmp_eq (tgt := 24) hX dX5_readAct_10 (by decide) (fun c10 => ?_) (fun c10 => ?_)
  · rw [if_pos c10] at h
    refine zw_iconst (v := (0 : Int32)) hX dX5_readAct_24 (by decide) ?_
    obtain rfl := Option.some.inj h
    exact zw_iret hX hr dX5_readAct_25 rfl ⟨rfl, rfl⟩
  · rw [if_neg c10] at h
    refine zw_aload_n hX dX5_readAct_13 rfl ?_
    obtain ⟨b3, g, h⟩ := zb_some h
    refine zw_getr hX zl_X5_20 dX5_readAct_14 g ?_
    refine zw_iload_n hX dX5_readAct_17 rfl ?_
    obtain ⟨b4, g, h⟩ := zb_some h
    refine zw_xr hX dX5_readAct_18 g ?_
    refine zw_iconst (v := (0 : Int32)) hX dX5_readAct_19 (by decide) ?_
    obtain ⟨v5, g, h⟩ := zb_some h
    refine zw_xi hX dX5_readAct_20 g ?_
    refine zw_if_eq (tgt := 26) hX dX5_readAct_21 (by decide) (fun c21 => ?_) (fun c21 => ?_)
    · rw [if_pos c21] at h
      refine zw_aload_n hX dX5_readAct_26 rfl ?_
      obtain ⟨_, gi, h⟩ := zb_some h
      obtain ⟨r7, g, h⟩ := zb_some h
      refine zc_Vv (as := []) hX gi (zt_X5_nextWord (d := d - 1) (by omega) g) zl_X5_81 rfl dX5_readAct_27 ⟨rfl, rfl, Nat.le_of_ble_eq_true rfl⟩ ⟨by omega, by omega⟩ ?_
      refine zw_aload_n hX dX5_readAct_30 rfl ?_
      refine zw_iload_n hX dX5_readAct_31 rfl ?_
      refine zw_ldc2 (v := (1802071652 : Int64)) hX dX5_readAct_32 zl_X5_49 ?_
      refine zw_iconst (v := (1 : Int32)) hX dX5_readAct_35 (by decide) ?_
      refine zw_iconst (v := (5 : Int32)) hX dX5_readAct_36 (by decide) ?_
      obtain ⟨_, gi, h⟩ := zb_some h
      obtain ⟨r9, g, h⟩ := zb_some h
      refine zc_Vi (as := [.int r2.1, .long (1802071652 : Int64), .int (1 : Int32), .int (5 : Int32)]) hX gi (zt_X5_readActNumber (d := d - 1) (by omega) g) zl_X5_146 rfl dX5_readAct_37 ⟨rfl, rfl, Nat.le_of_ble_eq_true rfl⟩ ⟨by omega, by omega⟩ ?_
      refine zw_if_eq (tgt := 85) hX dX5_readAct_40 (by decide) (fun c40 => ?_) (fun c40 => ?_)
      · rw [if_pos c40] at h
        refine zw_sub (lv' := [(0, .ref a0), (1, .int r2.1)]) (List.forall_mem_cons.mpr ⟨rfl, (List.forall_mem_cons.mpr ⟨rfl, zs_nil⟩)⟩) ?_
        exact zt_X5_readAct_J85 hX hr hR hd h
      · rw [if_neg c40] at h
        refine zw_aload_n hX dX5_readAct_43 rfl ?_
        refine zw_iload_n hX dX5_readAct_44 rfl ?_
        refine zw_ldc2 (v := (1918987883 : Int64)) hX dX5_readAct_45 zl_X5_51 ?_
        refine zw_iconst (v := (2 : Int32)) hX dX5_readAct_48 (by decide) ?_
        refine zw_bipush (v := (99 : Int32)) hX dX5_readAct_49 (by decide) ?_
        obtain ⟨_, gi, h⟩ := zb_some h
        obtain ⟨r14, g, h⟩ := zb_some h
        refine zc_Vi (as := [.int r2.1, .long (1918987883 : Int64), .int (2 : Int32), .int (99 : Int32)]) hX gi (zt_X5_readActNumber (d := d - 1) (by omega) g) zl_X5_146 rfl dX5_readAct_51 ⟨rfl, rfl, Nat.le_of_ble_eq_true rfl⟩ ⟨by omega, by omega⟩ ?_
        refine zw_if_eq (tgt := 85) hX dX5_readAct_54 (by decide) (fun c54 => ?_) (fun c54 => ?_)
        · rw [if_pos c54] at h
          refine zw_sub (lv' := [(0, .ref a0), (1, .int r2.1)]) (List.forall_mem_cons.mpr ⟨rfl, (List.forall_mem_cons.mpr ⟨rfl, zs_nil⟩)⟩) ?_
          exact zt_X5_readAct_J85 hX hr hR hd h
        · rw [if_neg c54] at h
          refine zw_aload_n hX dX5_readAct_57 rfl ?_
          refine zw_iload_n hX dX5_readAct_58 rfl ?_
          refine zw_ldc2 (v := (431198331257 : Int64)) hX dX5_readAct_59 zl_X5_53 ?_
          refine zw_iconst (v := (3 : Int32)) hX dX5_readAct_62 (by decide) ?_
          refine zw_sipush (v := (600 : Int32)) hX dX5_readAct_63 (by decide) ?_
          obtain ⟨_, gi, h⟩ := zb_some h
          obtain ⟨r16, g, h⟩ := zb_some h
          refine zc_Vi (as := [.int r2.1, .long (431198331257 : Int64), .int (3 : Int32), .int (600 : Int32)]) hX gi (zt_X5_readActNumber (d := d - 1) (by omega) g) zl_X5_146 rfl dX5_readAct_66 ⟨rfl, rfl, Nat.le_of_ble_eq_true rfl⟩ ⟨by omega, by omega⟩ ?_
          refine zw_if_eq (tgt := 85) hX dX5_readAct_69 (by decide) (fun c69 => ?_) (fun c69 => ?_)
          · rw [if_pos c69] at h
            refine zw_sub (lv' := [(0, .ref a0), (1, .int r2.1)]) (List.forall_mem_cons.mpr ⟨rfl, (List.forall_mem_cons.mpr ⟨rfl, zs_nil⟩)⟩) ?_
            exact zt_X5_readAct_J85 hX hr hR hd h
          · rw [if_neg c69] at h
            refine zw_aload_n hX dX5_readAct_72 rfl ?_
            refine zw_bipush (v := (59 : Int32)) hX dX5_readAct_73 (by decide) ?_
            obtain ⟨_, gi, h⟩ := zb_some h
            obtain ⟨r18, g, h⟩ := zb_some h
            refine zc_Vi (as := [.int (59 : Int32)]) hX gi (zt_X5_skipSign (d := d - 1) (by omega) g) zl_X5_138 rfl dX5_readAct_75 ⟨rfl, rfl, Nat.le_of_ble_eq_true rfl⟩ ⟨by omega, by omega⟩ ?_
            refine zw_if_eq (tgt := 85) hX dX5_readAct_78 (by decide) (fun c78 => ?_) (fun c78 => ?_)
            · rw [if_pos c78] at h
              refine zw_sub (lv' := [(0, .ref a0), (1, .int r2.1)]) (List.forall_mem_cons.mpr ⟨rfl, (List.forall_mem_cons.mpr ⟨rfl, zs_nil⟩)⟩) ?_
              exact zt_X5_readAct_J85 hX hr hR hd h
            · rw [if_neg c78] at h
              refine zw_iconst (v := (1 : Int32)) hX dX5_readAct_81 (by decide) ?_
              refine zw_goto (tgt := 86) hX dX5_readAct_82 (by decide) ?_
              refine zw_sub (lv' := [(0, .ref a0), (1, .int r2.1)]) (List.forall_mem_cons.mpr ⟨rfl, (List.forall_mem_cons.mpr ⟨rfl, zs_nil⟩)⟩) ?_
              exact zt_X5_readAct_J86 hX hr hR hd h
    · rw [if_neg c21] at h
      refine zw_iconst (v := (0 : Int32)) hX dX5_readAct_24 (by decide) ?_
      obtain rfl := Option.some.inj h
      exact zw_iret hX hr dX5_readAct_25 rfl ⟨rfl, rfl⟩
set_option maxHeartbeats 4000000 in
set_option maxRecDepth 100000 in
theorem zt_X5_toldZoneHere {l : Launch} {V : zm_V} {N : Nat} {S : zm_S} {out : (Int32 × zm_S)} {d : Nat} {a0 : Nat} (hd : 2 ≤ d) (h : zf_X5_toldZoneHere N a0 S = some out) : zm_Met l zk_E V yX5_toldZoneHere (.code yX5_toldZoneHere cX5_toldZoneHere 2 (some .int)) d [.ref a0] S 0 0 (zo_i out) zo_x := by
  refine zm_of (by decide +kernel) (Nat.le_of_ble_eq_true rfl) ?_
  intro p e R s m args below meth c hRR hX hr hxt
  have hR : R.frames = d ∧ R.locals = 64 * d := by rw [hRR]; exact ⟨rfl, rfl⟩
  have hX : zm_X p R s m args meth c RX5 "toldZoneHere" cX5_toldZoneHere 2 zk_E V 0 0 := hX
  unfold zf_X5_toldZoneHere at h
  refine zw_sub (lv' := [(0, .ref a0)]) (List.forall_mem_cons.mpr ⟨rfl, zs_nil⟩) ?_
  refine zw_aload_n hX dX5_toldZoneHere_0 rfl ?_
  refine zw_iconst (v := (0 : Int32)) hX dX5_toldZoneHere_1 (by decide) ?_
  refine zw_bipush (v := (19 : Int32)) hX dX5_toldZoneHere_2 (by decide) ?_
  obtain ⟨_, gi, h⟩ := zb_some h
  obtain ⟨r2, g, h⟩ := zb_some h
  refine zc_Vi (as := [.int (0 : Int32), .int (19 : Int32)]) hX gi (zt_X5_numberHere (d := d - 1) (by omega) g) zl_X5_130 rfl dX5_toldZoneHere_4 ⟨rfl, rfl, Nat.le_of_ble_eq_true rfl⟩ ⟨by omega, by omega⟩ ?_
  refine zw_istore_n hX dX5_toldZoneHere_7 (by decide) ?_
  refine zw_iload_n hX dX5_toldZoneHere_8 rfl ?_
  refine zw_iconst (v := (-1 : Int32)) hX dX5_toldZoneHere_9 (by decide) ?_
  refine zw_icmp_eq (tgt := 28) hX dX5_toldZoneHere_10 (by decide) (fun c10 => ?_) (fun c10 => ?_)
  · rw [if_pos c10] at h
    refine zw_iconst (v := (-1 : Int32)) hX dX5_toldZoneHere_28 (by decide) ?_
    obtain rfl := Option.some.inj h
    exact zw_iret hX hr dX5_toldZoneHere_29 rfl ⟨rfl, rfl⟩
  · rw [if_neg c10] at h
    refine zw_aload_n hX dX5_toldZoneHere_13 rfl ?_
    obtain ⟨b3, g, h⟩ := zb_some h
    refine zw_getr hX zl_X5_17 dX5_toldZoneHere_14 g ?_
    refine zw_iload_n hX dX5_toldZoneHere_17 rfl ?_
    obtain ⟨b4, g, h⟩ := zb_some h
    refine zw_xr hX dX5_toldZoneHere_18 g ?_
    refine zw_iconst (v := (0 : Int32)) hX dX5_toldZoneHere_19 (by decide) ?_
    obtain ⟨v5, g, h⟩ := zb_some h
    refine zw_xi hX dX5_toldZoneHere_20 g ?_
    refine zw_if_eq (tgt := 28) hX dX5_toldZoneHere_21 (by decide) (fun c21 => ?_) (fun c21 => ?_)
    · rw [if_pos c21] at h
      refine zw_iconst (v := (-1 : Int32)) hX dX5_toldZoneHere_28 (by decide) ?_
      obtain rfl := Option.some.inj h
      exact zw_iret hX hr dX5_toldZoneHere_29 rfl ⟨rfl, rfl⟩
    · rw [if_neg c21] at h
      refine zw_iload_n hX dX5_toldZoneHere_24 rfl ?_
      refine zw_goto (tgt := 29) hX dX5_toldZoneHere_25 (by decide) ?_
      obtain rfl := Option.some.inj h
      exact zw_iret hX hr dX5_toldZoneHere_29 rfl ⟨rfl, rfl⟩
set_option maxHeartbeats 4000000 in
set_option maxRecDepth 100000 in
theorem zt_X5_toldActHere {l : Launch} {V : zm_V} {N : Nat} {S : zm_S} {out : (Int32 × zm_S)} {d : Nat} {a0 : Nat} (hd : 2 ≤ d) (h : zf_X5_toldActHere N a0 S = some out) : zm_Met l zk_E V yX5_toldActHere (.code yX5_toldActHere cX5_toldActHere 2 (some .int)) d [.ref a0] S 0 0 (zo_i out) zo_x := by
  refine zm_of (by decide +kernel) (Nat.le_of_ble_eq_true rfl) ?_
  intro p e R s m args below meth c hRR hX hr hxt
  have hR : R.frames = d ∧ R.locals = 64 * d := by rw [hRR]; exact ⟨rfl, rfl⟩
  have hX : zm_X p R s m args meth c RX5 "toldActHere" cX5_toldActHere 2 zk_E V 0 0 := hX
  unfold zf_X5_toldActHere at h
  refine zw_sub (lv' := [(0, .ref a0)]) (List.forall_mem_cons.mpr ⟨rfl, zs_nil⟩) ?_
  refine zw_aload_n hX dX5_toldActHere_0 rfl ?_
  refine zw_iconst (v := (0 : Int32)) hX dX5_toldActHere_1 (by decide) ?_
  refine zw_bipush (v := (19 : Int32)) hX dX5_toldActHere_2 (by decide) ?_
  obtain ⟨_, gi, h⟩ := zb_some h
  obtain ⟨r2, g, h⟩ := zb_some h
  refine zc_Vi (as := [.int (0 : Int32), .int (19 : Int32)]) hX gi (zt_X5_numberHere (d := d - 1) (by omega) g) zl_X5_130 rfl dX5_toldActHere_4 ⟨rfl, rfl, Nat.le_of_ble_eq_true rfl⟩ ⟨by omega, by omega⟩ ?_
  refine zw_istore_n hX dX5_toldActHere_7 (by decide) ?_
  refine zw_iload_n hX dX5_toldActHere_8 rfl ?_
  refine zw_iconst (v := (-1 : Int32)) hX dX5_toldActHere_9 (by decide) ?_
  refine zw_icmp_eq (tgt := 28) hX dX5_toldActHere_10 (by decide) (fun c10 => ?_) (fun c10 => ?_)
  · rw [if_pos c10] at h
    refine zw_iconst (v := (-1 : Int32)) hX dX5_toldActHere_28 (by decide) ?_
    obtain rfl := Option.some.inj h
    exact zw_iret hX hr dX5_toldActHere_29 rfl ⟨rfl, rfl⟩
  · rw [if_neg c10] at h
    refine zw_aload_n hX dX5_toldActHere_13 rfl ?_
    obtain ⟨b3, g, h⟩ := zb_some h
    refine zw_getr hX zl_X5_20 dX5_toldActHere_14 g ?_
    refine zw_iload_n hX dX5_toldActHere_17 rfl ?_
    obtain ⟨b4, g, h⟩ := zb_some h
    refine zw_xr hX dX5_toldActHere_18 g ?_
    refine zw_iconst (v := (0 : Int32)) hX dX5_toldActHere_19 (by decide) ?_
    obtain ⟨v5, g, h⟩ := zb_some h
    refine zw_xi hX dX5_toldActHere_20 g ?_
    refine zw_if_eq (tgt := 28) hX dX5_toldActHere_21 (by decide) (fun c21 => ?_) (fun c21 => ?_)
    · rw [if_pos c21] at h
      refine zw_iconst (v := (-1 : Int32)) hX dX5_toldActHere_28 (by decide) ?_
      obtain rfl := Option.some.inj h
      exact zw_iret hX hr dX5_toldActHere_29 rfl ⟨rfl, rfl⟩
    · rw [if_neg c21] at h
      refine zw_iload_n hX dX5_toldActHere_24 rfl ?_
      refine zw_goto (tgt := 29) hX dX5_toldActHere_25 (by decide) ?_
      obtain rfl := Option.some.inj h
      exact zw_iret hX hr dX5_toldActHere_29 rfl ⟨rfl, rfl⟩
set_option maxHeartbeats 4000000 in
set_option maxRecDepth 100000 in
theorem zt_X5_readRow_J52 {p : Program} {l : Launch} {e : Env} {R : Room} {s : State} {m : MethodId} {args : Array Value} {below : List Frame} {meth : Method} {c : Code} {V : zm_V} {mc ms d rc rs : Nat} (hX : zm_X p R s m args meth c RX5 "readRow" cX5_readRow 5 zk_E V mc ms) (hr : meth.sig.returnType = (some .boolean)) (hR : R.frames = d ∧ R.locals = 64 * d) (hd : 4 ≤ d) {N : Nat} {a0 : Nat} {i1 : Int32} {i2 : Int32} {out : (Int32 × zm_S)} {S : zm_S} (h : zf_X5_readRow_J52 N a0 i1 i2 S = some out) : zw p l e R s m args below meth c (vx_MQ below (zm_Qc zk_E V (zo_i out)) (zm_XC zk_E V zo_x) args s mc ms (fun q => V.2.2.2.1 ≤ q)) 5 zk_E V mc ms 52 [(0, .ref a0), (1, .int i1), (2, .int i2)] [] S rc rs := by
  unfold zf_X5_readRow_J52 at h
  refine zw_aload_n hX dX5_readRow_52 rfl ?_
  refine zw_ldc2 (v := (1685022067 : Int64)) hX dX5_readRow_53 zl_X5_57 ?_
  obtain ⟨_, gi, h⟩ := zb_some h
  obtain ⟨r10, g, h⟩ := zb_some h
  refine zc_Vi (as := [.long (1685022067 : Int64)]) hX gi (zt_X5_skipWord (d := d - 1) (by omega) g) zl_X5_115 rfl dX5_readRow_56 ⟨rfl, rfl, Nat.le_of_ble_eq_true rfl⟩ ⟨by omega, by omega⟩ ?_
  refine zw_if_ne (tgt := 64) hX dX5_readRow_59 (by decide) (fun c59 => ?_) (fun c59 => ?_)
  · rw [if_neg c59] at h
    refine zw_aload_n hX dX5_readRow_64 rfl ?_
    obtain ⟨_, gi, h⟩ := zb_some h
    obtain ⟨r12, g, h⟩ := zb_some h
    refine zc_Vi (as := []) hX gi (zt_X5_toldActHere (d := d - 1) (by omega) g) zl_X5_154 rfl dX5_readRow_65 ⟨rfl, rfl, Nat.le_of_ble_eq_true rfl⟩ ⟨by omega, by omega⟩ ?_
    refine zw_istore_n hX dX5_readRow_68 (by decide) ?_
    refine zw_iload_n hX dX5_readRow_69 rfl ?_
    refine zw_iconst (v := (-1 : Int32)) hX dX5_readRow_70 (by decide) ?_
    refine zw_icmp_ne (tgt := 76) hX dX5_readRow_71 (by decide) (fun c71 => ?_) (fun c71 => ?_)
    · rw [if_neg c71] at h
      refine zw_aload_n hX dX5_readRow_76 rfl ?_
      obtain ⟨_, gi, h⟩ := zb_some h
      obtain ⟨r14, g, h⟩ := zb_some h
      refine zc_Vv (as := []) hX gi (zt_X5_nextWord (d := d - 1) (by omega) g) zl_X5_81 rfl dX5_readRow_77 ⟨rfl, rfl, Nat.le_of_ble_eq_true rfl⟩ ⟨by omega, by omega⟩ ?_
      refine zw_aload_n hX dX5_readRow_80 rfl ?_
      refine zw_bipush (v := (59 : Int32)) hX dX5_readRow_81 (by decide) ?_
      obtain ⟨_, gi, h⟩ := zb_some h
      obtain ⟨r16, g, h⟩ := zb_some h
      refine zc_Vi (as := [.int (59 : Int32)]) hX gi (zt_X5_skipSign (d := d - 1) (by omega) g) zl_X5_138 rfl dX5_readRow_83 ⟨rfl, rfl, Nat.le_of_ble_eq_true rfl⟩ ⟨by omega, by omega⟩ ?_
      refine zw_if_ne (tgt := 91) hX dX5_readRow_86 (by decide) (fun c86 => ?_) (fun c86 => ?_)
      · rw [if_neg c86] at h
        refine zw_aload_n hX dX5_readRow_91 rfl ?_
        obtain ⟨b17, g, h⟩ := zb_some h
        refine zw_getr hX zl_X5_23 dX5_readRow_92 g ?_
        refine zw_aload_n hX dX5_readRow_95 rfl ?_
        obtain ⟨v18, g, h⟩ := zb_some h
        refine zw_geti hX zl_X5_91 dX5_readRow_96 g ?_
        obtain ⟨b19, g, h⟩ := zb_some h
        refine zw_xr hX dX5_readRow_99 g ?_
        refine zw_astore hX dX5_readRow_100 (by decide) ?_
        refine zw_aload hX dX5_readRow_102 rfl ?_
        refine zw_iconst (v := (0 : Int32)) hX dX5_readRow_104 (by decide) ?_
        refine zw_iload_n hX dX5_readRow_105 rfl ?_
        obtain ⟨S20, g, h⟩ := zb_some h
        refine zw_si hX dX5_readRow_106 g ?_
        refine zw_aload hX dX5_readRow_107 rfl ?_
        refine zw_iconst (v := (1 : Int32)) hX dX5_readRow_109 (by decide) ?_
        refine zw_iload_n hX dX5_readRow_110 rfl ?_
        obtain ⟨S21, g, h⟩ := zb_some h
        refine zw_si hX dX5_readRow_111 g ?_
        refine zw_aload hX dX5_readRow_112 rfl ?_
        refine zw_iconst (v := (2 : Int32)) hX dX5_readRow_114 (by decide) ?_
        refine zw_iload_n hX dX5_readRow_115 rfl ?_
        obtain ⟨S22, g, h⟩ := zb_some h
        refine zw_si hX dX5_readRow_116 g ?_
        refine zw_aload_n hX dX5_readRow_117 rfl ?_
        refine zw_dup hX dX5_readRow_118 rfl ?_
        obtain ⟨v23, g, h⟩ := zb_some h
        refine zw_geti hX zl_X5_91 dX5_readRow_119 g ?_
        refine zw_iconst (v := (1 : Int32)) hX dX5_readRow_122 (by decide) ?_
        refine zw_iadd hX dX5_readRow_123 ?_
        obtain ⟨S24, g, h⟩ := zb_some h
        refine zw_putv hX zl_X5_91 zt_5_12 dX5_readRow_124 rfl rfl g ?_
        refine zw_iconst (v := (1 : Int32)) hX dX5_readRow_127 (by decide) ?_
        obtain rfl := Option.some.inj h
        exact zw_iret hX hr dX5_readRow_128 rfl ⟨rfl, rfl⟩
      · rw [if_pos c86] at h
        refine zw_iconst (v := (0 : Int32)) hX dX5_readRow_89 (by decide) ?_
        obtain rfl := Option.some.inj h
        exact zw_iret hX hr dX5_readRow_90 rfl ⟨rfl, rfl⟩
    · rw [if_pos c71] at h
      refine zw_iconst (v := (0 : Int32)) hX dX5_readRow_74 (by decide) ?_
      obtain rfl := Option.some.inj h
      exact zw_iret hX hr dX5_readRow_75 rfl ⟨rfl, rfl⟩
  · rw [if_pos c59] at h
    refine zw_iconst (v := (0 : Int32)) hX dX5_readRow_62 (by decide) ?_
    obtain rfl := Option.some.inj h
    exact zw_iret hX hr dX5_readRow_63 rfl ⟨rfl, rfl⟩
set_option maxHeartbeats 4000000 in
set_option maxRecDepth 100000 in
theorem zt_X5_readRow {l : Launch} {V : zm_V} {N : Nat} {S : zm_S} {out : (Int32 × zm_S)} {d : Nat} {a0 : Nat} (hd : 4 ≤ d) (h : zf_X5_readRow N a0 S = some out) : zm_Met l zk_E V yX5_readRow (.code yX5_readRow cX5_readRow 5 (some .boolean)) d [.ref a0] S 0 0 (zo_i out) zo_x := by
  refine zm_of (by decide +kernel) (Nat.le_of_ble_eq_true rfl) ?_
  intro p e R s m args below meth c hRR hX hr hxt
  have hR : R.frames = d ∧ R.locals = 64 * d := by rw [hRR]; exact ⟨rfl, rfl⟩
  have hX : zm_X p R s m args meth c RX5 "readRow" cX5_readRow 5 zk_E V 0 0 := hX
  unfold zf_X5_readRow at h
  refine zw_sub (lv' := [(0, .ref a0)]) (List.forall_mem_cons.mpr ⟨rfl, zs_nil⟩) ?_
  refine zw_aload_n hX dX5_readRow_0 rfl ?_
  obtain ⟨_, gi, h⟩ := zb_some h
  obtain ⟨r2, g, h⟩ := zb_some h
  refine zc_Vv (as := []) hX gi (zt_X5_nextWord (d := d - 1) (by omega) g) zl_X5_81 rfl dX5_readRow_1 ⟨rfl, rfl, Nat.le_of_ble_eq_true rfl⟩ ⟨by omega, by omega⟩ ?_
  refine zw_aload_n hX dX5_readRow_4 rfl ?_
  obtain ⟨_, gi, h⟩ := zb_some h
  obtain ⟨r4, g, h⟩ := zb_some h
  refine zc_Vi (as := []) hX gi (zt_X5_toldZoneHere (d := d - 1) (by omega) g) zl_X5_150 rfl dX5_readRow_5 ⟨rfl, rfl, Nat.le_of_ble_eq_true rfl⟩ ⟨by omega, by omega⟩ ?_
  refine zw_istore_n hX dX5_readRow_8 (by decide) ?_
  refine zw_iload_n hX dX5_readRow_9 rfl ?_
  refine zw_iconst (v := (-1 : Int32)) hX dX5_readRow_10 (by decide) ?_
  refine zw_icmp_ne (tgt := 16) hX dX5_readRow_11 (by decide) (fun c11 => ?_) (fun c11 => ?_)
  · rw [if_neg c11] at h
    refine zw_aload_n hX dX5_readRow_16 rfl ?_
    obtain ⟨_, gi, h⟩ := zb_some h
    obtain ⟨r6, g, h⟩ := zb_some h
    refine zc_Vv (as := []) hX gi (zt_X5_nextWord (d := d - 1) (by omega) g) zl_X5_81 rfl dX5_readRow_17 ⟨rfl, rfl, Nat.le_of_ble_eq_true rfl⟩ ⟨by omega, by omega⟩ ?_
    refine zw_iconst (v := (-1 : Int32)) hX dX5_readRow_20 (by decide) ?_
    refine zw_istore_n hX dX5_readRow_21 (by decide) ?_
    refine zw_aload_n hX dX5_readRow_22 rfl ?_
    refine zw_bipush (v := (38 : Int32)) hX dX5_readRow_23 (by decide) ?_
    obtain ⟨_, gi, h⟩ := zb_some h
    obtain ⟨r8, g, h⟩ := zb_some h
    refine zc_Vi (as := [.int (38 : Int32)]) hX gi (zt_X5_skipSign (d := d - 1) (by omega) g) zl_X5_138 rfl dX5_readRow_25 ⟨rfl, rfl, Nat.le_of_ble_eq_true rfl⟩ ⟨by omega, by omega⟩ ?_
    refine zw_if_eq (tgt := 52) hX dX5_readRow_28 (by decide) (fun c28 => ?_) (fun c28 => ?_)
    · rw [if_pos c28] at h
      refine zw_sub (lv' := [(0, .ref a0), (1, .int r4.1), (2, .int (-1 : Int32))]) (List.forall_mem_cons.mpr ⟨rfl, (List.forall_mem_cons.mpr ⟨rfl, (List.forall_mem_cons.mpr ⟨rfl, zs_nil⟩)⟩)⟩) ?_
      exact zt_X5_readRow_J52 hX hr hR hd h
    · rw [if_neg c28] at h
      refine zw_aload_n hX dX5_readRow_31 rfl ?_
      obtain ⟨_, gi, h⟩ := zb_some h
      obtain ⟨r26, g, h⟩ := zb_some h
      refine zc_Vi (as := []) hX gi (zt_X5_toldZoneHere (d := d - 1) (by omega) g) zl_X5_150 rfl dX5_readRow_32 ⟨rfl, rfl, Nat.le_of_ble_eq_true rfl⟩ ⟨by omega, by omega⟩ ?_
      refine zw_istore_n hX dX5_readRow_35 (by decide) ?_
      refine zw_iload_n hX dX5_readRow_36 rfl ?_
      refine zw_iconst (v := (-1 : Int32)) hX dX5_readRow_37 (by decide) ?_
      refine zw_icmp_eq (tgt := 46) hX dX5_readRow_38 (by decide) (fun c38 => ?_) (fun c38 => ?_)
      · rw [if_pos c38] at h
        refine zw_iconst (v := (0 : Int32)) hX dX5_readRow_46 (by decide) ?_
        obtain rfl := Option.some.inj h
        exact zw_iret hX hr dX5_readRow_47 rfl ⟨rfl, rfl⟩
      · rw [if_neg c38] at h
        refine zw_iload_n hX dX5_readRow_41 rfl ?_
        refine zw_iload_n hX dX5_readRow_42 rfl ?_
        refine zw_icmp_ne (tgt := 48) hX dX5_readRow_43 (by decide) (fun c43 => ?_) (fun c43 => ?_)
        · rw [if_neg c43] at h
          refine zw_aload_n hX dX5_readRow_48 rfl ?_
          obtain ⟨_, gi, h⟩ := zb_some h
          obtain ⟨r28, g, h⟩ := zb_some h
          refine zc_Vv (as := []) hX gi (zt_X5_nextWord (d := d - 1) (by omega) g) zl_X5_81 rfl dX5_readRow_49 ⟨rfl, rfl, Nat.le_of_ble_eq_true rfl⟩ ⟨by omega, by omega⟩ ?_
          refine zw_sub (lv' := [(0, .ref a0), (1, .int r4.1), (2, .int r26.1)]) (List.forall_mem_cons.mpr ⟨rfl, (List.forall_mem_cons.mpr ⟨rfl, (List.forall_mem_cons.mpr ⟨rfl, zs_nil⟩)⟩)⟩) ?_
          exact zt_X5_readRow_J52 hX hr hR hd h
        · rw [if_pos c43] at h
          refine zw_iconst (v := (0 : Int32)) hX dX5_readRow_46 (by decide) ?_
          obtain rfl := Option.some.inj h
          exact zw_iret hX hr dX5_readRow_47 rfl ⟨rfl, rfl⟩
  · rw [if_pos c11] at h
    refine zw_iconst (v := (0 : Int32)) hX dX5_readRow_14 (by decide) ?_
    obtain rfl := Option.some.inj h
    exact zw_iret hX hr dX5_readRow_15 rfl ⟨rfl, rfl⟩
set_option maxHeartbeats 4000000 in
set_option maxRecDepth 100000 in
theorem zt_X5_readHold {l : Launch} {V : zm_V} {N : Nat} {S : zm_S} {out : (Int32 × zm_S)} {d : Nat} {a0 : Nat} (hd : 4 ≤ d) (h : zf_X5_readHold N a0 S = some out) : zm_Met l zk_E V yX5_readHold (.code yX5_readHold cX5_readHold 2 (some .boolean)) d [.ref a0] S 0 0 (zo_i out) zo_x := by
  refine zm_of (by decide +kernel) (Nat.le_of_ble_eq_true rfl) ?_
  intro p e R s m args below meth c hRR hX hr hxt
  have hR : R.frames = d ∧ R.locals = 64 * d := by rw [hRR]; exact ⟨rfl, rfl⟩
  have hX : zm_X p R s m args meth c RX5 "readHold" cX5_readHold 2 zk_E V 0 0 := hX
  unfold zf_X5_readHold at h
  refine zw_sub (lv' := [(0, .ref a0)]) (List.forall_mem_cons.mpr ⟨rfl, zs_nil⟩) ?_
  refine zw_aload_n hX dX5_readHold_0 rfl ?_
  obtain ⟨_, gi, h⟩ := zb_some h
  obtain ⟨r2, g, h⟩ := zb_some h
  refine zc_Vi (as := []) hX gi (zt_X5_toldActHere (d := d - 1) (by omega) g) zl_X5_154 rfl dX5_readHold_1 ⟨rfl, rfl, Nat.le_of_ble_eq_true rfl⟩ ⟨by omega, by omega⟩ ?_
  refine zw_istore_n hX dX5_readHold_4 (by decide) ?_
  refine zw_iload_n hX dX5_readHold_5 rfl ?_
  refine zw_iconst (v := (-1 : Int32)) hX dX5_readHold_6 (by decide) ?_
  refine zw_icmp_eq (tgt := 21) hX dX5_readHold_7 (by decide) (fun c7 => ?_) (fun c7 => ?_)
  · rw [if_pos c7] at h
    refine zw_iconst (v := (0 : Int32)) hX dX5_readHold_21 (by decide) ?_
    obtain rfl := Option.some.inj h
    exact zw_iret hX hr dX5_readHold_22 rfl ⟨rfl, rfl⟩
  · rw [if_neg c7] at h
    refine zw_aload_n hX dX5_readHold_10 rfl ?_
    obtain ⟨b3, g, h⟩ := zb_some h
    refine zw_getr hX zl_X5_20 dX5_readHold_11 g ?_
    refine zw_iload_n hX dX5_readHold_14 rfl ?_
    obtain ⟨b4, g, h⟩ := zb_some h
    refine zw_xr hX dX5_readHold_15 g ?_
    refine zw_iconst (v := (4 : Int32)) hX dX5_readHold_16 (by decide) ?_
    obtain ⟨v5, g, h⟩ := zb_some h
    refine zw_xi hX dX5_readHold_17 g ?_
    refine zw_if_eq (tgt := 23) hX dX5_readHold_18 (by decide) (fun c18 => ?_) (fun c18 => ?_)
    · rw [if_pos c18] at h
      refine zw_aload_n hX dX5_readHold_23 rfl ?_
      obtain ⟨_, gi, h⟩ := zb_some h
      obtain ⟨r7, g, h⟩ := zb_some h
      refine zc_Vv (as := []) hX gi (zt_X5_nextWord (d := d - 1) (by omega) g) zl_X5_81 rfl dX5_readHold_24 ⟨rfl, rfl, Nat.le_of_ble_eq_true rfl⟩ ⟨by omega, by omega⟩ ?_
      refine zw_aload_n hX dX5_readHold_27 rfl ?_
      obtain ⟨b8, g, h⟩ := zb_some h
      refine zw_getr hX zl_X5_20 dX5_readHold_28 g ?_
      refine zw_iload_n hX dX5_readHold_31 rfl ?_
      obtain ⟨b9, g, h⟩ := zb_some h
      refine zw_xr hX dX5_readHold_32 g ?_
      refine zw_iconst (v := (4 : Int32)) hX dX5_readHold_33 (by decide) ?_
      refine zw_iconst (v := (1 : Int32)) hX dX5_readHold_34 (by decide) ?_
      obtain ⟨S10, g, h⟩ := zb_some h
      refine zw_si hX dX5_readHold_35 g ?_
      refine zw_aload_n hX dX5_readHold_36 rfl ?_
      refine zw_bipush (v := (59 : Int32)) hX dX5_readHold_37 (by decide) ?_
      obtain ⟨_, gi, h⟩ := zb_some h
      obtain ⟨r12, g, h⟩ := zb_some h
      refine zc_Vi (as := [.int (59 : Int32)]) hX gi (zt_X5_skipSign (d := d - 1) (by omega) g) zl_X5_138 rfl dX5_readHold_39 ⟨rfl, rfl, Nat.le_of_ble_eq_true rfl⟩ ⟨by omega, by omega⟩ ?_
      by_cases cz : r12.1 = 0 ∨ r12.1 = 1
      · rw [if_pos cz] at h
        obtain rfl := Option.some.inj h
        exact zw_iret hX hr dX5_readHold_42 (zn_z cz) ⟨rfl, rfl⟩
      · rw [if_neg cz] at h
        cases h
    · rw [if_neg c18] at h
      refine zw_iconst (v := (0 : Int32)) hX dX5_readHold_21 (by decide) ?_
      obtain rfl := Option.some.inj h
      exact zw_iret hX hr dX5_readHold_22 rfl ⟨rfl, rfl⟩
set_option maxHeartbeats 4000000 in
set_option maxRecDepth 100000 in
theorem zt_X5_readSentence {l : Launch} {V : zm_V} {N : Nat} {S : zm_S} {out : (Int32 × zm_S)} {d : Nat} {a0 : Nat} (hd : 6 ≤ d) (h : zf_X5_readSentence N a0 S = some out) : zm_Met l zk_E V yX5_readSentence (.code yX5_readSentence cX5_readSentence 1 (some .boolean)) d [.ref a0] S 0 0 (zo_i out) zo_x := by
  refine zm_of (by decide +kernel) (Nat.le_of_ble_eq_true rfl) ?_
  intro p e R s m args below meth c hRR hX hr hxt
  have hR : R.frames = d ∧ R.locals = 64 * d := by rw [hRR]; exact ⟨rfl, rfl⟩
  have hX : zm_X p R s m args meth c RX5 "readSentence" cX5_readSentence 1 zk_E V 0 0 := hX
  unfold zf_X5_readSentence at h
  refine zw_sub (lv' := [(0, .ref a0)]) (List.forall_mem_cons.mpr ⟨rfl, zs_nil⟩) ?_
  refine zw_aload_n hX dX5_readSentence_0 rfl ?_
  refine zw_ldc2 (v := (2054123109 : Int64)) hX dX5_readSentence_1 zl_X5_33 ?_
  obtain ⟨_, gi, h⟩ := zb_some h
  obtain ⟨r2, g, h⟩ := zb_some h
  refine zc_Vi (as := [.long (2054123109 : Int64)]) hX gi (zt_X5_skipWord (d := d - 1) (by omega) g) zl_X5_115 rfl dX5_readSentence_4 ⟨rfl, rfl, Nat.le_of_ble_eq_true rfl⟩ ⟨by omega, by omega⟩ ?_
  refine zw_if_eq (tgt := 15) hX dX5_readSentence_7 (by decide) (fun c7 => ?_) (fun c7 => ?_)
  · rw [if_pos c7] at h
    refine zw_aload_n hX dX5_readSentence_15 rfl ?_
    refine zw_ldc2 (v := (6382452 : Int64)) hX dX5_readSentence_16 zl_X5_47 ?_
    obtain ⟨_, gi, h⟩ := zb_some h
    obtain ⟨r4, g, h⟩ := zb_some h
    refine zc_Vi (as := [.long (6382452 : Int64)]) hX gi (zt_X5_skipWord (d := d - 1) (by omega) g) zl_X5_115 rfl dX5_readSentence_19 ⟨rfl, rfl, Nat.le_of_ble_eq_true rfl⟩ ⟨by omega, by omega⟩ ?_
    refine zw_if_eq (tgt := 30) hX dX5_readSentence_22 (by decide) (fun c22 => ?_) (fun c22 => ?_)
    · rw [if_pos c22] at h
      refine zw_aload_n hX dX5_readSentence_30 rfl ?_
      refine zw_ldc2 (v := (2003330414 : Int64)) hX dX5_readSentence_31 zl_X5_55 ?_
      obtain ⟨_, gi, h⟩ := zb_some h
      obtain ⟨r6, g, h⟩ := zb_some h
      refine zc_Vi (as := [.long (2003330414 : Int64)]) hX gi (zt_X5_isWord (d := d - 1) (by omega) g) zl_X5_111 rfl dX5_readSentence_34 ⟨rfl, rfl, Nat.le_of_ble_eq_true rfl⟩ ⟨by omega, by omega⟩ ?_
      refine zw_if_eq (tgt := 62) hX dX5_readSentence_37 (by decide) (fun c37 => ?_) (fun c37 => ?_)
      · rw [if_pos c37] at h
        refine zw_aload_n hX dX5_readSentence_62 rfl ?_
        refine zw_ldc2 (v := (1752132708 : Int64)) hX dX5_readSentence_63 zl_X5_61 ?_
        obtain ⟨_, gi, h⟩ := zb_some h
        obtain ⟨r8, g, h⟩ := zb_some h
        refine zc_Vi (as := [.long (1752132708 : Int64)]) hX gi (zt_X5_skipWord (d := d - 1) (by omega) g) zl_X5_115 rfl dX5_readSentence_66 ⟨rfl, rfl, Nat.le_of_ble_eq_true rfl⟩ ⟨by omega, by omega⟩ ?_
        refine zw_if_eq (tgt := 83) hX dX5_readSentence_69 (by decide) (fun c69 => ?_) (fun c69 => ?_)
        · rw [if_pos c69] at h
          refine zw_iconst (v := (0 : Int32)) hX dX5_readSentence_83 (by decide) ?_
          obtain rfl := Option.some.inj h
          exact zw_iret hX hr dX5_readSentence_84 rfl ⟨rfl, rfl⟩
        · rw [if_neg c69] at h
          refine zw_aload_n hX dX5_readSentence_72 rfl ?_
          obtain ⟨_, gi, h⟩ := zb_some h
          obtain ⟨r10, g, h⟩ := zb_some h
          refine zc_Vi (as := []) hX gi (zt_X5_readHold (d := d - 1) (by omega) g) zl_X5_127 rfl dX5_readSentence_73 ⟨rfl, rfl, Nat.le_of_ble_eq_true rfl⟩ ⟨by omega, by omega⟩ ?_
          refine zw_if_eq (tgt := 83) hX dX5_readSentence_76 (by decide) (fun c76 => ?_) (fun c76 => ?_)
          · rw [if_pos c76] at h
            refine zw_iconst (v := (0 : Int32)) hX dX5_readSentence_83 (by decide) ?_
            obtain rfl := Option.some.inj h
            exact zw_iret hX hr dX5_readSentence_84 rfl ⟨rfl, rfl⟩
          · rw [if_neg c76] at h
            refine zw_iconst (v := (1 : Int32)) hX dX5_readSentence_79 (by decide) ?_
            refine zw_goto (tgt := 84) hX dX5_readSentence_80 (by decide) ?_
            obtain rfl := Option.some.inj h
            exact zw_iret hX hr dX5_readSentence_84 rfl ⟨rfl, rfl⟩
      · rw [if_neg c37] at h
        refine zw_aload_n hX dX5_readSentence_40 rfl ?_
        obtain ⟨v11, g, h⟩ := zb_some h
        refine zw_geti hX zl_X5_91 dX5_readSentence_41 g ?_
        refine zw_bipush (v := (50 : Int32)) hX dX5_readSentence_44 (by decide) ?_
        refine zw_icmp_ge (tgt := 60) hX dX5_readSentence_46 (by decide) (fun c46 => ?_) (fun c46 => ?_)
        · rw [if_pos c46] at h
          refine zw_iconst (v := (0 : Int32)) hX dX5_readSentence_60 (by decide) ?_
          obtain rfl := Option.some.inj h
          exact zw_iret hX hr dX5_readSentence_61 rfl ⟨rfl, rfl⟩
        · rw [if_neg c46] at h
          refine zw_aload_n hX dX5_readSentence_49 rfl ?_
          obtain ⟨_, gi, h⟩ := zb_some h
          obtain ⟨r13, g, h⟩ := zb_some h
          refine zc_Vi (as := []) hX gi (zt_X5_readRow (d := d - 1) (by omega) g) zl_X5_124 rfl dX5_readSentence_50 ⟨rfl, rfl, Nat.le_of_ble_eq_true rfl⟩ ⟨by omega, by omega⟩ ?_
          refine zw_if_eq (tgt := 60) hX dX5_readSentence_53 (by decide) (fun c53 => ?_) (fun c53 => ?_)
          · rw [if_pos c53] at h
            refine zw_iconst (v := (0 : Int32)) hX dX5_readSentence_60 (by decide) ?_
            obtain rfl := Option.some.inj h
            exact zw_iret hX hr dX5_readSentence_61 rfl ⟨rfl, rfl⟩
          · rw [if_neg c53] at h
            refine zw_iconst (v := (1 : Int32)) hX dX5_readSentence_56 (by decide) ?_
            refine zw_goto (tgt := 61) hX dX5_readSentence_57 (by decide) ?_
            obtain rfl := Option.some.inj h
            exact zw_iret hX hr dX5_readSentence_61 rfl ⟨rfl, rfl⟩
    · rw [if_neg c22] at h
      refine zw_aload_n hX dX5_readSentence_25 rfl ?_
      obtain ⟨_, gi, h⟩ := zb_some h
      obtain ⟨r15, g, h⟩ := zb_some h
      refine zc_Vi (as := []) hX gi (zt_X5_readAct (d := d - 1) (by omega) g) zl_X5_121 rfl dX5_readSentence_26 ⟨rfl, rfl, Nat.le_of_ble_eq_true rfl⟩ ⟨by omega, by omega⟩ ?_
      by_cases cz : r15.1 = 0 ∨ r15.1 = 1
      · rw [if_pos cz] at h
        obtain rfl := Option.some.inj h
        exact zw_iret hX hr dX5_readSentence_29 (zn_z cz) ⟨rfl, rfl⟩
      · rw [if_neg cz] at h
        cases h
  · rw [if_neg c7] at h
    refine zw_aload_n hX dX5_readSentence_10 rfl ?_
    obtain ⟨_, gi, h⟩ := zb_some h
    obtain ⟨r17, g, h⟩ := zb_some h
    refine zc_Vi (as := []) hX gi (zt_X5_readZone (d := d - 1) (by omega) g) zl_X5_118 rfl dX5_readSentence_11 ⟨rfl, rfl, Nat.le_of_ble_eq_true rfl⟩ ⟨by omega, by omega⟩ ?_
    by_cases cz : r17.1 = 0 ∨ r17.1 = 1
    · rw [if_pos cz] at h
      obtain rfl := Option.some.inj h
      exact zw_iret hX hr dX5_readSentence_14 (zn_z cz) ⟨rfl, rfl⟩
    · rw [if_neg cz] at h
      cases h
set_option maxHeartbeats 4000000 in
set_option maxRecDepth 100000 in
theorem zt_X5_readSentences_L25 {p : Program} {l : Launch} {e : Env} {R : Room} {s : State} {m : MethodId} {args : Array Value} {below : List Frame} {meth : Method} {c : Code} {V : zm_V} {mc ms d rc rs : Nat} (hX : zm_X p R s m args meth c RX5 "readSentences" cX5_readSentences 3 zk_E V mc ms) (hr : meth.sig.returnType = (some .boolean)) (hR : R.frames = d ∧ R.locals = 64 * d) (hd : 7 ≤ d) {N : Nat} {res : (Int32 × zm_S) ⊕ ((Unit) × zm_S)} {out : (Int32 × zm_S)} (a0 : Nat) (hf : ∀ o, res = .inl o → o = out) (hk : ∀ (S' : zm_S), res = .inr ((), S') → zw p l e R s m args below meth c (vx_MQ below (zm_Qc zk_E V (zo_i out)) (zm_XC zk_E V zo_x) args s mc ms (fun q => V.2.2.2.1 ≤ q)) 3 zk_E V mc ms 56 [] [] S' rc rs) : ∀ (n : Nat) (i2 : Int32) (S : zm_S), zf_X5_readSentences_L25 N n a0 i2 S = some res → zw p l e R s m args below meth c (vx_MQ below (zm_Qc zk_E V (zo_i out)) (zm_XC zk_E V zo_x) args s mc ms (fun q => V.2.2.2.1 ≤ q)) 3 zk_E V mc ms 25 [(0, .ref a0), (2, .int i2)] [] S rc rs := by
  intro n
  induction n with
  | zero => intro i2 S h; cases h
  | succ n ih =>
    intro i2 S h
    rw [zf_X5_readSentences_L25] at h
    refine zw_iload_n hX dX5_readSentences_25 rfl ?_
    refine zw_sipush (v := (2000 : Int32)) hX dX5_readSentences_26 (by decide) ?_
    refine zw_icmp_ge (tgt := 56) hX dX5_readSentences_29 (by decide) (fun c29 => ?_) (fun c29 => ?_)
    · rw [if_pos c29] at h
      refine zw_sub (lv' := []) zs_nil ?_
      exact hk  _ (Option.some.inj h).symm
    · rw [if_neg c29] at h
      refine zw_aload_n hX dX5_readSentences_32 rfl ?_
      obtain ⟨v8, g, h⟩ := zb_some h
      refine zw_geti hX zl_X5_84 dX5_readSentences_33 g ?_
      refine zw_bipush (v := (101 : Int32)) hX dX5_readSentences_36 (by decide) ?_
      refine zw_icmp_eq (tgt := 56) hX dX5_readSentences_38 (by decide) (fun c38 => ?_) (fun c38 => ?_)
      · rw [if_pos c38] at h
        refine zw_sub (lv' := []) zs_nil ?_
        exact hk  _ (Option.some.inj h).symm
      · rw [if_neg c38] at h
        refine zw_aload_n hX dX5_readSentences_41 rfl ?_
        obtain ⟨_, gi, h⟩ := zb_some h
        obtain ⟨r10, g, h⟩ := zb_some h
        refine zc_Vi (as := []) hX gi (zt_X5_readSentence (d := d - 1) (by omega) g) zl_X5_87 rfl dX5_readSentences_42 ⟨rfl, rfl, Nat.le_of_ble_eq_true rfl⟩ ⟨by omega, by omega⟩ ?_
        refine zw_if_ne (tgt := 50) hX dX5_readSentences_45 (by decide) (fun c45 => ?_) (fun c45 => ?_)
        · rw [if_neg c45] at h
          refine zw_iinc (v := (i2 + (1 : Int32))) hX dX5_readSentences_50 rfl rfl (by decide) ?_
          refine zw_goto (tgt := 25) hX dX5_readSentences_53 (by decide) ?_
          refine zw_sub (lv' := [(0, .ref a0), (2, .int (i2 + (1 : Int32)))]) (List.forall_mem_cons.mpr ⟨rfl, (List.forall_mem_cons.mpr ⟨rfl, zs_nil⟩)⟩) ?_
          exact ih _ _ h
        · rw [if_pos c45] at h
          refine zw_iconst (v := (0 : Int32)) hX dX5_readSentences_48 (by decide) ?_
          have hz := hf _ (Option.some.inj h).symm
          subst hz
          exact zw_iret hX hr dX5_readSentences_49 rfl ⟨rfl, rfl⟩
set_option maxHeartbeats 4000000 in
set_option maxRecDepth 100000 in
theorem zt_X5_readSentences {l : Launch} {V : zm_V} {N : Nat} {S : zm_S} {out : (Int32 × zm_S)} {d : Nat} {a0 : Nat} {i1 : Int32} (hd : 7 ≤ d) (h : zf_X5_readSentences N a0 i1 S = some out) : zm_Met l zk_E V yX5_readSentences (.code yX5_readSentences cX5_readSentences 3 (some .boolean)) d [.ref a0, .int i1] S 0 0 (zo_i out) zo_x := by
  refine zm_of (by decide +kernel) (Nat.le_of_ble_eq_true rfl) ?_
  intro p e R s m args below meth c hRR hX hr hxt
  have hR : R.frames = d ∧ R.locals = 64 * d := by rw [hRR]; exact ⟨rfl, rfl⟩
  have hX : zm_X p R s m args meth c RX5 "readSentences" cX5_readSentences 3 zk_E V 0 0 := hX
  unfold zf_X5_readSentences at h
  refine zw_sub (lv' := [(0, .ref a0), (1, .int i1)]) (List.forall_mem_cons.mpr ⟨rfl, (List.forall_mem_cons.mpr ⟨rfl, zs_nil⟩)⟩) ?_
  refine zw_aload_n hX dX5_readSentences_0 rfl ?_
  refine zw_iload_n hX dX5_readSentences_1 rfl ?_
  obtain ⟨S1, g, h⟩ := zb_some h
  refine zw_putv hX zl_X5_69 zt_5_3 dX5_readSentences_2 rfl rfl g ?_
  refine zw_aload_n hX dX5_readSentences_5 rfl ?_
  obtain ⟨_, gi, h⟩ := zb_some h
  obtain ⟨r3, g, h⟩ := zb_some h
  refine zc_Vv (as := []) hX gi (zt_X5_forgetTables (d := d - 1) (by omega) g) zl_X5_72 rfl dX5_readSentences_6 ⟨rfl, rfl, Nat.le_of_ble_eq_true rfl⟩ ⟨by omega, by omega⟩ ?_
  refine zw_aload_n hX dX5_readSentences_9 rfl ?_
  refine zw_iconst (v := (-1 : Int32)) hX dX5_readSentences_10 (by decide) ?_
  obtain ⟨S4, g, h⟩ := zb_some h
  refine zw_putv hX zl_X5_75 zt_5_4 dX5_readSentences_11 rfl rfl g ?_
  refine zw_aload_n hX dX5_readSentences_14 rfl ?_
  refine zw_iconst (v := (0 : Int32)) hX dX5_readSentences_15 (by decide) ?_
  obtain ⟨S5, g, h⟩ := zb_some h
  refine zw_putv hX zl_X5_78 zt_5_7 dX5_readSentences_16 rfl rfl g ?_
  refine zw_aload_n hX dX5_readSentences_19 rfl ?_
  obtain ⟨_, gi, h⟩ := zb_some h
  obtain ⟨r7, g, h⟩ := zb_some h
  refine zc_Vv (as := []) hX gi (zt_X5_nextWord (d := d - 1) (by omega) g) zl_X5_81 rfl dX5_readSentences_20 ⟨rfl, rfl, Nat.le_of_ble_eq_true rfl⟩ ⟨by omega, by omega⟩ ?_
  refine zw_iconst (v := (0 : Int32)) hX dX5_readSentences_23 (by decide) ?_
  refine zw_istore_n hX dX5_readSentences_24 (by decide) ?_
  obtain ⟨r, g, h⟩ := zb_some h
  refine zw_sub (lv' := [(0, .ref a0), (2, .int (0 : Int32))]) (List.forall_mem_cons.mpr ⟨rfl, (List.forall_mem_cons.mpr ⟨rfl, zs_nil⟩)⟩) ?_
  refine zt_X5_readSentences_L25 hX hr hR hd (res := r) (out := out) a0 ?_ ?_ N _ _ g
  · intro o ho
    subst ho
    exact Option.some.inj h
  · intro  S11 hx
    subst hx
    try dsimp only at h
    refine zw_iconst (v := (1 : Int32)) hX dX5_readSentences_56 (by decide) ?_
    obtain rfl := Option.some.inj h
    exact zw_iret hX hr dX5_readSentences_57 rfl ⟨rfl, rfl⟩
set_option maxHeartbeats 4000000 in
set_option maxRecDepth 100000 in
theorem zt_X6_init {l : Launch} {V : zm_V} {N : Nat} {S : zm_S} {out : (Unit × zm_S)} {d : Nat} {a0 : Nat} (hd : 2 ≤ d) (h : zf_X6_init N a0 S = some out) : zm_Met l zk_E V yX6_init (.code yX6_init cX6_init 1 none) d [.ref a0] S 7 1199 (zo_v out) zo_x := by
  refine zm_of (by decide +kernel) (Nat.le_of_ble_eq_true rfl) ?_
  intro p e R s m args below meth c hRR hX hr hxt
  have hR : R.frames = d ∧ R.locals = 64 * d := by rw [hRR]; exact ⟨rfl, rfl⟩
  have hX : zm_X p R s m args meth c RX6 "<init>" cX6_init 1 zk_E V 7 1199 := hX
  unfold zf_X6_init at h
  refine zw_sub (lv' := [(0, .ref a0)]) (List.forall_mem_cons.mpr ⟨rfl, zs_nil⟩) ?_
  refine zw_aload_n hX dX6_init_0 rfl ?_
  refine zw_objInit hX zl_X6_1.1 zl_X6_1.2.1 zl_X6_1.2.2 dX6_init_1 (by omega) (by show 0 + 12 ≤ R.locals; omega) ?_
  refine zw_aload_n hX dX6_init_4 rfl ?_
  refine zw_sipush (v := (800 : Int32)) hX dX6_init_5 (by decide) ?_
  obtain ⟨S1, g, h⟩ := zb_some h
  refine zw_nc (b := 800) hX zk_ac dX6_init_8 (by omega) (by omega) (by decide) g ?_
  obtain ⟨S2, g, h⟩ := zb_some h
  refine zw_putvF hX zl_X6_9 zt_6_0 dX6_init_10 rfl rfl g ?_
  refine zw_aload_n hX dX6_init_13 rfl ?_
  refine zw_bipush (v := (121 : Int32)) hX dX6_init_14 (by decide) ?_
  obtain ⟨S3, g, h⟩ := zb_some h
  refine zw_ni (b := 121) hX zk_ai dX6_init_16 (by omega) (by omega) (by decide) g ?_
  obtain ⟨S4, g, h⟩ := zb_some h
  refine zw_putvF hX zl_X6_13 zt_6_2 dX6_init_18 rfl rfl g ?_
  refine zw_aload_n hX dX6_init_21 rfl ?_
  refine zw_bipush (v := (121 : Int32)) hX dX6_init_22 (by decide) ?_
  obtain ⟨S5, g, h⟩ := zb_some h
  refine zw_nl (b := 121) hX zk_al dX6_init_24 (by omega) (by omega) (by decide) g ?_
  obtain ⟨S6, g, h⟩ := zb_some h
  refine zw_putvF hX zl_X6_17 zt_6_3 dX6_init_26 rfl rfl g ?_
  refine zw_aload_n hX dX6_init_29 rfl ?_
  refine zw_bipush (v := (121 : Int32)) hX dX6_init_30 (by decide) ?_
  obtain ⟨S7, g, h⟩ := zb_some h
  refine zw_ni (b := 121) hX zk_ai dX6_init_32 (by omega) (by omega) (by decide) g ?_
  obtain ⟨S8, g, h⟩ := zb_some h
  refine zw_putvF hX zl_X6_21 zt_6_4 dX6_init_34 rfl rfl g ?_
  refine zw_aload_n hX dX6_init_37 rfl ?_
  refine zw_bipush (v := (12 : Int32)) hX dX6_init_38 (by decide) ?_
  obtain ⟨S9, g, h⟩ := zb_some h
  refine zw_nl (b := 12) hX zk_al dX6_init_40 (by omega) (by omega) (by decide) g ?_
  obtain ⟨S10, g, h⟩ := zb_some h
  refine zw_putvF hX zl_X6_24 zt_6_7 dX6_init_42 rfl rfl g ?_
  refine zw_aload_n hX dX6_init_45 rfl ?_
  refine zw_bipush (v := (12 : Int32)) hX dX6_init_46 (by decide) ?_
  obtain ⟨S11, g, h⟩ := zb_some h
  refine zw_ni (b := 12) hX zk_ai dX6_init_48 (by omega) (by omega) (by decide) g ?_
  obtain ⟨S12, g, h⟩ := zb_some h
  refine zw_putvF hX zl_X6_27 zt_6_8 dX6_init_50 rfl rfl g ?_
  refine zw_aload_n hX dX6_init_53 rfl ?_
  refine zw_bipush (v := (12 : Int32)) hX dX6_init_54 (by decide) ?_
  obtain ⟨S13, g, h⟩ := zb_some h
  refine zw_ni (b := 12) hX zk_ai dX6_init_56 (by omega) (by omega) (by decide) g ?_
  obtain ⟨S14, g, h⟩ := zb_some h
  refine zw_putvF hX zl_X6_30 zt_6_9 dX6_init_58 rfl rfl g ?_
  obtain rfl := Option.some.inj h
  exact zw_vret hX hr dX6_init_61 ⟨rfl, rfl⟩

