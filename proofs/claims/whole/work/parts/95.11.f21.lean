/-! ===== functions of methods, by program (wip/whole/tools/gen11.py) ===== -/
theorem dX18_safe_0 : decode cX18_safe 0 = .ok (.aload_n 0, 1) := by decide +kernel
theorem dX18_safe_1 : decode cX18_safe 1 = .ok (.iload_n 1, 1) := by decide +kernel
theorem dX18_safe_2 : decode cX18_safe 2 = .ok (.aload_n 0, 1) := by decide +kernel
theorem dX18_safe_3 : decode cX18_safe 3 = .ok (.getfield 35, 3) := by decide +kernel
theorem dX18_safe_6 : decode cX18_safe 6 = .ok (.getfield 513, 3) := by decide +kernel
theorem dX18_safe_9 : decode cX18_safe 9 = .ok (.invokestatic 207, 3) := by decide +kernel
theorem dX18_safe_12 : decode cX18_safe 12 = .ok (.aload_n 0, 1) := by decide +kernel
theorem dX18_safe_13 : decode cX18_safe 13 = .ok (.getfield 192, 3) := by decide +kernel
theorem dX18_safe_16 : decode cX18_safe 16 = .ok (.invokevirtual 199, 3) := by decide +kernel
theorem dX18_safe_19 : decode cX18_safe 19 = .ok (.ifCond .ne 5, 3) := by decide +kernel
theorem dX18_safe_24 : decode cX18_safe 24 = .ok (.aload_n 0, 1) := by decide +kernel
theorem dX18_safe_25 : decode cX18_safe 25 = .ok (.getfield 35, 3) := by decide +kernel
theorem dX18_safe_28 : decode cX18_safe 28 = .ok (.getfield 532, 3) := by decide +kernel
theorem dX18_safe_31 : decode cX18_safe 31 = .ok (.iload_n 1, 1) := by decide +kernel
theorem dX18_safe_32 : decode cX18_safe 32 = .ok (.iaload, 1) := by decide +kernel
theorem dX18_safe_33 : decode cX18_safe 33 = .ok (.istore_n 3, 1) := by decide +kernel
theorem dX18_safe_34 : decode cX18_safe 34 = .ok (.aload_n 0, 1) := by decide +kernel
theorem dX18_safe_35 : decode cX18_safe 35 = .ok (.getfield 35, 3) := by decide +kernel
theorem dX18_safe_38 : decode cX18_safe 38 = .ok (.getfield 532, 3) := by decide +kernel
theorem dX18_safe_41 : decode cX18_safe 41 = .ok (.iload_n 1, 1) := by decide +kernel
theorem dX18_safe_42 : decode cX18_safe 42 = .ok (.iload_n 2, 1) := by decide +kernel
theorem dX18_safe_43 : decode cX18_safe 43 = .ok (.iastore, 1) := by decide +kernel
theorem dX18_safe_44 : decode cX18_safe 44 = .ok (.iload_n 3, 1) := by decide +kernel
theorem dX18_safe_45 : decode cX18_safe 45 = .ok (.ireturn, 1) := by decide +kernel
theorem dX18_safe_22 : decode cX18_safe 22 = .ok (.iconst 0, 1) := by decide +kernel
theorem dX18_safe_23 : decode cX18_safe 23 = .ok (.ireturn, 1) := by decide +kernel
theorem dX18_hand_0 : decode cX18_hand 0 = .ok (.aload_n 0, 1) := by decide +kernel
theorem dX18_hand_1 : decode cX18_hand 1 = .ok (.iload_n 1, 1) := by decide +kernel
theorem dX18_hand_2 : decode cX18_hand 2 = .ok (.aload_n 0, 1) := by decide +kernel
theorem dX18_hand_3 : decode cX18_hand 3 = .ok (.getfield 35, 3) := by decide +kernel
theorem dX18_hand_6 : decode cX18_hand 6 = .ok (.getfield 513, 3) := by decide +kernel
theorem dX18_hand_9 : decode cX18_hand 9 = .ok (.invokestatic 207, 3) := by decide +kernel
theorem dX18_hand_12 : decode cX18_hand 12 = .ok (.aload_n 0, 1) := by decide +kernel
theorem dX18_hand_13 : decode cX18_hand 13 = .ok (.getfield 192, 3) := by decide +kernel
theorem dX18_hand_16 : decode cX18_hand 16 = .ok (.invokevirtual 199, 3) := by decide +kernel
theorem dX18_hand_19 : decode cX18_hand 19 = .ok (.ifCond .ne 5, 3) := by decide +kernel
theorem dX18_hand_24 : decode cX18_hand 24 = .ok (.aload_n 0, 1) := by decide +kernel
theorem dX18_hand_25 : decode cX18_hand 25 = .ok (.getfield 35, 3) := by decide +kernel
theorem dX18_hand_28 : decode cX18_hand 28 = .ok (.getfield 535, 3) := by decide +kernel
theorem dX18_hand_31 : decode cX18_hand 31 = .ok (.iload_n 1, 1) := by decide +kernel
theorem dX18_hand_32 : decode cX18_hand 32 = .ok (.baload, 1) := by decide +kernel
theorem dX18_hand_33 : decode cX18_hand 33 = .ok (.istore 4, 2) := by decide +kernel
theorem dX18_hand_35 : decode cX18_hand 35 = .ok (.aload_n 0, 1) := by decide +kernel
theorem dX18_hand_36 : decode cX18_hand 36 = .ok (.getfield 35, 3) := by decide +kernel
theorem dX18_hand_39 : decode cX18_hand 39 = .ok (.getfield 535, 3) := by decide +kernel
theorem dX18_hand_42 : decode cX18_hand 42 = .ok (.iload_n 1, 1) := by decide +kernel
theorem dX18_hand_43 : decode cX18_hand 43 = .ok (.iload_n 2, 1) := by decide +kernel
theorem dX18_hand_44 : decode cX18_hand 44 = .ok (.bastore, 1) := by decide +kernel
theorem dX18_hand_45 : decode cX18_hand 45 = .ok (.aload_n 0, 1) := by decide +kernel
theorem dX18_hand_46 : decode cX18_hand 46 = .ok (.getfield 35, 3) := by decide +kernel
theorem dX18_hand_49 : decode cX18_hand 49 = .ok (.getfield 538, 3) := by decide +kernel
theorem dX18_hand_52 : decode cX18_hand 52 = .ok (.iload_n 1, 1) := by decide +kernel
theorem dX18_hand_53 : decode cX18_hand 53 = .ok (.iload_n 3, 1) := by decide +kernel
theorem dX18_hand_54 : decode cX18_hand 54 = .ok (.iastore, 1) := by decide +kernel
theorem dX18_hand_55 : decode cX18_hand 55 = .ok (.iload 4, 2) := by decide +kernel
theorem dX18_hand_57 : decode cX18_hand 57 = .ok (.ireturn, 1) := by decide +kernel
theorem dX18_hand_22 : decode cX18_hand 22 = .ok (.iconst 0, 1) := by decide +kernel
theorem dX18_hand_23 : decode cX18_hand 23 = .ok (.ireturn, 1) := by decide +kernel
theorem dX18_bind_0 : decode cX18_bind 0 = .ok (.aload_n 0, 1) := by decide +kernel
theorem dX18_bind_1 : decode cX18_bind 1 = .ok (.iload_n 1, 1) := by decide +kernel
theorem dX18_bind_2 : decode cX18_bind 2 = .ok (.aload_n 0, 1) := by decide +kernel
theorem dX18_bind_3 : decode cX18_bind 3 = .ok (.getfield 35, 3) := by decide +kernel
theorem dX18_bind_6 : decode cX18_bind 6 = .ok (.getfield 513, 3) := by decide +kernel
theorem dX18_bind_9 : decode cX18_bind 9 = .ok (.invokestatic 207, 3) := by decide +kernel
theorem dX18_bind_12 : decode cX18_bind 12 = .ok (.ifCond .eq 18, 3) := by decide +kernel
theorem dX18_bind_30 : decode cX18_bind 30 = .ok (.iconst 0, 1) := by decide +kernel
theorem dX18_bind_31 : decode cX18_bind 31 = .ok (.aload_n 0, 1) := by decide +kernel
theorem dX18_bind_32 : decode cX18_bind 32 = .ok (.getfield 192, 3) := by decide +kernel
theorem dX18_bind_35 : decode cX18_bind 35 = .ok (.invokevirtual 199, 3) := by decide +kernel
theorem dX18_bind_38 : decode cX18_bind 38 = .ok (.ifCond .ne 5, 3) := by decide +kernel
theorem dX18_bind_43 : decode cX18_bind 43 = .ok (.aload_n 0, 1) := by decide +kernel
theorem dX18_bind_44 : decode cX18_bind 44 = .ok (.getfield 35, 3) := by decide +kernel
theorem dX18_bind_47 : decode cX18_bind 47 = .ok (.getfield 541, 3) := by decide +kernel
theorem dX18_bind_50 : decode cX18_bind 50 = .ok (.iload_n 1, 1) := by decide +kernel
theorem dX18_bind_51 : decode cX18_bind 51 = .ok (.iaload, 1) := by decide +kernel
theorem dX18_bind_52 : decode cX18_bind 52 = .ok (.iconst 1, 1) := by decide +kernel
theorem dX18_bind_53 : decode cX18_bind 53 = .ok (.isub, 1) := by decide +kernel
theorem dX18_bind_54 : decode cX18_bind 54 = .ok (.istore_n 3, 1) := by decide +kernel
theorem dX18_bind_55 : decode cX18_bind 55 = .ok (.aload_n 0, 1) := by decide +kernel
theorem dX18_bind_56 : decode cX18_bind 56 = .ok (.getfield 35, 3) := by decide +kernel
theorem dX18_bind_59 : decode cX18_bind 59 = .ok (.getfield 541, 3) := by decide +kernel
theorem dX18_bind_62 : decode cX18_bind 62 = .ok (.iload_n 1, 1) := by decide +kernel
theorem dX18_bind_63 : decode cX18_bind 63 = .ok (.iload_n 2, 1) := by decide +kernel
theorem dX18_bind_64 : decode cX18_bind 64 = .ok (.iconst 1, 1) := by decide +kernel
theorem dX18_bind_65 : decode cX18_bind 65 = .ok (.iadd, 1) := by decide +kernel
theorem dX18_bind_66 : decode cX18_bind 66 = .ok (.iastore, 1) := by decide +kernel
theorem dX18_bind_67 : decode cX18_bind 67 = .ok (.iload_n 3, 1) := by decide +kernel
theorem dX18_bind_68 : decode cX18_bind 68 = .ok (.ireturn, 1) := by decide +kernel
theorem dX18_bind_41 : decode cX18_bind 41 = .ok (.iconst 0, 1) := by decide +kernel
theorem dX18_bind_42 : decode cX18_bind 42 = .ok (.ireturn, 1) := by decide +kernel
theorem dX18_bind_15 : decode cX18_bind 15 = .ok (.iload_n 2, 1) := by decide +kernel
theorem dX18_bind_16 : decode cX18_bind 16 = .ok (.iconst (-1), 1) := by decide +kernel
theorem dX18_bind_17 : decode cX18_bind 17 = .ok (.if_icmp .lt 13, 3) := by decide +kernel
theorem dX18_bind_20 : decode cX18_bind 20 = .ok (.iload_n 2, 1) := by decide +kernel
theorem dX18_bind_21 : decode cX18_bind 21 = .ok (.bipush 10, 2) := by decide +kernel
theorem dX18_bind_23 : decode cX18_bind 23 = .ok (.if_icmp .ge 7, 3) := by decide +kernel
theorem dX18_bind_26 : decode cX18_bind 26 = .ok (.iconst 1, 1) := by decide +kernel
theorem dX18_bind_27 : decode cX18_bind 27 = .ok (.goto 4, 3) := by decide +kernel
theorem dX18_point_0 : decode cX18_point 0 = .ok (.aload_n 0, 1) := by decide +kernel
theorem dX18_point_1 : decode cX18_point 1 = .ok (.iload_n 1, 1) := by decide +kernel
theorem dX18_point_2 : decode cX18_point 2 = .ok (.iconst 4, 1) := by decide +kernel
theorem dX18_point_3 : decode cX18_point 3 = .ok (.if_icmp .lt 13, 3) := by decide +kernel
theorem dX18_point_16 : decode cX18_point 16 = .ok (.iconst 0, 1) := by decide +kernel
theorem dX18_point_17 : decode cX18_point 17 = .ok (.aload_n 0, 1) := by decide +kernel
theorem dX18_point_18 : decode cX18_point 18 = .ok (.getfield 192, 3) := by decide +kernel
theorem dX18_point_21 : decode cX18_point 21 = .ok (.invokevirtual 199, 3) := by decide +kernel
theorem dX18_point_24 : decode cX18_point 24 = .ok (.ifCond .ne 5, 3) := by decide +kernel
theorem dX18_point_29 : decode cX18_point 29 = .ok (.aload_n 0, 1) := by decide +kernel
theorem dX18_point_30 : decode cX18_point 30 = .ok (.getfield 35, 3) := by decide +kernel
theorem dX18_point_33 : decode cX18_point 33 = .ok (.getfield 474, 3) := by decide +kernel
theorem dX18_point_36 : decode cX18_point 36 = .ok (.iload_n 1, 1) := by decide +kernel
theorem dX18_point_37 : decode cX18_point 37 = .ok (.iaload, 1) := by decide +kernel
theorem dX18_point_38 : decode cX18_point 38 = .ok (.istore_n 3, 1) := by decide +kernel
theorem dX18_point_39 : decode cX18_point 39 = .ok (.aload_n 0, 1) := by decide +kernel
theorem dX18_point_40 : decode cX18_point 40 = .ok (.getfield 35, 3) := by decide +kernel
theorem dX18_point_43 : decode cX18_point 43 = .ok (.getfield 474, 3) := by decide +kernel
theorem dX18_point_46 : decode cX18_point 46 = .ok (.iload_n 1, 1) := by decide +kernel
theorem dX18_point_47 : decode cX18_point 47 = .ok (.iload_n 2, 1) := by decide +kernel
theorem dX18_point_48 : decode cX18_point 48 = .ok (.iastore, 1) := by decide +kernel
theorem dX18_point_49 : decode cX18_point 49 = .ok (.iload_n 3, 1) := by decide +kernel
theorem dX18_point_50 : decode cX18_point 50 = .ok (.ireturn, 1) := by decide +kernel
theorem dX18_point_27 : decode cX18_point 27 = .ok (.iconst 0, 1) := by decide +kernel
theorem dX18_point_28 : decode cX18_point 28 = .ok (.ireturn, 1) := by decide +kernel
theorem dX18_point_6 : decode cX18_point 6 = .ok (.iload_n 1, 1) := by decide +kernel
theorem dX18_point_7 : decode cX18_point 7 = .ok (.bipush 10, 2) := by decide +kernel
theorem dX18_point_9 : decode cX18_point 9 = .ok (.if_icmp .ge 7, 3) := by decide +kernel
theorem dX18_point_12 : decode cX18_point 12 = .ok (.iconst 1, 1) := by decide +kernel
theorem dX18_point_13 : decode cX18_point 13 = .ok (.goto 4, 3) := by decide +kernel
theorem dX18_pointAt_0 : decode cX18_pointAt 0 = .ok (.aload_n 0, 1) := by decide +kernel
theorem dX18_pointAt_1 : decode cX18_pointAt 1 = .ok (.iload_n 1, 1) := by decide +kernel
theorem dX18_pointAt_2 : decode cX18_pointAt 2 = .ok (.bipush 10, 2) := by decide +kernel
theorem dX18_pointAt_4 : decode cX18_pointAt 4 = .ok (.invokestatic 207, 3) := by decide +kernel
theorem dX18_pointAt_7 : decode cX18_pointAt 7 = .ok (.aload_n 0, 1) := by decide +kernel
theorem dX18_pointAt_8 : decode cX18_pointAt 8 = .ok (.getfield 192, 3) := by decide +kernel
theorem dX18_pointAt_11 : decode cX18_pointAt 11 = .ok (.invokevirtual 199, 3) := by decide +kernel
theorem dX18_pointAt_14 : decode cX18_pointAt 14 = .ok (.ifCond .eq 15, 3) := by decide +kernel
theorem dX18_pointAt_29 : decode cX18_pointAt 29 = .ok (.iconst 0, 1) := by decide +kernel
theorem dX18_pointAt_30 : decode cX18_pointAt 30 = .ok (.ireturn, 1) := by decide +kernel
theorem dX18_pointAt_17 : decode cX18_pointAt 17 = .ok (.aload_n 0, 1) := by decide +kernel
theorem dX18_pointAt_18 : decode cX18_pointAt 18 = .ok (.getfield 35, 3) := by decide +kernel
theorem dX18_pointAt_21 : decode cX18_pointAt 21 = .ok (.getfield 474, 3) := by decide +kernel
theorem dX18_pointAt_24 : decode cX18_pointAt 24 = .ok (.iload_n 1, 1) := by decide +kernel
theorem dX18_pointAt_25 : decode cX18_pointAt 25 = .ok (.iaload, 1) := by decide +kernel
theorem dX18_pointAt_26 : decode cX18_pointAt 26 = .ok (.goto 4, 3) := by decide +kernel
theorem dX18_order_0 : decode cX18_order 0 = .ok (.aload_n 0, 1) := by decide +kernel
theorem dX18_order_1 : decode cX18_order 1 = .ok (.aload_n 0, 1) := by decide +kernel
theorem dX18_order_2 : decode cX18_order 2 = .ok (.getfield 192, 3) := by decide +kernel
theorem dX18_order_5 : decode cX18_order 5 = .ok (.invokevirtual 230, 3) := by decide +kernel
theorem dX18_order_8 : decode cX18_order 8 = .ok (.ifCond .eq 13, 3) := by decide +kernel
theorem dX18_order_21 : decode cX18_order 21 = .ok (.iconst 0, 1) := by decide +kernel
theorem dX18_order_22 : decode cX18_order 22 = .ok (.ireturn, 1) := by decide +kernel
theorem dX18_order_11 : decode cX18_order 11 = .ok (.aload_n 0, 1) := by decide +kernel
theorem dX18_order_12 : decode cX18_order 12 = .ok (.getfield 35, 3) := by decide +kernel
theorem dX18_order_15 : decode cX18_order 15 = .ok (.invokevirtual 544, 3) := by decide +kernel
theorem dX18_order_18 : decode cX18_order 18 = .ok (.goto 4, 3) := by decide +kernel
theorem dX18_out_0 : decode cX18_out 0 = .ok (.aload_n 0, 1) := by decide +kernel
theorem dX18_out_1 : decode cX18_out 1 = .ok (.iload_n 1, 1) := by decide +kernel
theorem dX18_out_2 : decode cX18_out 2 = .ok (.aload_n 0, 1) := by decide +kernel
theorem dX18_out_3 : decode cX18_out 3 = .ok (.getfield 35, 3) := by decide +kernel
theorem dX18_out_6 : decode cX18_out 6 = .ok (.getfield 513, 3) := by decide +kernel
theorem dX18_out_9 : decode cX18_out 9 = .ok (.invokestatic 207, 3) := by decide +kernel
theorem dX18_out_12 : decode cX18_out 12 = .ok (.ifCond .eq 15, 3) := by decide +kernel
theorem dX18_out_27 : decode cX18_out 27 = .ok (.iconst 0, 1) := by decide +kernel
theorem dX18_out_28 : decode cX18_out 28 = .ok (.aload_n 0, 1) := by decide +kernel
theorem dX18_out_29 : decode cX18_out 29 = .ok (.getfield 192, 3) := by decide +kernel
theorem dX18_out_32 : decode cX18_out 32 = .ok (.invokevirtual 199, 3) := by decide +kernel
theorem dX18_out_35 : decode cX18_out 35 = .ok (.ifCond .ne 5, 3) := by decide +kernel
theorem dX18_out_40 : decode cX18_out 40 = .ok (.iload_n 2, 1) := by decide +kernel
theorem dX18_out_41 : decode cX18_out 41 = .ok (.ifCond .ne 15, 3) := by decide +kernel
theorem dX18_out_56 : decode cX18_out 56 = .ok (.iload_n 2, 1) := by decide +kernel
theorem dX18_out_57 : decode cX18_out 57 = .ok (.iconst 1, 1) := by decide +kernel
theorem dX18_out_58 : decode cX18_out 58 = .ok (.if_icmp .ne 15, 3) := by decide +kernel
theorem dX18_out_73 : decode cX18_out 73 = .ok (.iload_n 2, 1) := by decide +kernel
theorem dX18_out_74 : decode cX18_out 74 = .ok (.iconst 2, 1) := by decide +kernel
theorem dX18_out_75 : decode cX18_out 75 = .ok (.if_icmp .ne 15, 3) := by decide +kernel
theorem dX18_out_90 : decode cX18_out 90 = .ok (.aload_n 0, 1) := by decide +kernel
theorem dX18_out_91 : decode cX18_out 91 = .ok (.getfield 35, 3) := by decide +kernel
theorem dX18_out_94 : decode cX18_out 94 = .ok (.iload_n 1, 1) := by decide +kernel
theorem dX18_out_95 : decode cX18_out 95 = .ok (.invokevirtual 556, 3) := by decide +kernel
theorem dX18_out_98 : decode cX18_out 98 = .ok (.ireturn, 1) := by decide +kernel
theorem dX18_out_78 : decode cX18_out 78 = .ok (.aload_n 0, 1) := by decide +kernel
theorem dX18_out_79 : decode cX18_out 79 = .ok (.getfield 35, 3) := by decide +kernel
theorem dX18_out_82 : decode cX18_out 82 = .ok (.getfield 553, 3) := by decide +kernel
theorem dX18_out_85 : decode cX18_out 85 = .ok (.iload_n 1, 1) := by decide +kernel
theorem dX18_out_86 : decode cX18_out 86 = .ok (.iaload, 1) := by decide +kernel
theorem dX18_out_87 : decode cX18_out 87 = .ok (.goto 11, 3) := by decide +kernel
theorem dX18_out_61 : decode cX18_out 61 = .ok (.aload_n 0, 1) := by decide +kernel
theorem dX18_out_62 : decode cX18_out 62 = .ok (.getfield 35, 3) := by decide +kernel
theorem dX18_out_65 : decode cX18_out 65 = .ok (.getfield 550, 3) := by decide +kernel
theorem dX18_out_68 : decode cX18_out 68 = .ok (.iload_n 1, 1) := by decide +kernel
theorem dX18_out_69 : decode cX18_out 69 = .ok (.iaload, 1) := by decide +kernel
theorem dX18_out_70 : decode cX18_out 70 = .ok (.goto 28, 3) := by decide +kernel
theorem dX18_out_44 : decode cX18_out 44 = .ok (.aload_n 0, 1) := by decide +kernel
theorem dX18_out_45 : decode cX18_out 45 = .ok (.getfield 35, 3) := by decide +kernel
theorem dX18_out_48 : decode cX18_out 48 = .ok (.getfield 547, 3) := by decide +kernel
theorem dX18_out_51 : decode cX18_out 51 = .ok (.iload_n 1, 1) := by decide +kernel
theorem dX18_out_52 : decode cX18_out 52 = .ok (.iaload, 1) := by decide +kernel
theorem dX18_out_53 : decode cX18_out 53 = .ok (.goto 45, 3) := by decide +kernel
theorem dX18_out_38 : decode cX18_out 38 = .ok (.iconst 0, 1) := by decide +kernel
theorem dX18_out_39 : decode cX18_out 39 = .ok (.ireturn, 1) := by decide +kernel
theorem dX18_out_15 : decode cX18_out 15 = .ok (.iload_n 2, 1) := by decide +kernel
theorem dX18_out_16 : decode cX18_out 16 = .ok (.iconst 4, 1) := by decide +kernel
theorem dX18_out_17 : decode cX18_out 17 = .ok (.invokestatic 207, 3) := by decide +kernel
theorem dX18_out_20 : decode cX18_out 20 = .ok (.ifCond .eq 7, 3) := by decide +kernel
theorem dX18_out_23 : decode cX18_out 23 = .ok (.iconst 1, 1) := by decide +kernel
theorem dX18_out_24 : decode cX18_out 24 = .ok (.goto 4, 3) := by decide +kernel
theorem dX18_failed_0 : decode cX18_failed 0 = .ok (.aload_n 0, 1) := by decide +kernel
theorem dX18_failed_1 : decode cX18_failed 1 = .ok (.iload_n 1, 1) := by decide +kernel
theorem dX18_failed_2 : decode cX18_failed 2 = .ok (.iconst 4, 1) := by decide +kernel
theorem dX18_failed_3 : decode cX18_failed 3 = .ok (.invokestatic 207, 3) := by decide +kernel
theorem dX18_failed_6 : decode cX18_failed 6 = .ok (.aload_n 0, 1) := by decide +kernel
theorem dX18_failed_7 : decode cX18_failed 7 = .ok (.getfield 192, 3) := by decide +kernel
theorem dX18_failed_10 : decode cX18_failed 10 = .ok (.invokevirtual 199, 3) := by decide +kernel
theorem dX18_failed_13 : decode cX18_failed 13 = .ok (.ifCond .eq 15, 3) := by decide +kernel
theorem dX18_failed_28 : decode cX18_failed 28 = .ok (.iconst 0, 1) := by decide +kernel
theorem dX18_failed_29 : decode cX18_failed 29 = .ok (.ireturn, 1) := by decide +kernel
theorem dX18_failed_16 : decode cX18_failed 16 = .ok (.aload_n 0, 1) := by decide +kernel
theorem dX18_failed_17 : decode cX18_failed 17 = .ok (.getfield 35, 3) := by decide +kernel
theorem dX18_failed_20 : decode cX18_failed 20 = .ok (.getfield 559, 3) := by decide +kernel
theorem dX18_failed_23 : decode cX18_failed 23 = .ok (.iload_n 1, 1) := by decide +kernel
theorem dX18_failed_24 : decode cX18_failed 24 = .ok (.iaload, 1) := by decide +kernel
theorem dX18_failed_25 : decode cX18_failed 25 = .ok (.goto 4, 3) := by decide +kernel
theorem dX18_address_0 : decode cX18_address 0 = .ok (.aload_n 0, 1) := by decide +kernel
theorem dX18_address_1 : decode cX18_address 1 = .ok (.iload_n 1, 1) := by decide +kernel
theorem dX18_address_2 : decode cX18_address 2 = .ok (.bipush 8, 2) := by decide +kernel
theorem dX18_address_4 : decode cX18_address 4 = .ok (.invokestatic 207, 3) := by decide +kernel
theorem dX18_address_7 : decode cX18_address 7 = .ok (.ifCond .eq 17, 3) := by decide +kernel
theorem dX18_address_24 : decode cX18_address 24 = .ok (.iconst 0, 1) := by decide +kernel
theorem dX18_address_25 : decode cX18_address 25 = .ok (.aload_n 0, 1) := by decide +kernel
theorem dX18_address_26 : decode cX18_address 26 = .ok (.getfield 192, 3) := by decide +kernel
theorem dX18_address_29 : decode cX18_address 29 = .ok (.invokevirtual 199, 3) := by decide +kernel
theorem dX18_address_32 : decode cX18_address 32 = .ok (.ifCond .ne 5, 3) := by decide +kernel
theorem dX18_address_37 : decode cX18_address 37 = .ok (.aload_n 0, 1) := by decide +kernel
theorem dX18_address_38 : decode cX18_address 38 = .ok (.getfield 42, 3) := by decide +kernel
theorem dX18_address_41 : decode cX18_address 41 = .ok (.getfield 563, 3) := by decide +kernel
theorem dX18_address_44 : decode cX18_address 44 = .ok (.iload_n 1, 1) := by decide +kernel
theorem dX18_address_45 : decode cX18_address 45 = .ok (.iaload, 1) := by decide +kernel
theorem dX18_address_46 : decode cX18_address 46 = .ok (.istore_n 3, 1) := by decide +kernel
theorem dX18_address_47 : decode cX18_address 47 = .ok (.aload_n 0, 1) := by decide +kernel
theorem dX18_address_48 : decode cX18_address 48 = .ok (.getfield 42, 3) := by decide +kernel
theorem dX18_address_51 : decode cX18_address 51 = .ok (.getfield 563, 3) := by decide +kernel
theorem dX18_address_54 : decode cX18_address 54 = .ok (.iload_n 1, 1) := by decide +kernel
theorem dX18_address_55 : decode cX18_address 55 = .ok (.iload_n 2, 1) := by decide +kernel
theorem dX18_address_56 : decode cX18_address 56 = .ok (.iastore, 1) := by decide +kernel
theorem dX18_address_57 : decode cX18_address 57 = .ok (.iload_n 3, 1) := by decide +kernel
theorem dX18_address_58 : decode cX18_address 58 = .ok (.ireturn, 1) := by decide +kernel
theorem dX18_address_35 : decode cX18_address 35 = .ok (.iconst 0, 1) := by decide +kernel
theorem dX18_address_36 : decode cX18_address 36 = .ok (.ireturn, 1) := by decide +kernel
theorem dX18_address_10 : decode cX18_address 10 = .ok (.iload_n 2, 1) := by decide +kernel
theorem dX18_address_11 : decode cX18_address 11 = .ok (.ldc_w 562, 3) := by decide +kernel
theorem dX18_address_14 : decode cX18_address 14 = .ok (.invokestatic 207, 3) := by decide +kernel
theorem dX18_address_17 : decode cX18_address 17 = .ok (.ifCond .eq 7, 3) := by decide +kernel
theorem dX18_address_20 : decode cX18_address 20 = .ok (.iconst 1, 1) := by decide +kernel
theorem dX18_address_21 : decode cX18_address 21 = .ok (.goto 4, 3) := by decide +kernel
theorem dX18_listen_0 : decode cX18_listen 0 = .ok (.aload_n 0, 1) := by decide +kernel
theorem dX18_listen_1 : decode cX18_listen 1 = .ok (.iload_n 1, 1) := by decide +kernel
theorem dX18_listen_2 : decode cX18_listen 2 = .ok (.bipush 8, 2) := by decide +kernel
theorem dX18_listen_4 : decode cX18_listen 4 = .ok (.invokestatic 207, 3) := by decide +kernel
theorem dX18_listen_7 : decode cX18_listen 7 = .ok (.ifCond .eq 17, 3) := by decide +kernel
theorem dX18_listen_24 : decode cX18_listen 24 = .ok (.iconst 0, 1) := by decide +kernel
theorem dX18_listen_25 : decode cX18_listen 25 = .ok (.aload_n 0, 1) := by decide +kernel
theorem dX18_listen_26 : decode cX18_listen 26 = .ok (.getfield 192, 3) := by decide +kernel
theorem dX18_listen_29 : decode cX18_listen 29 = .ok (.invokevirtual 199, 3) := by decide +kernel
theorem dX18_listen_32 : decode cX18_listen 32 = .ok (.ifCond .ne 5, 3) := by decide +kernel
theorem dX18_listen_37 : decode cX18_listen 37 = .ok (.aload_n 0, 1) := by decide +kernel
theorem dX18_listen_38 : decode cX18_listen 38 = .ok (.getfield 42, 3) := by decide +kernel
theorem dX18_listen_41 : decode cX18_listen 41 = .ok (.getfield 566, 3) := by decide +kernel
theorem dX18_listen_44 : decode cX18_listen 44 = .ok (.sipush 256, 3) := by decide +kernel
theorem dX18_listen_47 : decode cX18_listen 47 = .ok (.iload_n 1, 1) := by decide +kernel
theorem dX18_listen_48 : decode cX18_listen 48 = .ok (.imul, 1) := by decide +kernel
theorem dX18_listen_49 : decode cX18_listen 49 = .ok (.iload_n 2, 1) := by decide +kernel
theorem dX18_listen_50 : decode cX18_listen 50 = .ok (.iadd, 1) := by decide +kernel
theorem dX18_listen_51 : decode cX18_listen 51 = .ok (.baload, 1) := by decide +kernel
theorem dX18_listen_52 : decode cX18_listen 52 = .ok (.istore 4, 2) := by decide +kernel
theorem dX18_listen_54 : decode cX18_listen 54 = .ok (.aload_n 0, 1) := by decide +kernel
theorem dX18_listen_55 : decode cX18_listen 55 = .ok (.getfield 42, 3) := by decide +kernel
theorem dX18_listen_58 : decode cX18_listen 58 = .ok (.getfield 566, 3) := by decide +kernel
theorem dX18_listen_61 : decode cX18_listen 61 = .ok (.sipush 256, 3) := by decide +kernel
theorem dX18_listen_64 : decode cX18_listen 64 = .ok (.iload_n 1, 1) := by decide +kernel
theorem dX18_listen_65 : decode cX18_listen 65 = .ok (.imul, 1) := by decide +kernel
theorem dX18_listen_66 : decode cX18_listen 66 = .ok (.iload_n 2, 1) := by decide +kernel
theorem dX18_listen_67 : decode cX18_listen 67 = .ok (.iadd, 1) := by decide +kernel
theorem dX18_listen_68 : decode cX18_listen 68 = .ok (.iload_n 3, 1) := by decide +kernel
theorem dX18_listen_69 : decode cX18_listen 69 = .ok (.bastore, 1) := by decide +kernel
theorem dX18_listen_70 : decode cX18_listen 70 = .ok (.iload 4, 2) := by decide +kernel
theorem dX18_listen_72 : decode cX18_listen 72 = .ok (.ireturn, 1) := by decide +kernel
theorem dX18_listen_35 : decode cX18_listen 35 = .ok (.iconst 0, 1) := by decide +kernel
theorem dX18_listen_36 : decode cX18_listen 36 = .ok (.ireturn, 1) := by decide +kernel
theorem dX18_listen_10 : decode cX18_listen 10 = .ok (.iload_n 2, 1) := by decide +kernel
theorem dX18_listen_11 : decode cX18_listen 11 = .ok (.sipush 256, 3) := by decide +kernel
theorem dX18_listen_14 : decode cX18_listen 14 = .ok (.invokestatic 207, 3) := by decide +kernel
theorem dX18_listen_17 : decode cX18_listen 17 = .ok (.ifCond .eq 7, 3) := by decide +kernel
theorem dX18_listen_20 : decode cX18_listen 20 = .ok (.iconst 1, 1) := by decide +kernel
theorem dX18_listen_21 : decode cX18_listen 21 = .ok (.goto 4, 3) := by decide +kernel
theorem dX18_busy_0 : decode cX18_busy 0 = .ok (.aload_n 0, 1) := by decide +kernel
theorem dX18_busy_1 : decode cX18_busy 1 = .ok (.iload_n 1, 1) := by decide +kernel
theorem dX18_busy_2 : decode cX18_busy 2 = .ok (.bipush 8, 2) := by decide +kernel
theorem dX18_busy_4 : decode cX18_busy 4 = .ok (.invokestatic 207, 3) := by decide +kernel
theorem dX18_busy_7 : decode cX18_busy 7 = .ok (.aload_n 0, 1) := by decide +kernel
theorem dX18_busy_8 : decode cX18_busy 8 = .ok (.getfield 192, 3) := by decide +kernel
theorem dX18_busy_11 : decode cX18_busy 11 = .ok (.invokevirtual 199, 3) := by decide +kernel
theorem dX18_busy_14 : decode cX18_busy 14 = .ok (.ifCond .ne 5, 3) := by decide +kernel
theorem dX18_busy_19 : decode cX18_busy 19 = .ok (.aload_n 0, 1) := by decide +kernel
theorem dX18_busy_20 : decode cX18_busy 20 = .ok (.getfield 42, 3) := by decide +kernel
theorem dX18_busy_23 : decode cX18_busy 23 = .ok (.getfield 569, 3) := by decide +kernel
theorem dX18_busy_26 : decode cX18_busy 26 = .ok (.iload_n 1, 1) := by decide +kernel
theorem dX18_busy_27 : decode cX18_busy 27 = .ok (.baload, 1) := by decide +kernel
theorem dX18_busy_28 : decode cX18_busy 28 = .ok (.istore_n 3, 1) := by decide +kernel
theorem dX18_busy_29 : decode cX18_busy 29 = .ok (.aload_n 0, 1) := by decide +kernel
theorem dX18_busy_30 : decode cX18_busy 30 = .ok (.getfield 42, 3) := by decide +kernel
theorem dX18_busy_33 : decode cX18_busy 33 = .ok (.getfield 569, 3) := by decide +kernel
theorem dX18_busy_36 : decode cX18_busy 36 = .ok (.iload_n 1, 1) := by decide +kernel
theorem dX18_busy_37 : decode cX18_busy 37 = .ok (.iload_n 2, 1) := by decide +kernel
theorem dX18_busy_38 : decode cX18_busy 38 = .ok (.bastore, 1) := by decide +kernel
theorem dX18_busy_39 : decode cX18_busy 39 = .ok (.iload_n 3, 1) := by decide +kernel
theorem dX18_busy_40 : decode cX18_busy 40 = .ok (.ireturn, 1) := by decide +kernel
theorem dX18_busy_17 : decode cX18_busy 17 = .ok (.iconst 0, 1) := by decide +kernel
theorem dX18_busy_18 : decode cX18_busy 18 = .ok (.ireturn, 1) := by decide +kernel
theorem dX18_send_0 : decode cX18_send 0 = .ok (.iload_n 1, 1) := by decide +kernel
theorem dX18_send_1 : decode cX18_send 1 = .ok (.bipush 8, 2) := by decide +kernel
theorem dX18_send_3 : decode cX18_send 3 = .ok (.invokestatic 207, 3) := by decide +kernel
theorem dX18_send_6 : decode cX18_send 6 = .ok (.ifCond .eq 60, 3) := by decide +kernel
theorem dX18_send_66 : decode cX18_send 66 = .ok (.iconst 0, 1) := by decide +kernel
theorem dX18_send_67 : decode cX18_send 67 = .ok (.istore 7, 2) := by decide +kernel
theorem dX18_send_69 : decode cX18_send 69 = .ok (.aload_n 0, 1) := by decide +kernel
theorem dX18_send_70 : decode cX18_send 70 = .ok (.iload 7, 2) := by decide +kernel
theorem dX18_send_72 : decode cX18_send 72 = .ok (.aload_n 0, 1) := by decide +kernel
theorem dX18_send_73 : decode cX18_send 73 = .ok (.getfield 192, 3) := by decide +kernel
theorem dX18_send_76 : decode cX18_send 76 = .ok (.ifCond .eq 26, 3) := by decide +kernel
theorem dX18_send_102 : decode cX18_send 102 = .ok (.iconst 0, 1) := by decide +kernel
theorem dX18_send_103 : decode cX18_send 103 = .ok (.invokevirtual 199, 3) := by decide +kernel
theorem dX18_send_106 : decode cX18_send 106 = .ok (.ifCond .eq 22, 3) := by decide +kernel
theorem dX18_send_128 : decode cX18_send 128 = .ok (.iconst 0, 1) := by decide +kernel
theorem dX18_send_129 : decode cX18_send 129 = .ok (.ireturn, 1) := by decide +kernel
theorem dX18_send_109 : decode cX18_send 109 = .ok (.aload_n 0, 1) := by decide +kernel
theorem dX18_send_110 : decode cX18_send 110 = .ok (.getfield 42, 3) := by decide +kernel
theorem dX18_send_113 : decode cX18_send 113 = .ok (.iload_n 1, 1) := by decide +kernel
theorem dX18_send_114 : decode cX18_send 114 = .ok (.iload_n 2, 1) := by decide +kernel
theorem dX18_send_115 : decode cX18_send 115 = .ok (.iload_n 3, 1) := by decide +kernel
theorem dX18_send_116 : decode cX18_send 116 = .ok (.iload 4, 2) := by decide +kernel
theorem dX18_send_118 : decode cX18_send 118 = .ok (.iload 5, 2) := by decide +kernel
theorem dX18_send_120 : decode cX18_send 120 = .ok (.iload 6, 2) := by decide +kernel
theorem dX18_send_122 : decode cX18_send 122 = .ok (.invokevirtual 470, 3) := by decide +kernel
theorem dX18_send_125 : decode cX18_send 125 = .ok (.goto 4, 3) := by decide +kernel
theorem dX18_send_79 : decode cX18_send 79 = .ok (.iload 7, 2) := by decide +kernel
theorem dX18_send_81 : decode cX18_send 81 = .ok (.ifCond .eq 17, 3) := by decide +kernel
theorem dX18_send_98 : decode cX18_send 98 = .ok (.iconst 1, 1) := by decide +kernel
theorem dX18_send_99 : decode cX18_send 99 = .ok (.goto 4, 3) := by decide +kernel
theorem dX18_send_84 : decode cX18_send 84 = .ok (.aload_n 0, 1) := by decide +kernel
theorem dX18_send_85 : decode cX18_send 85 = .ok (.getfield 42, 3) := by decide +kernel
theorem dX18_send_88 : decode cX18_send 88 = .ok (.getfield 467, 3) := by decide +kernel
theorem dX18_send_91 : decode cX18_send 91 = .ok (.iload_n 1, 1) := by decide +kernel
theorem dX18_send_92 : decode cX18_send 92 = .ok (.iaload, 1) := by decide +kernel
theorem dX18_send_93 : decode cX18_send 93 = .ok (.bipush 6, 2) := by decide +kernel
theorem dX18_send_95 : decode cX18_send 95 = .ok (.if_icmp .ge 7, 3) := by decide +kernel
theorem dX18_send_9 : decode cX18_send 9 = .ok (.iload_n 2, 1) := by decide +kernel
theorem dX18_send_10 : decode cX18_send 10 = .ok (.iconst 4, 1) := by decide +kernel
theorem dX18_send_11 : decode cX18_send 11 = .ok (.invokestatic 207, 3) := by decide +kernel
theorem dX18_send_14 : decode cX18_send 14 = .ok (.ifCond .eq 52, 3) := by decide +kernel
theorem dX18_send_17 : decode cX18_send 17 = .ok (.iload_n 3, 1) := by decide +kernel
theorem dX18_send_18 : decode cX18_send 18 = .ok (.iload 4, 2) := by decide +kernel
theorem dX18_send_20 : decode cX18_send 20 = .ok (.ifCond .eq 9, 3) := by decide +kernel
theorem dX18_send_29 : decode cX18_send 29 = .ok (.ldc_w 562, 3) := by decide +kernel
theorem dX18_send_32 : decode cX18_send 32 = .ok (.invokestatic 207, 3) := by decide +kernel
theorem dX18_send_35 : decode cX18_send 35 = .ok (.ifCond .eq 31, 3) := by decide +kernel
theorem dX18_send_38 : decode cX18_send 38 = .ok (.iload 5, 2) := by decide +kernel
theorem dX18_send_40 : decode cX18_send 40 = .ok (.iconst 1, 1) := by decide +kernel
theorem dX18_send_41 : decode cX18_send 41 = .ok (.if_icmp .lt 25, 3) := by decide +kernel
theorem dX18_send_44 : decode cX18_send 44 = .ok (.iload 5, 2) := by decide +kernel
theorem dX18_send_46 : decode cX18_send 46 = .ok (.bipush 14, 2) := by decide +kernel
theorem dX18_send_48 : decode cX18_send 48 = .ok (.if_icmp .gt 18, 3) := by decide +kernel
theorem dX18_send_51 : decode cX18_send 51 = .ok (.iload 6, 2) := by decide +kernel
theorem dX18_send_53 : decode cX18_send 53 = .ok (.sipush 256, 3) := by decide +kernel
theorem dX18_send_56 : decode cX18_send 56 = .ok (.invokestatic 207, 3) := by decide +kernel
theorem dX18_send_59 : decode cX18_send 59 = .ok (.ifCond .eq 7, 3) := by decide +kernel
theorem dX18_send_62 : decode cX18_send 62 = .ok (.iconst 1, 1) := by decide +kernel
theorem dX18_send_63 : decode cX18_send 63 = .ok (.goto 4, 3) := by decide +kernel
theorem dX18_send_23 : decode cX18_send 23 = .ok (.sipush 256, 3) := by decide +kernel
theorem dX18_send_26 : decode cX18_send 26 = .ok (.goto 6, 3) := by decide +kernel
theorem dX18_disturb_0 : decode cX18_disturb 0 = .ok (.aload_n 0, 1) := by decide +kernel
theorem dX18_disturb_1 : decode cX18_disturb 1 = .ok (.iload_n 1, 1) := by decide +kernel
theorem dX18_disturb_2 : decode cX18_disturb 2 = .ok (.iconst 1, 1) := by decide +kernel
theorem dX18_disturb_3 : decode cX18_disturb 3 = .ok (.if_icmp .lt 14, 3) := by decide +kernel
theorem dX18_disturb_17 : decode cX18_disturb 17 = .ok (.iconst 0, 1) := by decide +kernel
theorem dX18_disturb_18 : decode cX18_disturb 18 = .ok (.aload_n 0, 1) := by decide +kernel
theorem dX18_disturb_19 : decode cX18_disturb 19 = .ok (.getfield 192, 3) := by decide +kernel
theorem dX18_disturb_22 : decode cX18_disturb 22 = .ok (.ifCond .eq 17, 3) := by decide +kernel
theorem dX18_disturb_39 : decode cX18_disturb 39 = .ok (.iconst 0, 1) := by decide +kernel
theorem dX18_disturb_40 : decode cX18_disturb 40 = .ok (.invokevirtual 199, 3) := by decide +kernel
theorem dX18_disturb_43 : decode cX18_disturb 43 = .ok (.ifCond .eq 18, 3) := by decide +kernel
theorem dX18_disturb_61 : decode cX18_disturb 61 = .ok (.iconst 0, 1) := by decide +kernel
theorem dX18_disturb_62 : decode cX18_disturb 62 = .ok (.ireturn, 1) := by decide +kernel
theorem dX18_disturb_46 : decode cX18_disturb 46 = .ok (.aload_n 0, 1) := by decide +kernel
theorem dX18_disturb_47 : decode cX18_disturb 47 = .ok (.getfield 42, 3) := by decide +kernel
theorem dX18_disturb_50 : decode cX18_disturb 50 = .ok (.iload_n 1, 1) := by decide +kernel
theorem dX18_disturb_51 : decode cX18_disturb 51 = .ok (.invokevirtual 575, 3) := by decide +kernel
theorem dX18_disturb_54 : decode cX18_disturb 54 = .ok (.ifCond .eq 7, 3) := by decide +kernel
theorem dX18_disturb_57 : decode cX18_disturb 57 = .ok (.iconst 1, 1) := by decide +kernel
theorem dX18_disturb_58 : decode cX18_disturb 58 = .ok (.goto 4, 3) := by decide +kernel
theorem dX18_disturb_25 : decode cX18_disturb 25 = .ok (.aload_n 0, 1) := by decide +kernel
theorem dX18_disturb_26 : decode cX18_disturb 26 = .ok (.getfield 42, 3) := by decide +kernel
theorem dX18_disturb_29 : decode cX18_disturb 29 = .ok (.invokevirtual 572, 3) := by decide +kernel
theorem dX18_disturb_32 : decode cX18_disturb 32 = .ok (.ifCond .eq 7, 3) := by decide +kernel
theorem dX18_disturb_35 : decode cX18_disturb 35 = .ok (.iconst 1, 1) := by decide +kernel
theorem dX18_disturb_36 : decode cX18_disturb 36 = .ok (.goto 4, 3) := by decide +kernel
theorem dX18_disturb_6 : decode cX18_disturb 6 = .ok (.iload_n 1, 1) := by decide +kernel
theorem dX18_disturb_7 : decode cX18_disturb 7 = .ok (.sipush 2000, 3) := by decide +kernel
theorem dX18_disturb_10 : decode cX18_disturb 10 = .ok (.if_icmp .gt 7, 3) := by decide +kernel
theorem dX18_disturb_13 : decode cX18_disturb 13 = .ok (.iconst 1, 1) := by decide +kernel
theorem dX18_disturb_14 : decode cX18_disturb 14 = .ok (.goto 4, 3) := by decide +kernel
theorem dX18_station_0 : decode cX18_station 0 = .ok (.aload_n 0, 1) := by decide +kernel
theorem dX18_station_1 : decode cX18_station 1 = .ok (.iload_n 1, 1) := by decide +kernel
theorem dX18_station_2 : decode cX18_station 2 = .ok (.bipush 8, 2) := by decide +kernel
theorem dX18_station_4 : decode cX18_station 4 = .ok (.invokestatic 207, 3) := by decide +kernel
theorem dX18_station_7 : decode cX18_station 7 = .ok (.ifCond .eq 16, 3) := by decide +kernel
theorem dX18_station_23 : decode cX18_station 23 = .ok (.iconst 0, 1) := by decide +kernel
theorem dX18_station_24 : decode cX18_station 24 = .ok (.aload_n 0, 1) := by decide +kernel
theorem dX18_station_25 : decode cX18_station 25 = .ok (.getfield 192, 3) := by decide +kernel
theorem dX18_station_28 : decode cX18_station 28 = .ok (.invokevirtual 199, 3) := by decide +kernel
theorem dX18_station_31 : decode cX18_station 31 = .ok (.ifCond .eq 15, 3) := by decide +kernel
theorem dX18_station_46 : decode cX18_station 46 = .ok (.iconst 0, 1) := by decide +kernel
theorem dX18_station_47 : decode cX18_station 47 = .ok (.ireturn, 1) := by decide +kernel
theorem dX18_station_34 : decode cX18_station 34 = .ok (.aload_n 0, 1) := by decide +kernel
theorem dX18_station_35 : decode cX18_station 35 = .ok (.getfield 42, 3) := by decide +kernel
theorem dX18_station_38 : decode cX18_station 38 = .ok (.iload_n 1, 1) := by decide +kernel
theorem dX18_station_39 : decode cX18_station 39 = .ok (.iload_n 2, 1) := by decide +kernel
theorem dX18_station_40 : decode cX18_station 40 = .ok (.invokevirtual 578, 3) := by decide +kernel
theorem dX18_station_43 : decode cX18_station 43 = .ok (.goto 4, 3) := by decide +kernel
theorem dX18_station_10 : decode cX18_station 10 = .ok (.iload_n 2, 1) := by decide +kernel
theorem dX18_station_11 : decode cX18_station 11 = .ok (.bipush 6, 2) := by decide +kernel
theorem dX18_station_13 : decode cX18_station 13 = .ok (.invokestatic 207, 3) := by decide +kernel
theorem dX18_station_16 : decode cX18_station 16 = .ok (.ifCond .eq 7, 3) := by decide +kernel
theorem dX18_station_19 : decode cX18_station 19 = .ok (.iconst 1, 1) := by decide +kernel
theorem dX18_station_20 : decode cX18_station 20 = .ok (.goto 4, 3) := by decide +kernel
theorem dX18_heard_0 : decode cX18_heard 0 = .ok (.aload_n 0, 1) := by decide +kernel
theorem dX18_heard_1 : decode cX18_heard 1 = .ok (.iload_n 1, 1) := by decide +kernel
theorem dX18_heard_2 : decode cX18_heard 2 = .ok (.iconst 5, 1) := by decide +kernel
theorem dX18_heard_3 : decode cX18_heard 3 = .ok (.invokestatic 207, 3) := by decide +kernel
theorem dX18_heard_6 : decode cX18_heard 6 = .ok (.aload_n 0, 1) := by decide +kernel
theorem dX18_heard_7 : decode cX18_heard 7 = .ok (.getfield 192, 3) := by decide +kernel
theorem dX18_heard_10 : decode cX18_heard 10 = .ok (.invokevirtual 199, 3) := by decide +kernel
theorem dX18_heard_13 : decode cX18_heard 13 = .ok (.ifCond .eq 15, 3) := by decide +kernel
theorem dX18_heard_28 : decode cX18_heard 28 = .ok (.iconst 0, 1) := by decide +kernel
theorem dX18_heard_29 : decode cX18_heard 29 = .ok (.ireturn, 1) := by decide +kernel
theorem dX18_heard_16 : decode cX18_heard 16 = .ok (.aload_n 0, 1) := by decide +kernel
theorem dX18_heard_17 : decode cX18_heard 17 = .ok (.getfield 42, 3) := by decide +kernel
theorem dX18_heard_20 : decode cX18_heard 20 = .ok (.getfield 581, 3) := by decide +kernel
theorem dX18_heard_23 : decode cX18_heard 23 = .ok (.iload_n 1, 1) := by decide +kernel
theorem dX18_heard_24 : decode cX18_heard 24 = .ok (.iaload, 1) := by decide +kernel
theorem dX18_heard_25 : decode cX18_heard 25 = .ok (.goto 4, 3) := by decide +kernel
theorem dX18_byteAt_0 : decode cX18_byteAt 0 = .ok (.aload_n 0, 1) := by decide +kernel
theorem dX18_byteAt_1 : decode cX18_byteAt 1 = .ok (.iload_n 1, 1) := by decide +kernel
theorem dX18_byteAt_2 : decode cX18_byteAt 2 = .ok (.iconst (-1), 1) := by decide +kernel
theorem dX18_byteAt_3 : decode cX18_byteAt 3 = .ok (.if_icmp .lt 18, 3) := by decide +kernel
theorem dX18_byteAt_21 : decode cX18_byteAt 21 = .ok (.iconst 0, 1) := by decide +kernel
theorem dX18_byteAt_22 : decode cX18_byteAt 22 = .ok (.aload_n 0, 1) := by decide +kernel
theorem dX18_byteAt_23 : decode cX18_byteAt 23 = .ok (.getfield 192, 3) := by decide +kernel
theorem dX18_byteAt_26 : decode cX18_byteAt 26 = .ok (.invokevirtual 199, 3) := by decide +kernel
theorem dX18_byteAt_29 : decode cX18_byteAt 29 = .ok (.ifCond .eq 29, 3) := by decide +kernel
theorem dX18_byteAt_58 : decode cX18_byteAt 58 = .ok (.iconst 0, 1) := by decide +kernel
theorem dX18_byteAt_59 : decode cX18_byteAt 59 = .ok (.ireturn, 1) := by decide +kernel
theorem dX18_byteAt_32 : decode cX18_byteAt 32 = .ok (.iload_n 1, 1) := by decide +kernel
theorem dX18_byteAt_33 : decode cX18_byteAt 33 = .ok (.ifCond .ge 13, 3) := by decide +kernel
theorem dX18_byteAt_46 : decode cX18_byteAt 46 = .ok (.aload_n 0, 1) := by decide +kernel
theorem dX18_byteAt_47 : decode cX18_byteAt 47 = .ok (.getfield 42, 3) := by decide +kernel
theorem dX18_byteAt_50 : decode cX18_byteAt 50 = .ok (.getfield 588, 3) := by decide +kernel
theorem dX18_byteAt_53 : decode cX18_byteAt 53 = .ok (.iload_n 1, 1) := by decide +kernel
theorem dX18_byteAt_54 : decode cX18_byteAt 54 = .ok (.iaload, 1) := by decide +kernel
theorem dX18_byteAt_55 : decode cX18_byteAt 55 = .ok (.goto 4, 3) := by decide +kernel
theorem dX18_byteAt_36 : decode cX18_byteAt 36 = .ok (.aload_n 0, 1) := by decide +kernel
theorem dX18_byteAt_37 : decode cX18_byteAt 37 = .ok (.getfield 42, 3) := by decide +kernel
theorem dX18_byteAt_40 : decode cX18_byteAt 40 = .ok (.getfield 585, 3) := by decide +kernel
theorem dX18_byteAt_43 : decode cX18_byteAt 43 = .ok (.goto 16, 3) := by decide +kernel
theorem dX18_byteAt_6 : decode cX18_byteAt 6 = .ok (.iload_n 1, 1) := by decide +kernel
theorem dX18_byteAt_7 : decode cX18_byteAt 7 = .ok (.aload_n 0, 1) := by decide +kernel
theorem dX18_byteAt_8 : decode cX18_byteAt 8 = .ok (.getfield 42, 3) := by decide +kernel
theorem dX18_byteAt_11 : decode cX18_byteAt 11 = .ok (.getfield 584, 3) := by decide +kernel
theorem dX18_byteAt_14 : decode cX18_byteAt 14 = .ok (.if_icmp .ge 7, 3) := by decide +kernel
theorem dX18_byteAt_17 : decode cX18_byteAt 17 = .ok (.iconst 1, 1) := by decide +kernel
theorem dX18_byteAt_18 : decode cX18_byteAt 18 = .ok (.goto 4, 3) := by decide +kernel
theorem dX18_car_0 : decode cX18_car 0 = .ok (.aload_n 0, 1) := by decide +kernel
theorem dX18_car_1 : decode cX18_car 1 = .ok (.iload_n 1, 1) := by decide +kernel
theorem dX18_car_2 : decode cX18_car 2 = .ok (.invokestatic 591, 3) := by decide +kernel
theorem dX18_car_5 : decode cX18_car 5 = .ok (.ifCond .eq 17, 3) := by decide +kernel
theorem dX18_car_22 : decode cX18_car 22 = .ok (.iconst 0, 1) := by decide +kernel
theorem dX18_car_23 : decode cX18_car 23 = .ok (.aload_n 0, 1) := by decide +kernel
theorem dX18_car_24 : decode cX18_car 24 = .ok (.getfield 192, 3) := by decide +kernel
theorem dX18_car_27 : decode cX18_car 27 = .ok (.ifCond .eq 18, 3) := by decide +kernel
theorem dX18_car_45 : decode cX18_car 45 = .ok (.iconst 0, 1) := by decide +kernel
theorem dX18_car_46 : decode cX18_car 46 = .ok (.invokevirtual 199, 3) := by decide +kernel
theorem dX18_car_49 : decode cX18_car 49 = .ok (.ifCond .eq 15, 3) := by decide +kernel
theorem dX18_car_64 : decode cX18_car 64 = .ok (.iconst 0, 1) := by decide +kernel
theorem dX18_car_65 : decode cX18_car 65 = .ok (.ireturn, 1) := by decide +kernel
theorem dX18_car_52 : decode cX18_car 52 = .ok (.aload_n 0, 1) := by decide +kernel
theorem dX18_car_53 : decode cX18_car 53 = .ok (.getfield 49, 3) := by decide +kernel
theorem dX18_car_56 : decode cX18_car 56 = .ok (.iload_n 1, 1) := by decide +kernel
theorem dX18_car_57 : decode cX18_car 57 = .ok (.iload_n 2, 1) := by decide +kernel
theorem dX18_car_58 : decode cX18_car 58 = .ok (.invokevirtual 597, 3) := by decide +kernel
theorem dX18_car_61 : decode cX18_car 61 = .ok (.goto 4, 3) := by decide +kernel
theorem dX18_car_30 : decode cX18_car 30 = .ok (.aload_n 0, 1) := by decide +kernel
theorem dX18_car_31 : decode cX18_car 31 = .ok (.getfield 49, 3) := by decide +kernel
theorem dX18_car_34 : decode cX18_car 34 = .ok (.getfield 594, 3) := by decide +kernel
theorem dX18_car_37 : decode cX18_car 37 = .ok (.iconst 4, 1) := by decide +kernel
theorem dX18_car_38 : decode cX18_car 38 = .ok (.if_icmp .ge 7, 3) := by decide +kernel
theorem dX18_car_41 : decode cX18_car 41 = .ok (.iconst 1, 1) := by decide +kernel
theorem dX18_car_42 : decode cX18_car 42 = .ok (.goto 4, 3) := by decide +kernel
theorem dX18_car_8 : decode cX18_car 8 = .ok (.iload_n 2, 1) := by decide +kernel
theorem dX18_car_9 : decode cX18_car 9 = .ok (.iconst 1, 1) := by decide +kernel
theorem dX18_car_10 : decode cX18_car 10 = .ok (.if_icmp .lt 12, 3) := by decide +kernel
theorem dX18_car_13 : decode cX18_car 13 = .ok (.iload_n 2, 1) := by decide +kernel
theorem dX18_car_14 : decode cX18_car 14 = .ok (.iconst 5, 1) := by decide +kernel
theorem dX18_car_15 : decode cX18_car 15 = .ok (.if_icmp .gt 7, 3) := by decide +kernel
theorem dX18_car_18 : decode cX18_car 18 = .ok (.iconst 1, 1) := by decide +kernel
theorem dX18_car_19 : decode cX18_car 19 = .ok (.goto 4, 3) := by decide +kernel
theorem dX18_free_0 : decode cX18_free 0 = .ok (.aload_n 0, 1) := by decide +kernel
theorem dX18_free_1 : decode cX18_free 1 = .ok (.iload_n 1, 1) := by decide +kernel
theorem dX18_free_2 : decode cX18_free 2 = .ok (.aload_n 0, 1) := by decide +kernel
theorem dX18_free_3 : decode cX18_free 3 = .ok (.getfield 49, 3) := by decide +kernel
theorem dX18_free_6 : decode cX18_free 6 = .ok (.getfield 594, 3) := by decide +kernel
theorem dX18_free_9 : decode cX18_free 9 = .ok (.invokestatic 207, 3) := by decide +kernel
theorem dX18_free_12 : decode cX18_free 12 = .ok (.ifCond .eq 25, 3) := by decide +kernel
theorem dX18_free_37 : decode cX18_free 37 = .ok (.iconst 0, 1) := by decide +kernel
theorem dX18_free_38 : decode cX18_free 38 = .ok (.aload_n 0, 1) := by decide +kernel
theorem dX18_free_39 : decode cX18_free 39 = .ok (.getfield 192, 3) := by decide +kernel
theorem dX18_free_42 : decode cX18_free 42 = .ok (.invokevirtual 199, 3) := by decide +kernel
theorem dX18_free_45 : decode cX18_free 45 = .ok (.ifCond .eq 23, 3) := by decide +kernel
theorem dX18_free_68 : decode cX18_free 68 = .ok (.return_, 1) := by decide +kernel
theorem dX18_free_48 : decode cX18_free 48 = .ok (.aload_n 0, 1) := by decide +kernel
theorem dX18_free_49 : decode cX18_free 49 = .ok (.getfield 49, 3) := by decide +kernel
theorem dX18_free_52 : decode cX18_free 52 = .ok (.getfield 601, 3) := by decide +kernel
theorem dX18_free_55 : decode cX18_free 55 = .ok (.iload_n 1, 1) := by decide +kernel
theorem dX18_free_56 : decode cX18_free 56 = .ok (.iload_n 2, 1) := by decide +kernel
theorem dX18_free_57 : decode cX18_free 57 = .ok (.iastore, 1) := by decide +kernel
theorem dX18_free_58 : decode cX18_free 58 = .ok (.aload_n 0, 1) := by decide +kernel
theorem dX18_free_59 : decode cX18_free 59 = .ok (.getfield 49, 3) := by decide +kernel
theorem dX18_free_62 : decode cX18_free 62 = .ok (.getfield 604, 3) := by decide +kernel
theorem dX18_free_65 : decode cX18_free 65 = .ok (.iload_n 1, 1) := by decide +kernel
theorem dX18_free_66 : decode cX18_free 66 = .ok (.iload_n 3, 1) := by decide +kernel
theorem dX18_free_67 : decode cX18_free 67 = .ok (.iastore, 1) := by decide +kernel
theorem dX18_free_15 : decode cX18_free 15 = .ok (.iload_n 2, 1) := by decide +kernel
theorem dX18_free_16 : decode cX18_free 16 = .ok (.invokestatic 591, 3) := by decide +kernel
theorem dX18_free_19 : decode cX18_free 19 = .ok (.ifCond .eq 18, 3) := by decide +kernel
theorem dX18_free_22 : decode cX18_free 22 = .ok (.iload_n 3, 1) := by decide +kernel
theorem dX18_free_23 : decode cX18_free 23 = .ok (.ifCond .lt 14, 3) := by decide +kernel
theorem dX18_free_26 : decode cX18_free 26 = .ok (.iload_n 3, 1) := by decide +kernel
theorem dX18_free_27 : decode cX18_free 27 = .ok (.ldc_w 600, 3) := by decide +kernel
theorem dX18_free_30 : decode cX18_free 30 = .ok (.if_icmp .gt 7, 3) := by decide +kernel
theorem dX18_free_33 : decode cX18_free 33 = .ok (.iconst 1, 1) := by decide +kernel
theorem dX18_free_34 : decode cX18_free 34 = .ok (.goto 4, 3) := by decide +kernel
theorem dX18_span_0 : decode cX18_span 0 = .ok (.aload_n 0, 1) := by decide +kernel
theorem dX18_span_1 : decode cX18_span 1 = .ok (.iload_n 1, 1) := by decide +kernel
theorem dX18_span_2 : decode cX18_span 2 = .ok (.aload_n 0, 1) := by decide +kernel
theorem dX18_span_3 : decode cX18_span 3 = .ok (.getfield 49, 3) := by decide +kernel
theorem dX18_span_6 : decode cX18_span 6 = .ok (.getfield 594, 3) := by decide +kernel
theorem dX18_span_9 : decode cX18_span 9 = .ok (.invokestatic 207, 3) := by decide +kernel
theorem dX18_span_12 : decode cX18_span 12 = .ok (.ifCond .eq 26, 3) := by decide +kernel
theorem dX18_span_38 : decode cX18_span 38 = .ok (.iconst 0, 1) := by decide +kernel
theorem dX18_span_39 : decode cX18_span 39 = .ok (.aload_n 0, 1) := by decide +kernel
theorem dX18_span_40 : decode cX18_span 40 = .ok (.getfield 192, 3) := by decide +kernel
theorem dX18_span_43 : decode cX18_span 43 = .ok (.invokevirtual 199, 3) := by decide +kernel
theorem dX18_span_46 : decode cX18_span 46 = .ok (.ifCond .eq 23, 3) := by decide +kernel
theorem dX18_span_69 : decode cX18_span 69 = .ok (.return_, 1) := by decide +kernel
theorem dX18_span_49 : decode cX18_span 49 = .ok (.aload_n 0, 1) := by decide +kernel
theorem dX18_span_50 : decode cX18_span 50 = .ok (.getfield 49, 3) := by decide +kernel
theorem dX18_span_53 : decode cX18_span 53 = .ok (.getfield 605, 3) := by decide +kernel
theorem dX18_span_56 : decode cX18_span 56 = .ok (.iload_n 1, 1) := by decide +kernel
theorem dX18_span_57 : decode cX18_span 57 = .ok (.iload_n 2, 1) := by decide +kernel
theorem dX18_span_58 : decode cX18_span 58 = .ok (.iastore, 1) := by decide +kernel
theorem dX18_span_59 : decode cX18_span 59 = .ok (.aload_n 0, 1) := by decide +kernel
theorem dX18_span_60 : decode cX18_span 60 = .ok (.getfield 49, 3) := by decide +kernel
theorem dX18_span_63 : decode cX18_span 63 = .ok (.getfield 608, 3) := by decide +kernel
theorem dX18_span_66 : decode cX18_span 66 = .ok (.iload_n 1, 1) := by decide +kernel
theorem dX18_span_67 : decode cX18_span 67 = .ok (.iload_n 3, 1) := by decide +kernel
theorem dX18_span_68 : decode cX18_span 68 = .ok (.iastore, 1) := by decide +kernel
theorem dX18_span_15 : decode cX18_span 15 = .ok (.iload_n 2, 1) := by decide +kernel
theorem dX18_span_16 : decode cX18_span 16 = .ok (.invokestatic 591, 3) := by decide +kernel
theorem dX18_span_19 : decode cX18_span 19 = .ok (.ifCond .eq 19, 3) := by decide +kernel
theorem dX18_span_22 : decode cX18_span 22 = .ok (.iload_n 3, 1) := by decide +kernel
theorem dX18_span_23 : decode cX18_span 23 = .ok (.invokestatic 591, 3) := by decide +kernel
theorem dX18_span_26 : decode cX18_span 26 = .ok (.ifCond .eq 12, 3) := by decide +kernel
theorem dX18_span_29 : decode cX18_span 29 = .ok (.iload_n 2, 1) := by decide +kernel
theorem dX18_span_30 : decode cX18_span 30 = .ok (.iload_n 3, 1) := by decide +kernel
theorem dX18_span_31 : decode cX18_span 31 = .ok (.if_icmp .gt 7, 3) := by decide +kernel
theorem dX18_span_34 : decode cX18_span 34 = .ok (.iconst 1, 1) := by decide +kernel
theorem dX18_span_35 : decode cX18_span 35 = .ok (.goto 4, 3) := by decide +kernel
theorem dX18_call_0 : decode cX18_call 0 = .ok (.aload_n 0, 1) := by decide +kernel
theorem dX18_call_1 : decode cX18_call 1 = .ok (.iload_n 1, 1) := by decide +kernel
theorem dX18_call_2 : decode cX18_call 2 = .ok (.invokestatic 591, 3) := by decide +kernel
theorem dX18_call_5 : decode cX18_call 5 = .ok (.ifCond .eq 19, 3) := by decide +kernel
theorem dX18_call_24 : decode cX18_call 24 = .ok (.iconst 0, 1) := by decide +kernel
theorem dX18_call_25 : decode cX18_call 25 = .ok (.aload_n 0, 1) := by decide +kernel
theorem dX18_call_26 : decode cX18_call 26 = .ok (.getfield 192, 3) := by decide +kernel
theorem dX18_call_29 : decode cX18_call 29 = .ok (.ifCond .eq 32, 3) := by decide +kernel
theorem dX18_call_61 : decode cX18_call 61 = .ok (.iconst 0, 1) := by decide +kernel
theorem dX18_call_62 : decode cX18_call 62 = .ok (.invokevirtual 199, 3) := by decide +kernel
theorem dX18_call_65 : decode cX18_call 65 = .ok (.ifCond .eq 15, 3) := by decide +kernel
theorem dX18_call_80 : decode cX18_call 80 = .ok (.iconst 0, 1) := by decide +kernel
theorem dX18_call_81 : decode cX18_call 81 = .ok (.ireturn, 1) := by decide +kernel
theorem dX18_call_68 : decode cX18_call 68 = .ok (.aload_n 0, 1) := by decide +kernel
theorem dX18_call_69 : decode cX18_call 69 = .ok (.getfield 49, 3) := by decide +kernel
theorem dX18_call_72 : decode cX18_call 72 = .ok (.iload_n 1, 1) := by decide +kernel
theorem dX18_call_73 : decode cX18_call 73 = .ok (.iload_n 2, 1) := by decide +kernel
theorem dX18_call_74 : decode cX18_call 74 = .ok (.invokevirtual 617, 3) := by decide +kernel
theorem dX18_call_77 : decode cX18_call 77 = .ok (.goto 4, 3) := by decide +kernel
theorem dX18_call_32 : decode cX18_call 32 = .ok (.aload_n 0, 1) := by decide +kernel
theorem dX18_call_33 : decode cX18_call 33 = .ok (.getfield 49, 3) := by decide +kernel
theorem dX18_call_36 : decode cX18_call 36 = .ok (.invokevirtual 611, 3) := by decide +kernel
theorem dX18_call_39 : decode cX18_call 39 = .ok (.bipush 6, 2) := by decide +kernel
theorem dX18_call_41 : decode cX18_call 41 = .ok (.if_icmp .ge 20, 3) := by decide +kernel
theorem dX18_call_44 : decode cX18_call 44 = .ok (.aload_n 0, 1) := by decide +kernel
theorem dX18_call_45 : decode cX18_call 45 = .ok (.getfield 49, 3) := by decide +kernel
theorem dX18_call_48 : decode cX18_call 48 = .ok (.getfield 614, 3) := by decide +kernel
theorem dX18_call_51 : decode cX18_call 51 = .ok (.sipush 400, 3) := by decide +kernel
theorem dX18_call_54 : decode cX18_call 54 = .ok (.if_icmp .ge 7, 3) := by decide +kernel
theorem dX18_call_57 : decode cX18_call 57 = .ok (.iconst 1, 1) := by decide +kernel
theorem dX18_call_58 : decode cX18_call 58 = .ok (.goto 4, 3) := by decide +kernel
theorem dX18_call_8 : decode cX18_call 8 = .ok (.iload_n 2, 1) := by decide +kernel
theorem dX18_call_9 : decode cX18_call 9 = .ok (.invokestatic 591, 3) := by decide +kernel
theorem dX18_call_12 : decode cX18_call 12 = .ok (.ifCond .eq 12, 3) := by decide +kernel
theorem dX18_call_15 : decode cX18_call 15 = .ok (.iload_n 1, 1) := by decide +kernel
theorem dX18_call_16 : decode cX18_call 16 = .ok (.iload_n 2, 1) := by decide +kernel
theorem dX18_call_17 : decode cX18_call 17 = .ok (.if_icmp .eq 7, 3) := by decide +kernel
theorem dX18_call_20 : decode cX18_call 20 = .ok (.iconst 1, 1) := by decide +kernel
theorem dX18_call_21 : decode cX18_call 21 = .ok (.goto 4, 3) := by decide +kernel
theorem dX18_begin_0 : decode cX18_begin 0 = .ok (.aload_n 0, 1) := by decide +kernel
theorem dX18_begin_1 : decode cX18_begin 1 = .ok (.aload_n 0, 1) := by decide +kernel
theorem dX18_begin_2 : decode cX18_begin 2 = .ok (.getfield 49, 3) := by decide +kernel
theorem dX18_begin_5 : decode cX18_begin 5 = .ok (.iload_n 1, 1) := by decide +kernel
theorem dX18_begin_6 : decode cX18_begin 6 = .ok (.invokevirtual 620, 3) := by decide +kernel
theorem dX18_begin_9 : decode cX18_begin 9 = .ok (.ifCond .eq 26, 3) := by decide +kernel
theorem dX18_begin_35 : decode cX18_begin 35 = .ok (.iconst 0, 1) := by decide +kernel
theorem dX18_begin_36 : decode cX18_begin 36 = .ok (.aload_n 0, 1) := by decide +kernel
theorem dX18_begin_37 : decode cX18_begin 37 = .ok (.getfield 192, 3) := by decide +kernel
theorem dX18_begin_40 : decode cX18_begin 40 = .ok (.invokevirtual 199, 3) := by decide +kernel
theorem dX18_begin_43 : decode cX18_begin 43 = .ok (.ifCond .eq 19, 3) := by decide +kernel
theorem dX18_begin_62 : decode cX18_begin 62 = .ok (.iconst 0, 1) := by decide +kernel
theorem dX18_begin_63 : decode cX18_begin 63 = .ok (.ireturn, 1) := by decide +kernel
theorem dX18_begin_46 : decode cX18_begin 46 = .ok (.aload_n 0, 1) := by decide +kernel
theorem dX18_begin_47 : decode cX18_begin 47 = .ok (.getfield 49, 3) := by decide +kernel
theorem dX18_begin_50 : decode cX18_begin 50 = .ok (.iload_n 1, 1) := by decide +kernel
theorem dX18_begin_51 : decode cX18_begin 51 = .ok (.iload_n 2, 1) := by decide +kernel
theorem dX18_begin_52 : decode cX18_begin 52 = .ok (.invokevirtual 623, 3) := by decide +kernel
theorem dX18_begin_55 : decode cX18_begin 55 = .ok (.ifCond .eq 7, 3) := by decide +kernel
theorem dX18_begin_58 : decode cX18_begin 58 = .ok (.iconst 1, 1) := by decide +kernel
theorem dX18_begin_59 : decode cX18_begin 59 = .ok (.goto 4, 3) := by decide +kernel
theorem dX18_begin_12 : decode cX18_begin 12 = .ok (.iload_n 2, 1) := by decide +kernel
theorem dX18_begin_13 : decode cX18_begin 13 = .ok (.iconst (-1), 1) := by decide +kernel
theorem dX18_begin_14 : decode cX18_begin 14 = .ok (.if_icmp .eq 17, 3) := by decide +kernel
theorem dX18_begin_31 : decode cX18_begin 31 = .ok (.iconst 1, 1) := by decide +kernel
theorem dX18_begin_32 : decode cX18_begin 32 = .ok (.goto 4, 3) := by decide +kernel
theorem dX18_begin_17 : decode cX18_begin 17 = .ok (.iload_n 2, 1) := by decide +kernel
theorem dX18_begin_18 : decode cX18_begin 18 = .ok (.aload_n 0, 1) := by decide +kernel
theorem dX18_begin_19 : decode cX18_begin 19 = .ok (.getfield 49, 3) := by decide +kernel
theorem dX18_begin_22 : decode cX18_begin 22 = .ok (.getfield 594, 3) := by decide +kernel
theorem dX18_begin_25 : decode cX18_begin 25 = .ok (.invokestatic 207, 3) := by decide +kernel
theorem dX18_begin_28 : decode cX18_begin 28 = .ok (.ifCond .eq 7, 3) := by decide +kernel
theorem dX18_done_0 : decode cX18_done 0 = .ok (.aload_n 0, 1) := by decide +kernel
theorem dX18_done_1 : decode cX18_done 1 = .ok (.aload_n 0, 1) := by decide +kernel
theorem dX18_done_2 : decode cX18_done 2 = .ok (.getfield 49, 3) := by decide +kernel
theorem dX18_done_5 : decode cX18_done 5 = .ok (.iload_n 1, 1) := by decide +kernel
theorem dX18_done_6 : decode cX18_done 6 = .ok (.invokevirtual 620, 3) := by decide +kernel
theorem dX18_done_9 : decode cX18_done 9 = .ok (.aload_n 0, 1) := by decide +kernel
theorem dX18_done_10 : decode cX18_done 10 = .ok (.getfield 192, 3) := by decide +kernel
theorem dX18_done_13 : decode cX18_done 13 = .ok (.invokevirtual 199, 3) := by decide +kernel
theorem dX18_done_16 : decode cX18_done 16 = .ok (.ifCond .eq 13, 3) := by decide +kernel
theorem dX18_done_29 : decode cX18_done 29 = .ok (.return_, 1) := by decide +kernel
theorem dX18_done_19 : decode cX18_done 19 = .ok (.aload_n 0, 1) := by decide +kernel
theorem dX18_done_20 : decode cX18_done 20 = .ok (.getfield 49, 3) := by decide +kernel
theorem dX18_done_23 : decode cX18_done 23 = .ok (.getfield 626, 3) := by decide +kernel
theorem dX18_done_26 : decode cX18_done 26 = .ok (.iload_n 1, 1) := by decide +kernel
theorem dX18_done_27 : decode cX18_done 27 = .ok (.iconst 0, 1) := by decide +kernel
theorem dX18_done_28 : decode cX18_done 28 = .ok (.bastore, 1) := by decide +kernel
theorem dX18_give_0 : decode cX18_give 0 = .ok (.aload_n 0, 1) := by decide +kernel
theorem dX18_give_1 : decode cX18_give 1 = .ok (.aload_n 0, 1) := by decide +kernel
theorem dX18_give_2 : decode cX18_give 2 = .ok (.getfield 192, 3) := by decide +kernel
theorem dX18_give_5 : decode cX18_give 5 = .ok (.invokevirtual 230, 3) := by decide +kernel
theorem dX18_give_8 : decode cX18_give 8 = .ok (.ifCond .ne 5, 3) := by decide +kernel
theorem dX18_give_13 : decode cX18_give 13 = .ok (.aload_n 0, 1) := by decide +kernel
theorem dX18_give_14 : decode cX18_give 14 = .ok (.getfield 49, 3) := by decide +kernel
theorem dX18_give_17 : decode cX18_give 17 = .ok (.aload_n 0, 1) := by decide +kernel
theorem dX18_give_18 : decode cX18_give 18 = .ok (.getfield 28, 3) := by decide +kernel
theorem dX18_give_21 : decode cX18_give 21 = .ok (.iconst 1, 1) := by decide +kernel
theorem dX18_give_22 : decode cX18_give 22 = .ok (.invokevirtual 404, 3) := by decide +kernel
theorem dX18_give_25 : decode cX18_give 25 = .ok (.ifCond .le 7, 3) := by decide +kernel
theorem dX18_give_32 : decode cX18_give 32 = .ok (.iconst 0, 1) := by decide +kernel
theorem dX18_give_33 : decode cX18_give 33 = .ok (.putfield 629, 3) := by decide +kernel
theorem dX18_give_36 : decode cX18_give 36 = .ok (.aload_n 0, 1) := by decide +kernel
theorem dX18_give_37 : decode cX18_give 37 = .ok (.getfield 49, 3) := by decide +kernel
theorem dX18_give_40 : decode cX18_give 40 = .ok (.invokevirtual 632, 3) := by decide +kernel
theorem dX18_give_43 : decode cX18_give 43 = .ok (.lreturn, 1) := by decide +kernel
theorem dX18_give_28 : decode cX18_give 28 = .ok (.iconst 1, 1) := by decide +kernel
theorem dX18_give_29 : decode cX18_give 29 = .ok (.goto 4, 3) := by decide +kernel
theorem dX18_give_11 : decode cX18_give 11 = .ok (.lconst 0, 1) := by decide +kernel
theorem dX18_give_12 : decode cX18_give 12 = .ok (.lreturn, 1) := by decide +kernel
theorem dX18_given_0 : decode cX18_given 0 = .ok (.aload_n 0, 1) := by decide +kernel
theorem dX18_given_1 : decode cX18_given 1 = .ok (.iload_n 1, 1) := by decide +kernel
theorem dX18_given_2 : decode cX18_given 2 = .ok (.aload_n 0, 1) := by decide +kernel
theorem dX18_given_3 : decode cX18_given 3 = .ok (.getfield 49, 3) := by decide +kernel
theorem dX18_given_6 : decode cX18_given 6 = .ok (.getfield 614, 3) := by decide +kernel
theorem dX18_given_9 : decode cX18_given 9 = .ok (.invokestatic 207, 3) := by decide +kernel
theorem dX18_given_12 : decode cX18_given 12 = .ok (.ifCond .eq 15, 3) := by decide +kernel
theorem dX18_given_27 : decode cX18_given 27 = .ok (.iconst 0, 1) := by decide +kernel
theorem dX18_given_28 : decode cX18_given 28 = .ok (.aload_n 0, 1) := by decide +kernel
theorem dX18_given_29 : decode cX18_given 29 = .ok (.getfield 192, 3) := by decide +kernel
theorem dX18_given_32 : decode cX18_given 32 = .ok (.invokevirtual 199, 3) := by decide +kernel
theorem dX18_given_35 : decode cX18_given 35 = .ok (.ifCond .eq 15, 3) := by decide +kernel
theorem dX18_given_50 : decode cX18_given 50 = .ok (.iconst 0, 1) := by decide +kernel
theorem dX18_given_51 : decode cX18_given 51 = .ok (.ireturn, 1) := by decide +kernel
theorem dX18_given_38 : decode cX18_given 38 = .ok (.aload_n 0, 1) := by decide +kernel
theorem dX18_given_39 : decode cX18_given 39 = .ok (.getfield 49, 3) := by decide +kernel
theorem dX18_given_42 : decode cX18_given 42 = .ok (.iload_n 1, 1) := by decide +kernel
theorem dX18_given_43 : decode cX18_given 43 = .ok (.iload_n 2, 1) := by decide +kernel
theorem dX18_given_44 : decode cX18_given 44 = .ok (.invokevirtual 636, 3) := by decide +kernel
theorem dX18_given_47 : decode cX18_given 47 = .ok (.goto 4, 3) := by decide +kernel
theorem dX18_given_15 : decode cX18_given 15 = .ok (.iload_n 2, 1) := by decide +kernel
theorem dX18_given_16 : decode cX18_given 16 = .ok (.iconst 4, 1) := by decide +kernel
theorem dX18_given_17 : decode cX18_given 17 = .ok (.invokestatic 207, 3) := by decide +kernel
theorem dX18_given_20 : decode cX18_given 20 = .ok (.ifCond .eq 7, 3) := by decide +kernel
theorem dX18_given_23 : decode cX18_given 23 = .ok (.iconst 1, 1) := by decide +kernel
theorem dX18_given_24 : decode cX18_given 24 = .ok (.goto 4, 3) := by decide +kernel
theorem dX18_fire_0 : decode cX18_fire 0 = .ok (.aload_n 0, 1) := by decide +kernel
theorem dX18_fire_1 : decode cX18_fire 1 = .ok (.iload_n 1, 1) := by decide +kernel
theorem dX18_fire_2 : decode cX18_fire 2 = .ok (.iload_n 2, 1) := by decide +kernel
theorem dX18_fire_3 : decode cX18_fire 3 = .ok (.invokestatic 266, 3) := by decide +kernel
theorem dX18_fire_6 : decode cX18_fire 6 = .ok (.aload_n 0, 1) := by decide +kernel
theorem dX18_fire_7 : decode cX18_fire 7 = .ok (.getfield 192, 3) := by decide +kernel
theorem dX18_fire_10 : decode cX18_fire 10 = .ok (.invokevirtual 199, 3) := by decide +kernel
theorem dX18_fire_13 : decode cX18_fire 13 = .ok (.ifCond .ne 5, 3) := by decide +kernel
theorem dX18_fire_18 : decode cX18_fire 18 = .ok (.aload_n 0, 1) := by decide +kernel
theorem dX18_fire_19 : decode cX18_fire 19 = .ok (.getfield 166, 3) := by decide +kernel
theorem dX18_fire_22 : decode cX18_fire 22 = .ok (.bipush 24, 2) := by decide +kernel
theorem dX18_fire_24 : decode cX18_fire 24 = .ok (.iload_n 2, 1) := by decide +kernel
theorem dX18_fire_25 : decode cX18_fire 25 = .ok (.imul, 1) := by decide +kernel
theorem dX18_fire_26 : decode cX18_fire 26 = .ok (.iload_n 1, 1) := by decide +kernel
theorem dX18_fire_27 : decode cX18_fire 27 = .ok (.iadd, 1) := by decide +kernel
theorem dX18_fire_28 : decode cX18_fire 28 = .ok (.baload, 1) := by decide +kernel
theorem dX18_fire_29 : decode cX18_fire 29 = .ok (.ifCond .ne 7, 3) := by decide +kernel
theorem dX18_fire_36 : decode cX18_fire 36 = .ok (.iconst 0, 1) := by decide +kernel
theorem dX18_fire_37 : decode cX18_fire 37 = .ok (.istore_n 3, 1) := by decide +kernel
theorem dX18_fire_38 : decode cX18_fire 38 = .ok (.aload_n 0, 1) := by decide +kernel
theorem dX18_fire_39 : decode cX18_fire 39 = .ok (.getfield 166, 3) := by decide +kernel
theorem dX18_fire_42 : decode cX18_fire 42 = .ok (.bipush 24, 2) := by decide +kernel
theorem dX18_fire_44 : decode cX18_fire 44 = .ok (.iload_n 2, 1) := by decide +kernel
theorem dX18_fire_45 : decode cX18_fire 45 = .ok (.imul, 1) := by decide +kernel
theorem dX18_fire_46 : decode cX18_fire 46 = .ok (.iload_n 1, 1) := by decide +kernel
theorem dX18_fire_47 : decode cX18_fire 47 = .ok (.iadd, 1) := by decide +kernel
theorem dX18_fire_48 : decode cX18_fire 48 = .ok (.iconst 1, 1) := by decide +kernel
theorem dX18_fire_49 : decode cX18_fire 49 = .ok (.bastore, 1) := by decide +kernel
theorem dX18_fire_50 : decode cX18_fire 50 = .ok (.iload_n 3, 1) := by decide +kernel
theorem dX18_fire_51 : decode cX18_fire 51 = .ok (.ireturn, 1) := by decide +kernel
theorem dX18_fire_32 : decode cX18_fire 32 = .ok (.iconst 1, 1) := by decide +kernel
theorem dX18_fire_33 : decode cX18_fire 33 = .ok (.goto 4, 3) := by decide +kernel
theorem dX18_fire_16 : decode cX18_fire 16 = .ok (.iconst 0, 1) := by decide +kernel
theorem dX18_fire_17 : decode cX18_fire 17 = .ok (.ireturn, 1) := by decide +kernel
theorem dX18_cell_0 : decode cX18_cell 0 = .ok (.aload_n 0, 1) := by decide +kernel
theorem dX18_cell_1 : decode cX18_cell 1 = .ok (.iload_n 1, 1) := by decide +kernel
theorem dX18_cell_2 : decode cX18_cell 2 = .ok (.iload_n 2, 1) := by decide +kernel
theorem dX18_cell_3 : decode cX18_cell 3 = .ok (.invokestatic 266, 3) := by decide +kernel
theorem dX18_cell_6 : decode cX18_cell 6 = .ok (.ifCond .eq 15, 3) := by decide +kernel
theorem dX18_cell_21 : decode cX18_cell 21 = .ok (.iconst 0, 1) := by decide +kernel
theorem dX18_cell_22 : decode cX18_cell 22 = .ok (.aload_n 0, 1) := by decide +kernel
theorem dX18_cell_23 : decode cX18_cell 23 = .ok (.getfield 192, 3) := by decide +kernel
theorem dX18_cell_26 : decode cX18_cell 26 = .ok (.invokevirtual 199, 3) := by decide +kernel
theorem dX18_cell_29 : decode cX18_cell 29 = .ok (.ifCond .ne 5, 3) := by decide +kernel
theorem dX18_cell_34 : decode cX18_cell 34 = .ok (.bipush 24, 2) := by decide +kernel
theorem dX18_cell_36 : decode cX18_cell 36 = .ok (.iload_n 2, 1) := by decide +kernel
theorem dX18_cell_37 : decode cX18_cell 37 = .ok (.imul, 1) := by decide +kernel
theorem dX18_cell_38 : decode cX18_cell 38 = .ok (.iload_n 1, 1) := by decide +kernel
theorem dX18_cell_39 : decode cX18_cell 39 = .ok (.iadd, 1) := by decide +kernel
theorem dX18_cell_40 : decode cX18_cell 40 = .ok (.istore 4, 2) := by decide +kernel
theorem dX18_cell_42 : decode cX18_cell 42 = .ok (.iload_n 3, 1) := by decide +kernel
theorem dX18_cell_43 : decode cX18_cell 43 = .ok (.iconst 2, 1) := by decide +kernel
theorem dX18_cell_44 : decode cX18_cell 44 = .ok (.if_icmp .ge 47, 3) := by decide +kernel
theorem dX18_cell_91 : decode cX18_cell 91 = .ok (.iconst 0, 1) := by decide +kernel
theorem dX18_cell_92 : decode cX18_cell 92 = .ok (.istore 5, 2) := by decide +kernel
theorem dX18_cell_94 : decode cX18_cell 94 = .ok (.iconst 0, 1) := by decide +kernel
theorem dX18_cell_95 : decode cX18_cell 95 = .ok (.istore 6, 2) := by decide +kernel
theorem dX18_cell_97 : decode cX18_cell 97 = .ok (.iload 6, 2) := by decide +kernel
theorem dX18_cell_99 : decode cX18_cell 99 = .ok (.aload_n 0, 1) := by decide +kernel
theorem dX18_cell_100 : decode cX18_cell 100 = .ok (.getfield 369, 3) := by decide +kernel
theorem dX18_cell_103 : decode cX18_cell 103 = .ok (.if_icmp .ge 51, 3) := by decide +kernel
theorem dX18_cell_106 : decode cX18_cell 106 = .ok (.iload 5, 2) := by decide +kernel
theorem dX18_cell_108 : decode cX18_cell 108 = .ok (.aload_n 0, 1) := by decide +kernel
theorem dX18_cell_109 : decode cX18_cell 109 = .ok (.getfield 109, 3) := by decide +kernel
theorem dX18_cell_112 : decode cX18_cell 112 = .ok (.iload 6, 2) := by decide +kernel
theorem dX18_cell_114 : decode cX18_cell 114 = .ok (.iaload, 1) := by decide +kernel
theorem dX18_cell_115 : decode cX18_cell 115 = .ok (.iload_n 1, 1) := by decide +kernel
theorem dX18_cell_116 : decode cX18_cell 116 = .ok (.if_icmp .ne 28, 3) := by decide +kernel
theorem dX18_cell_144 : decode cX18_cell 144 = .ok (.iconst 0, 1) := by decide +kernel
theorem dX18_cell_145 : decode cX18_cell 145 = .ok (.iadd, 1) := by decide +kernel
theorem dX18_cell_146 : decode cX18_cell 146 = .ok (.istore 5, 2) := by decide +kernel
theorem dX18_cell_148 : decode cX18_cell 148 = .ok (.iinc 6 1, 3) := by decide +kernel
theorem dX18_cell_151 : decode cX18_cell 151 = .ok (.goto (-54), 3) := by decide +kernel
theorem dX18_cell_119 : decode cX18_cell 119 = .ok (.aload_n 0, 1) := by decide +kernel
theorem dX18_cell_120 : decode cX18_cell 120 = .ok (.getfield 112, 3) := by decide +kernel
theorem dX18_cell_123 : decode cX18_cell 123 = .ok (.iload 6, 2) := by decide +kernel
theorem dX18_cell_125 : decode cX18_cell 125 = .ok (.iaload, 1) := by decide +kernel
theorem dX18_cell_126 : decode cX18_cell 126 = .ok (.iload_n 2, 1) := by decide +kernel
theorem dX18_cell_127 : decode cX18_cell 127 = .ok (.if_icmp .ne 17, 3) := by decide +kernel
theorem dX18_cell_130 : decode cX18_cell 130 = .ok (.aload_n 0, 1) := by decide +kernel
theorem dX18_cell_131 : decode cX18_cell 131 = .ok (.getfield 115, 3) := by decide +kernel
theorem dX18_cell_134 : decode cX18_cell 134 = .ok (.iload 6, 2) := by decide +kernel
theorem dX18_cell_136 : decode cX18_cell 136 = .ok (.iaload, 1) := by decide +kernel
theorem dX18_cell_137 : decode cX18_cell 137 = .ok (.ifCond .ge 7, 3) := by decide +kernel
theorem dX18_cell_140 : decode cX18_cell 140 = .ok (.iconst 1, 1) := by decide +kernel
theorem dX18_cell_141 : decode cX18_cell 141 = .ok (.goto 4, 3) := by decide +kernel
theorem dX18_cell_154 : decode cX18_cell 154 = .ok (.iload 5, 2) := by decide +kernel
theorem dX18_cell_156 : decode cX18_cell 156 = .ok (.ireturn, 1) := by decide +kernel
theorem dX18_cell_47 : decode cX18_cell 47 = .ok (.iload_n 3, 1) := by decide +kernel
theorem dX18_cell_48 : decode cX18_cell 48 = .ok (.ifCond .ne 21, 3) := by decide +kernel
theorem dX18_cell_69 : decode cX18_cell 69 = .ok (.aload_n 0, 1) := by decide +kernel
theorem dX18_cell_70 : decode cX18_cell 70 = .ok (.getfield 172, 3) := by decide +kernel
theorem dX18_cell_73 : decode cX18_cell 73 = .ok (.iload 4, 2) := by decide +kernel
theorem dX18_cell_75 : decode cX18_cell 75 = .ok (.iaload, 1) := by decide +kernel
theorem dX18_cell_76 : decode cX18_cell 76 = .ok (.ifCond .ne 7, 3) := by decide +kernel
theorem dX18_cell_83 : decode cX18_cell 83 = .ok (.aload_n 0, 1) := by decide +kernel
theorem dX18_cell_84 : decode cX18_cell 84 = .ok (.getfield 172, 3) := by decide +kernel
theorem dX18_cell_87 : decode cX18_cell 87 = .ok (.iload 4, 2) := by decide +kernel
theorem dX18_cell_89 : decode cX18_cell 89 = .ok (.iaload, 1) := by decide +kernel
theorem dX18_cell_90 : decode cX18_cell 90 = .ok (.ireturn, 1) := by decide +kernel
theorem dX18_cell_79 : decode cX18_cell 79 = .ok (.iconst (-1), 1) := by decide +kernel
theorem dX18_cell_80 : decode cX18_cell 80 = .ok (.goto 10, 3) := by decide +kernel
theorem dX18_cell_51 : decode cX18_cell 51 = .ok (.aload_n 0, 1) := by decide +kernel
theorem dX18_cell_52 : decode cX18_cell 52 = .ok (.getfield 166, 3) := by decide +kernel
theorem dX18_cell_55 : decode cX18_cell 55 = .ok (.iload 4, 2) := by decide +kernel
theorem dX18_cell_57 : decode cX18_cell 57 = .ok (.baload, 1) := by decide +kernel
theorem dX18_cell_58 : decode cX18_cell 58 = .ok (.ifCond .eq 7, 3) := by decide +kernel
theorem dX18_cell_65 : decode cX18_cell 65 = .ok (.iconst 0, 1) := by decide +kernel
theorem dX18_cell_66 : decode cX18_cell 66 = .ok (.goto 24, 3) := by decide +kernel
theorem dX18_cell_61 : decode cX18_cell 61 = .ok (.iconst 1, 1) := by decide +kernel
theorem dX18_cell_62 : decode cX18_cell 62 = .ok (.goto 28, 3) := by decide +kernel
theorem dX18_cell_32 : decode cX18_cell 32 = .ok (.iconst 0, 1) := by decide +kernel
theorem dX18_cell_33 : decode cX18_cell 33 = .ok (.ireturn, 1) := by decide +kernel
theorem dX18_cell_9 : decode cX18_cell 9 = .ok (.iload_n 3, 1) := by decide +kernel
theorem dX18_cell_10 : decode cX18_cell 10 = .ok (.iconst 3, 1) := by decide +kernel
theorem dX18_cell_11 : decode cX18_cell 11 = .ok (.invokestatic 207, 3) := by decide +kernel
theorem dX18_cell_14 : decode cX18_cell 14 = .ok (.ifCond .eq 7, 3) := by decide +kernel
theorem dX18_cell_17 : decode cX18_cell 17 = .ok (.iconst 1, 1) := by decide +kernel
theorem dX18_cell_18 : decode cX18_cell 18 = .ok (.goto 4, 3) := by decide +kernel
theorem dX18_spread_0 : decode cX18_spread 0 = .ok (.iconst 0, 1) := by decide +kernel
theorem dX18_spread_1 : decode cX18_spread 1 = .ok (.istore_n 1, 1) := by decide +kernel
theorem dX18_spread_2 : decode cX18_spread 2 = .ok (.iload_n 1, 1) := by decide +kernel
theorem dX18_spread_3 : decode cX18_spread 3 = .ok (.sipush 576, 3) := by decide +kernel
theorem dX18_spread_6 : decode cX18_spread 6 = .ok (.if_icmp .ge 113, 3) := by decide +kernel
theorem dX18_spread_9 : decode cX18_spread 9 = .ok (.aload_n 0, 1) := by decide +kernel
theorem dX18_spread_10 : decode cX18_spread 10 = .ok (.getfield 169, 3) := by decide +kernel
theorem dX18_spread_13 : decode cX18_spread 13 = .ok (.iload_n 1, 1) := by decide +kernel
theorem dX18_spread_14 : decode cX18_spread 14 = .ok (.aload_n 0, 1) := by decide +kernel
theorem dX18_spread_15 : decode cX18_spread 15 = .ok (.getfield 166, 3) := by decide +kernel
theorem dX18_spread_18 : decode cX18_spread 18 = .ok (.iload_n 1, 1) := by decide +kernel
theorem dX18_spread_19 : decode cX18_spread 19 = .ok (.baload, 1) := by decide +kernel
theorem dX18_spread_20 : decode cX18_spread 20 = .ok (.bastore, 1) := by decide +kernel
theorem dX18_spread_21 : decode cX18_spread 21 = .ok (.iconst 0, 1) := by decide +kernel
theorem dX18_spread_22 : decode cX18_spread 22 = .ok (.istore_n 2, 1) := by decide +kernel
theorem dX18_spread_23 : decode cX18_spread 23 = .ok (.iload_n 2, 1) := by decide +kernel
theorem dX18_spread_24 : decode cX18_spread 24 = .ok (.iconst 4, 1) := by decide +kernel
theorem dX18_spread_25 : decode cX18_spread 25 = .ok (.if_icmp .ge 88, 3) := by decide +kernel
theorem dX18_spread_28 : decode cX18_spread 28 = .ok (.iload_n 1, 1) := by decide +kernel
theorem dX18_spread_29 : decode cX18_spread 29 = .ok (.bipush 24, 2) := by decide +kernel
theorem dX18_spread_31 : decode cX18_spread 31 = .ok (.irem, 1) := by decide +kernel
theorem dX18_spread_32 : decode cX18_spread 32 = .ok (.iload_n 2, 1) := by decide +kernel
theorem dX18_spread_33 : decode cX18_spread 33 = .ok (.invokestatic 648, 3) := by decide +kernel
theorem dX18_spread_36 : decode cX18_spread 36 = .ok (.istore_n 3, 1) := by decide +kernel
theorem dX18_spread_37 : decode cX18_spread 37 = .ok (.iload_n 1, 1) := by decide +kernel
theorem dX18_spread_38 : decode cX18_spread 38 = .ok (.bipush 24, 2) := by decide +kernel
theorem dX18_spread_40 : decode cX18_spread 40 = .ok (.idiv, 1) := by decide +kernel
theorem dX18_spread_41 : decode cX18_spread 41 = .ok (.iload_n 2, 1) := by decide +kernel
theorem dX18_spread_42 : decode cX18_spread 42 = .ok (.invokestatic 651, 3) := by decide +kernel
theorem dX18_spread_45 : decode cX18_spread 45 = .ok (.istore 4, 2) := by decide +kernel
theorem dX18_spread_47 : decode cX18_spread 47 = .ok (.aload_n 0, 1) := by decide +kernel
theorem dX18_spread_48 : decode cX18_spread 48 = .ok (.getfield 169, 3) := by decide +kernel
theorem dX18_spread_51 : decode cX18_spread 51 = .ok (.iload_n 1, 1) := by decide +kernel
theorem dX18_spread_52 : decode cX18_spread 52 = .ok (.aload_n 0, 1) := by decide +kernel
theorem dX18_spread_53 : decode cX18_spread 53 = .ok (.getfield 169, 3) := by decide +kernel
theorem dX18_spread_56 : decode cX18_spread 56 = .ok (.iload_n 1, 1) := by decide +kernel
theorem dX18_spread_57 : decode cX18_spread 57 = .ok (.baload, 1) := by decide +kernel
theorem dX18_spread_58 : decode cX18_spread 58 = .ok (.ifCond .ne 43, 3) := by decide +kernel
theorem dX18_spread_101 : decode cX18_spread 101 = .ok (.iconst 1, 1) := by decide +kernel
theorem dX18_spread_102 : decode cX18_spread 102 = .ok (.goto 4, 3) := by decide +kernel
theorem dX18_spread_106 : decode cX18_spread 106 = .ok (.bastore, 1) := by decide +kernel
theorem dX18_spread_107 : decode cX18_spread 107 = .ok (.iinc 2 1, 3) := by decide +kernel
theorem dX18_spread_110 : decode cX18_spread 110 = .ok (.goto (-87), 3) := by decide +kernel
theorem dX18_spread_61 : decode cX18_spread 61 = .ok (.iload_n 3, 1) := by decide +kernel
theorem dX18_spread_62 : decode cX18_spread 62 = .ok (.iload 4, 2) := by decide +kernel
theorem dX18_spread_64 : decode cX18_spread 64 = .ok (.invokestatic 266, 3) := by decide +kernel
theorem dX18_spread_67 : decode cX18_spread 67 = .ok (.ifCond .eq 38, 3) := by decide +kernel
theorem dX18_spread_105 : decode cX18_spread 105 = .ok (.iconst 0, 1) := by decide +kernel
theorem dX18_spread_70 : decode cX18_spread 70 = .ok (.aload_n 0, 1) := by decide +kernel
theorem dX18_spread_71 : decode cX18_spread 71 = .ok (.getfield 166, 3) := by decide +kernel
theorem dX18_spread_74 : decode cX18_spread 74 = .ok (.bipush 24, 2) := by decide +kernel
theorem dX18_spread_76 : decode cX18_spread 76 = .ok (.iload 4, 2) := by decide +kernel
theorem dX18_spread_78 : decode cX18_spread 78 = .ok (.imul, 1) := by decide +kernel
theorem dX18_spread_79 : decode cX18_spread 79 = .ok (.iload_n 3, 1) := by decide +kernel
theorem dX18_spread_80 : decode cX18_spread 80 = .ok (.iadd, 1) := by decide +kernel
theorem dX18_spread_81 : decode cX18_spread 81 = .ok (.baload, 1) := by decide +kernel
theorem dX18_spread_82 : decode cX18_spread 82 = .ok (.ifCond .eq 23, 3) := by decide +kernel
theorem dX18_spread_85 : decode cX18_spread 85 = .ok (.aload_n 0, 1) := by decide +kernel
theorem dX18_spread_86 : decode cX18_spread 86 = .ok (.iload_n 1, 1) := by decide +kernel
theorem dX18_spread_87 : decode cX18_spread 87 = .ok (.bipush 24, 2) := by decide +kernel
theorem dX18_spread_89 : decode cX18_spread 89 = .ok (.irem, 1) := by decide +kernel
theorem dX18_spread_90 : decode cX18_spread 90 = .ok (.iload_n 1, 1) := by decide +kernel
theorem dX18_spread_91 : decode cX18_spread 91 = .ok (.bipush 24, 2) := by decide +kernel
theorem dX18_spread_93 : decode cX18_spread 93 = .ok (.idiv, 1) := by decide +kernel
theorem dX18_spread_94 : decode cX18_spread 94 = .ok (.iload_n 2, 1) := by decide +kernel
theorem dX18_spread_95 : decode cX18_spread 95 = .ok (.invokevirtual 654, 3) := by decide +kernel
theorem dX18_spread_98 : decode cX18_spread 98 = .ok (.ifCond .eq 7, 3) := by decide +kernel
theorem dX18_spread_113 : decode cX18_spread 113 = .ok (.iinc 1 1, 3) := by decide +kernel
theorem dX18_spread_116 : decode cX18_spread 116 = .ok (.goto (-114), 3) := by decide +kernel
theorem dX18_spread_119 : decode cX18_spread 119 = .ok (.iconst 0, 1) := by decide +kernel
theorem dX18_spread_120 : decode cX18_spread 120 = .ok (.istore_n 1, 1) := by decide +kernel
theorem dX18_spread_121 : decode cX18_spread 121 = .ok (.iload_n 1, 1) := by decide +kernel
theorem dX18_spread_122 : decode cX18_spread 122 = .ok (.sipush 576, 3) := by decide +kernel
theorem dX18_spread_125 : decode cX18_spread 125 = .ok (.if_icmp .ge 21, 3) := by decide +kernel
theorem dX18_spread_128 : decode cX18_spread 128 = .ok (.aload_n 0, 1) := by decide +kernel
theorem dX18_spread_129 : decode cX18_spread 129 = .ok (.getfield 166, 3) := by decide +kernel
theorem dX18_spread_132 : decode cX18_spread 132 = .ok (.iload_n 1, 1) := by decide +kernel
theorem dX18_spread_133 : decode cX18_spread 133 = .ok (.aload_n 0, 1) := by decide +kernel
theorem dX18_spread_134 : decode cX18_spread 134 = .ok (.getfield 169, 3) := by decide +kernel
theorem dX18_spread_137 : decode cX18_spread 137 = .ok (.iload_n 1, 1) := by decide +kernel
theorem dX18_spread_138 : decode cX18_spread 138 = .ok (.baload, 1) := by decide +kernel
theorem dX18_spread_139 : decode cX18_spread 139 = .ok (.bastore, 1) := by decide +kernel
theorem dX18_spread_140 : decode cX18_spread 140 = .ok (.iinc 1 1, 3) := by decide +kernel
theorem dX18_spread_143 : decode cX18_spread 143 = .ok (.goto (-22), 3) := by decide +kernel
theorem dX18_spread_146 : decode cX18_spread 146 = .ok (.return_, 1) := by decide +kernel
theorem dX18_smokes_0 : decode cX18_smokes 0 = .ok (.iconst 0, 1) := by decide +kernel
theorem dX18_smokes_1 : decode cX18_smokes 1 = .ok (.istore_n 2, 1) := by decide +kernel
theorem dX18_smokes_2 : decode cX18_smokes 2 = .ok (.iconst 0, 1) := by decide +kernel
theorem dX18_smokes_3 : decode cX18_smokes 3 = .ok (.istore_n 3, 1) := by decide +kernel
theorem dX18_smokes_4 : decode cX18_smokes 4 = .ok (.iload_n 3, 1) := by decide +kernel
theorem dX18_smokes_5 : decode cX18_smokes 5 = .ok (.sipush 576, 3) := by decide +kernel
theorem dX18_smokes_8 : decode cX18_smokes 8 = .ok (.if_icmp .ge 40, 3) := by decide +kernel
theorem dX18_smokes_11 : decode cX18_smokes 11 = .ok (.iload_n 2, 1) := by decide +kernel
theorem dX18_smokes_12 : decode cX18_smokes 12 = .ok (.aload_n 0, 1) := by decide +kernel
theorem dX18_smokes_13 : decode cX18_smokes 13 = .ok (.getfield 166, 3) := by decide +kernel
theorem dX18_smokes_16 : decode cX18_smokes 16 = .ok (.iload_n 3, 1) := by decide +kernel
theorem dX18_smokes_17 : decode cX18_smokes 17 = .ok (.baload, 1) := by decide +kernel
theorem dX18_smokes_18 : decode cX18_smokes 18 = .ok (.ifCond .eq 21, 3) := by decide +kernel
theorem dX18_smokes_39 : decode cX18_smokes 39 = .ok (.iconst 0, 1) := by decide +kernel
theorem dX18_smokes_40 : decode cX18_smokes 40 = .ok (.iadd, 1) := by decide +kernel
theorem dX18_smokes_41 : decode cX18_smokes 41 = .ok (.istore_n 2, 1) := by decide +kernel
theorem dX18_smokes_42 : decode cX18_smokes 42 = .ok (.iinc 3 1, 3) := by decide +kernel
theorem dX18_smokes_45 : decode cX18_smokes 45 = .ok (.goto (-41), 3) := by decide +kernel
theorem dX18_smokes_21 : decode cX18_smokes 21 = .ok (.iload_n 1, 1) := by decide +kernel
theorem dX18_smokes_22 : decode cX18_smokes 22 = .ok (.ifCond .lt 13, 3) := by decide +kernel
theorem dX18_smokes_35 : decode cX18_smokes 35 = .ok (.iconst 1, 1) := by decide +kernel
theorem dX18_smokes_36 : decode cX18_smokes 36 = .ok (.goto 4, 3) := by decide +kernel
theorem dX18_smokes_25 : decode cX18_smokes 25 = .ok (.aload_n 0, 1) := by decide +kernel
theorem dX18_smokes_26 : decode cX18_smokes 26 = .ok (.getfield 175, 3) := by decide +kernel
theorem dX18_smokes_29 : decode cX18_smokes 29 = .ok (.iload_n 3, 1) := by decide +kernel
theorem dX18_smokes_30 : decode cX18_smokes 30 = .ok (.iaload, 1) := by decide +kernel
theorem dX18_smokes_31 : decode cX18_smokes 31 = .ok (.iload_n 1, 1) := by decide +kernel
theorem dX18_smokes_32 : decode cX18_smokes 32 = .ok (.if_icmp .ne 7, 3) := by decide +kernel
theorem dX18_smokes_48 : decode cX18_smokes 48 = .ok (.iload_n 2, 1) := by decide +kernel
theorem dX18_smokes_49 : decode cX18_smokes 49 = .ok (.ireturn, 1) := by decide +kernel
theorem dX18_inSpaces_0 : decode cX18_inSpaces 0 = .ok (.iconst 0, 1) := by decide +kernel
theorem dX18_inSpaces_1 : decode cX18_inSpaces 1 = .ok (.istore_n 1, 1) := by decide +kernel
theorem dX18_inSpaces_2 : decode cX18_inSpaces 2 = .ok (.iconst 0, 1) := by decide +kernel
theorem dX18_inSpaces_3 : decode cX18_inSpaces 3 = .ok (.istore_n 2, 1) := by decide +kernel
theorem dX18_inSpaces_4 : decode cX18_inSpaces 4 = .ok (.iload_n 2, 1) := by decide +kernel
theorem dX18_inSpaces_5 : decode cX18_inSpaces 5 = .ok (.aload_n 0, 1) := by decide +kernel
theorem dX18_inSpaces_6 : decode cX18_inSpaces 6 = .ok (.getfield 369, 3) := by decide +kernel
theorem dX18_inSpaces_9 : decode cX18_inSpaces 9 = .ok (.if_icmp .ge 39, 3) := by decide +kernel
theorem dX18_inSpaces_12 : decode cX18_inSpaces 12 = .ok (.iload_n 1, 1) := by decide +kernel
theorem dX18_inSpaces_13 : decode cX18_inSpaces 13 = .ok (.aload_n 0, 1) := by decide +kernel
theorem dX18_inSpaces_14 : decode cX18_inSpaces 14 = .ok (.getfield 106, 3) := by decide +kernel
theorem dX18_inSpaces_17 : decode cX18_inSpaces 17 = .ok (.iload_n 2, 1) := by decide +kernel
theorem dX18_inSpaces_18 : decode cX18_inSpaces 18 = .ok (.iaload, 1) := by decide +kernel
theorem dX18_inSpaces_19 : decode cX18_inSpaces 19 = .ok (.aload_n 0, 1) := by decide +kernel
theorem dX18_inSpaces_20 : decode cX18_inSpaces 20 = .ok (.getfield 338, 3) := by decide +kernel
theorem dX18_inSpaces_23 : decode cX18_inSpaces 23 = .ok (.if_icmp .ge 16, 3) := by decide +kernel
theorem dX18_inSpaces_39 : decode cX18_inSpaces 39 = .ok (.iconst 0, 1) := by decide +kernel
theorem dX18_inSpaces_40 : decode cX18_inSpaces 40 = .ok (.iadd, 1) := by decide +kernel
theorem dX18_inSpaces_41 : decode cX18_inSpaces 41 = .ok (.istore_n 1, 1) := by decide +kernel
theorem dX18_inSpaces_42 : decode cX18_inSpaces 42 = .ok (.iinc 2 1, 3) := by decide +kernel
theorem dX18_inSpaces_45 : decode cX18_inSpaces 45 = .ok (.goto (-41), 3) := by decide +kernel
theorem dX18_inSpaces_26 : decode cX18_inSpaces 26 = .ok (.aload_n 0, 1) := by decide +kernel
theorem dX18_inSpaces_27 : decode cX18_inSpaces 27 = .ok (.getfield 115, 3) := by decide +kernel
theorem dX18_inSpaces_30 : decode cX18_inSpaces 30 = .ok (.iload_n 2, 1) := by decide +kernel
theorem dX18_inSpaces_31 : decode cX18_inSpaces 31 = .ok (.iaload, 1) := by decide +kernel
theorem dX18_inSpaces_32 : decode cX18_inSpaces 32 = .ok (.ifCond .ge 7, 3) := by decide +kernel
theorem dX18_inSpaces_35 : decode cX18_inSpaces 35 = .ok (.iconst 1, 1) := by decide +kernel
theorem dX18_inSpaces_36 : decode cX18_inSpaces 36 = .ok (.goto 4, 3) := by decide +kernel
theorem dX18_inSpaces_48 : decode cX18_inSpaces 48 = .ok (.iload_n 1, 1) := by decide +kernel
theorem dX18_inSpaces_49 : decode cX18_inSpaces 49 = .ok (.ireturn, 1) := by decide +kernel
theorem dX18_detect_0 : decode cX18_detect 0 = .ok (.iconst 0, 1) := by decide +kernel
theorem dX18_detect_1 : decode cX18_detect 1 = .ok (.istore_n 1, 1) := by decide +kernel
theorem dX18_detect_2 : decode cX18_detect 2 = .ok (.iload_n 1, 1) := by decide +kernel
theorem dX18_detect_3 : decode cX18_detect 3 = .ok (.aload_n 0, 1) := by decide +kernel
theorem dX18_detect_4 : decode cX18_detect 4 = .ok (.getfield 338, 3) := by decide +kernel
theorem dX18_detect_7 : decode cX18_detect 7 = .ok (.if_icmp .ge 39, 3) := by decide +kernel
theorem dX18_detect_10 : decode cX18_detect 10 = .ok (.bipush 10, 2) := by decide +kernel
theorem dX18_detect_12 : decode cX18_detect 12 = .ok (.aload_n 0, 1) := by decide +kernel
theorem dX18_detect_13 : decode cX18_detect 13 = .ok (.iload_n 1, 1) := by decide +kernel
theorem dX18_detect_14 : decode cX18_detect 14 = .ok (.invokevirtual 657, 3) := by decide +kernel
theorem dX18_detect_17 : decode cX18_detect 17 = .ok (.imul, 1) := by decide +kernel
theorem dX18_detect_18 : decode cX18_detect 18 = .ok (.istore_n 2, 1) := by decide +kernel
theorem dX18_detect_19 : decode cX18_detect 19 = .ok (.aload_n 0, 1) := by decide +kernel
theorem dX18_detect_20 : decode cX18_detect 20 = .ok (.getfield 28, 3) := by decide +kernel
theorem dX18_detect_23 : decode cX18_detect 23 = .ok (.getfield 454, 3) := by decide +kernel
theorem dX18_detect_26 : decode cX18_detect 26 = .ok (.iload_n 1, 1) := by decide +kernel
theorem dX18_detect_27 : decode cX18_detect 27 = .ok (.iload_n 2, 1) := by decide +kernel
theorem dX18_detect_28 : decode cX18_detect 28 = .ok (.bipush 100, 2) := by decide +kernel
theorem dX18_detect_30 : decode cX18_detect 30 = .ok (.if_icmp .le 8, 3) := by decide +kernel
theorem dX18_detect_38 : decode cX18_detect 38 = .ok (.iload_n 2, 1) := by decide +kernel
theorem dX18_detect_39 : decode cX18_detect 39 = .ok (.iastore, 1) := by decide +kernel
theorem dX18_detect_40 : decode cX18_detect 40 = .ok (.iinc 1 1, 3) := by decide +kernel
theorem dX18_detect_43 : decode cX18_detect 43 = .ok (.goto (-41), 3) := by decide +kernel
theorem dX18_detect_33 : decode cX18_detect 33 = .ok (.bipush 100, 2) := by decide +kernel
theorem dX18_detect_35 : decode cX18_detect 35 = .ok (.goto 4, 3) := by decide +kernel
theorem dX18_detect_46 : decode cX18_detect 46 = .ok (.iconst 0, 1) := by decide +kernel
theorem dX18_detect_47 : decode cX18_detect 47 = .ok (.istore_n 1, 1) := by decide +kernel
theorem dX18_detect_48 : decode cX18_detect 48 = .ok (.iload_n 1, 1) := by decide +kernel
theorem dX18_detect_49 : decode cX18_detect 49 = .ok (.aload_n 0, 1) := by decide +kernel
theorem dX18_detect_50 : decode cX18_detect 50 = .ok (.getfield 35, 3) := by decide +kernel
theorem dX18_detect_53 : decode cX18_detect 53 = .ok (.getfield 513, 3) := by decide +kernel
theorem dX18_detect_56 : decode cX18_detect 56 = .ok (.if_icmp .ge 75, 3) := by decide +kernel
theorem dX18_detect_59 : decode cX18_detect 59 = .ok (.aload_n 0, 1) := by decide +kernel
theorem dX18_detect_60 : decode cX18_detect 60 = .ok (.getfield 35, 3) := by decide +kernel
theorem dX18_detect_63 : decode cX18_detect 63 = .ok (.getfield 541, 3) := by decide +kernel
theorem dX18_detect_66 : decode cX18_detect 66 = .ok (.iload_n 1, 1) := by decide +kernel
theorem dX18_detect_67 : decode cX18_detect 67 = .ok (.iaload, 1) := by decide +kernel
theorem dX18_detect_68 : decode cX18_detect 68 = .ok (.ifCond .le 57, 3) := by decide +kernel
theorem dX18_detect_125 : decode cX18_detect 125 = .ok (.iinc 1 1, 3) := by decide +kernel
theorem dX18_detect_128 : decode cX18_detect 128 = .ok (.goto (-80), 3) := by decide +kernel
theorem dX18_detect_71 : decode cX18_detect 71 = .ok (.aload_n 0, 1) := by decide +kernel
theorem dX18_detect_72 : decode cX18_detect 72 = .ok (.getfield 35, 3) := by decide +kernel
theorem dX18_detect_75 : decode cX18_detect 75 = .ok (.getfield 547, 3) := by decide +kernel
theorem dX18_detect_78 : decode cX18_detect 78 = .ok (.iload_n 1, 1) := by decide +kernel
theorem dX18_detect_79 : decode cX18_detect 79 = .ok (.iaload, 1) := by decide +kernel
theorem dX18_detect_80 : decode cX18_detect 80 = .ok (.istore_n 2, 1) := by decide +kernel
theorem dX18_detect_81 : decode cX18_detect 81 = .ok (.aload_n 0, 1) := by decide +kernel
theorem dX18_detect_82 : decode cX18_detect 82 = .ok (.getfield 28, 3) := by decide +kernel
theorem dX18_detect_85 : decode cX18_detect 85 = .ok (.getfield 454, 3) := by decide +kernel
theorem dX18_detect_88 : decode cX18_detect 88 = .ok (.aload_n 0, 1) := by decide +kernel
theorem dX18_detect_89 : decode cX18_detect 89 = .ok (.getfield 338, 3) := by decide +kernel
theorem dX18_detect_92 : decode cX18_detect 92 = .ok (.aload_n 0, 1) := by decide +kernel
theorem dX18_detect_93 : decode cX18_detect 93 = .ok (.getfield 35, 3) := by decide +kernel
theorem dX18_detect_96 : decode cX18_detect 96 = .ok (.getfield 541, 3) := by decide +kernel
theorem dX18_detect_99 : decode cX18_detect 99 = .ok (.iload_n 1, 1) := by decide +kernel
theorem dX18_detect_100 : decode cX18_detect 100 = .ok (.iaload, 1) := by decide +kernel
theorem dX18_detect_101 : decode cX18_detect 101 = .ok (.iadd, 1) := by decide +kernel
theorem dX18_detect_102 : decode cX18_detect 102 = .ok (.iconst 1, 1) := by decide +kernel
theorem dX18_detect_103 : decode cX18_detect 103 = .ok (.isub, 1) := by decide +kernel
theorem dX18_detect_104 : decode cX18_detect 104 = .ok (.iload_n 2, 1) := by decide +kernel
theorem dX18_detect_105 : decode cX18_detect 105 = .ok (.ifCond .ge 7, 3) := by decide +kernel
theorem dX18_detect_112 : decode cX18_detect 112 = .ok (.iload_n 2, 1) := by decide +kernel
theorem dX18_detect_113 : decode cX18_detect 113 = .ok (.bipush 100, 2) := by decide +kernel
theorem dX18_detect_115 : decode cX18_detect 115 = .ok (.if_icmp .le 8, 3) := by decide +kernel
theorem dX18_detect_123 : decode cX18_detect 123 = .ok (.iload_n 2, 1) := by decide +kernel
theorem dX18_detect_124 : decode cX18_detect 124 = .ok (.iastore, 1) := by decide +kernel
theorem dX18_detect_118 : decode cX18_detect 118 = .ok (.bipush 100, 2) := by decide +kernel
theorem dX18_detect_120 : decode cX18_detect 120 = .ok (.goto 4, 3) := by decide +kernel
theorem dX18_detect_108 : decode cX18_detect 108 = .ok (.iconst 0, 1) := by decide +kernel
theorem dX18_detect_109 : decode cX18_detect 109 = .ok (.goto 15, 3) := by decide +kernel
theorem dX18_detect_131 : decode cX18_detect 131 = .ok (.return_, 1) := by decide +kernel
theorem dX18_goesThrough_0 : decode cX18_goesThrough 0 = .ok (.aload_n 0, 1) := by decide +kernel
theorem dX18_goesThrough_1 : decode cX18_goesThrough 1 = .ok (.getfield 12, 3) := by decide +kernel
theorem dX18_goesThrough_4 : decode cX18_goesThrough 4 = .ok (.iload_n 1, 1) := by decide +kernel
theorem dX18_goesThrough_5 : decode cX18_goesThrough 5 = .ok (.iload_n 2, 1) := by decide +kernel
theorem dX18_goesThrough_6 : decode cX18_goesThrough 6 = .ok (.iload_n 3, 1) := by decide +kernel
theorem dX18_goesThrough_7 : decode cX18_goesThrough 7 = .ok (.invokevirtual 639, 3) := by decide +kernel
theorem dX18_goesThrough_10 : decode cX18_goesThrough 10 = .ok (.istore 4, 2) := by decide +kernel
theorem dX18_goesThrough_12 : decode cX18_goesThrough 12 = .ok (.iconst 0, 1) := by decide +kernel
theorem dX18_goesThrough_13 : decode cX18_goesThrough 13 = .ok (.istore 5, 2) := by decide +kernel
theorem dX18_goesThrough_15 : decode cX18_goesThrough 15 = .ok (.iload 4, 2) := by decide +kernel
theorem dX18_goesThrough_17 : decode cX18_goesThrough 17 = .ok (.ifCond .lt 91, 3) := by decide +kernel
theorem dX18_goesThrough_20 : decode cX18_goesThrough 20 = .ok (.iload 5, 2) := by decide +kernel
theorem dX18_goesThrough_22 : decode cX18_goesThrough 22 = .ok (.aload_n 0, 1) := by decide +kernel
theorem dX18_goesThrough_23 : decode cX18_goesThrough 23 = .ok (.getfield 12, 3) := by decide +kernel
theorem dX18_goesThrough_26 : decode cX18_goesThrough 26 = .ok (.getfield 221, 3) := by decide +kernel
theorem dX18_goesThrough_29 : decode cX18_goesThrough 29 = .ok (.iload 4, 2) := by decide +kernel
theorem dX18_goesThrough_31 : decode cX18_goesThrough 31 = .ok (.iaload, 1) := by decide +kernel
theorem dX18_goesThrough_32 : decode cX18_goesThrough 32 = .ok (.if_icmp .ge 76, 3) := by decide +kernel
theorem dX18_goesThrough_35 : decode cX18_goesThrough 35 = .ok (.aload_n 0, 1) := by decide +kernel
theorem dX18_goesThrough_36 : decode cX18_goesThrough 36 = .ok (.getfield 12, 3) := by decide +kernel
theorem dX18_goesThrough_39 : decode cX18_goesThrough 39 = .ok (.iload 4, 2) := by decide +kernel
theorem dX18_goesThrough_41 : decode cX18_goesThrough 41 = .ok (.iload 5, 2) := by decide +kernel
theorem dX18_goesThrough_43 : decode cX18_goesThrough 43 = .ok (.iload_n 1, 1) := by decide +kernel
theorem dX18_goesThrough_44 : decode cX18_goesThrough 44 = .ok (.iload_n 2, 1) := by decide +kernel
theorem dX18_goesThrough_45 : decode cX18_goesThrough 45 = .ok (.invokevirtual 642, 3) := by decide +kernel
theorem dX18_goesThrough_48 : decode cX18_goesThrough 48 = .ok (.ifCond .eq 54, 3) := by decide +kernel
theorem dX18_goesThrough_102 : decode cX18_goesThrough 102 = .ok (.iinc 5 1, 3) := by decide +kernel
theorem dX18_goesThrough_105 : decode cX18_goesThrough 105 = .ok (.goto (-90), 3) := by decide +kernel
theorem dX18_goesThrough_51 : decode cX18_goesThrough 51 = .ok (.aload_n 0, 1) := by decide +kernel
theorem dX18_goesThrough_52 : decode cX18_goesThrough 52 = .ok (.getfield 178, 3) := by decide +kernel
theorem dX18_goesThrough_55 : decode cX18_goesThrough 55 = .ok (.bipush 6, 2) := by decide +kernel
theorem dX18_goesThrough_57 : decode cX18_goesThrough 57 = .ok (.iload 4, 2) := by decide +kernel
theorem dX18_goesThrough_59 : decode cX18_goesThrough 59 = .ok (.imul, 1) := by decide +kernel
theorem dX18_goesThrough_60 : decode cX18_goesThrough 60 = .ok (.iload 5, 2) := by decide +kernel
theorem dX18_goesThrough_62 : decode cX18_goesThrough 62 = .ok (.iadd, 1) := by decide +kernel
theorem dX18_goesThrough_63 : decode cX18_goesThrough 63 = .ok (.iaload, 1) := by decide +kernel
theorem dX18_goesThrough_64 : decode cX18_goesThrough 64 = .ok (.aload_n 0, 1) := by decide +kernel
theorem dX18_goesThrough_65 : decode cX18_goesThrough 65 = .ok (.getfield 12, 3) := by decide +kernel
theorem dX18_goesThrough_68 : decode cX18_goesThrough 68 = .ok (.getfield 663, 3) := by decide +kernel
theorem dX18_goesThrough_71 : decode cX18_goesThrough 71 = .ok (.bipush 6, 2) := by decide +kernel
theorem dX18_goesThrough_73 : decode cX18_goesThrough 73 = .ok (.iload 4, 2) := by decide +kernel
theorem dX18_goesThrough_75 : decode cX18_goesThrough 75 = .ok (.imul, 1) := by decide +kernel
theorem dX18_goesThrough_76 : decode cX18_goesThrough 76 = .ok (.iload 5, 2) := by decide +kernel
theorem dX18_goesThrough_78 : decode cX18_goesThrough 78 = .ok (.iadd, 1) := by decide +kernel
theorem dX18_goesThrough_79 : decode cX18_goesThrough 79 = .ok (.iaload, 1) := by decide +kernel
theorem dX18_goesThrough_80 : decode cX18_goesThrough 80 = .ok (.if_icmp .ge 22, 3) := by decide +kernel
theorem dX18_goesThrough_83 : decode cX18_goesThrough 83 = .ok (.aload_n 0, 1) := by decide +kernel
theorem dX18_goesThrough_84 : decode cX18_goesThrough 84 = .ok (.getfield 178, 3) := by decide +kernel
theorem dX18_goesThrough_87 : decode cX18_goesThrough 87 = .ok (.bipush 6, 2) := by decide +kernel
theorem dX18_goesThrough_89 : decode cX18_goesThrough 89 = .ok (.iload 4, 2) := by decide +kernel
theorem dX18_goesThrough_91 : decode cX18_goesThrough 91 = .ok (.imul, 1) := by decide +kernel
theorem dX18_goesThrough_92 : decode cX18_goesThrough 92 = .ok (.iload 5, 2) := by decide +kernel
theorem dX18_goesThrough_94 : decode cX18_goesThrough 94 = .ok (.iadd, 1) := by decide +kernel
theorem dX18_goesThrough_95 : decode cX18_goesThrough 95 = .ok (.dup2, 1) := by decide +kernel
theorem dX18_goesThrough_96 : decode cX18_goesThrough 96 = .ok (.iaload, 1) := by decide +kernel
theorem dX18_goesThrough_97 : decode cX18_goesThrough 97 = .ok (.iconst 1, 1) := by decide +kernel
theorem dX18_goesThrough_98 : decode cX18_goesThrough 98 = .ok (.iadd, 1) := by decide +kernel
theorem dX18_goesThrough_99 : decode cX18_goesThrough 99 = .ok (.iastore, 1) := by decide +kernel
theorem dX18_goesThrough_100 : decode cX18_goesThrough 100 = .ok (.iconst 1, 1) := by decide +kernel
theorem dX18_goesThrough_101 : decode cX18_goesThrough 101 = .ok (.ireturn, 1) := by decide +kernel
theorem dX18_goesThrough_108 : decode cX18_goesThrough 108 = .ok (.iload 4, 2) := by decide +kernel
theorem dX18_goesThrough_110 : decode cX18_goesThrough 110 = .ok (.ifCond .ge 7, 3) := by decide +kernel
theorem dX18_goesThrough_117 : decode cX18_goesThrough 117 = .ok (.iconst 0, 1) := by decide +kernel
theorem dX18_goesThrough_118 : decode cX18_goesThrough 118 = .ok (.ireturn, 1) := by decide +kernel
theorem dX18_goesThrough_113 : decode cX18_goesThrough 113 = .ok (.iconst 1, 1) := by decide +kernel
theorem dX18_goesThrough_114 : decode cX18_goesThrough 114 = .ok (.goto 4, 3) := by decide +kernel
theorem dX18_step_0 : decode cX18_step 0 = .ok (.aload_n 0, 1) := by decide +kernel
theorem dX18_step_1 : decode cX18_step 1 = .ok (.getfield 172, 3) := by decide +kernel
theorem dX18_step_4 : decode cX18_step 4 = .ok (.bipush 24, 2) := by decide +kernel
theorem dX18_step_6 : decode cX18_step 6 = .ok (.aload_n 0, 1) := by decide +kernel
theorem dX18_step_7 : decode cX18_step 7 = .ok (.getfield 112, 3) := by decide +kernel
theorem dX18_step_10 : decode cX18_step 10 = .ok (.iload_n 1, 1) := by decide +kernel
theorem dX18_step_11 : decode cX18_step 11 = .ok (.iaload, 1) := by decide +kernel
theorem dX18_step_12 : decode cX18_step 12 = .ok (.imul, 1) := by decide +kernel
theorem dX18_step_13 : decode cX18_step 13 = .ok (.aload_n 0, 1) := by decide +kernel
theorem dX18_step_14 : decode cX18_step 14 = .ok (.getfield 109, 3) := by decide +kernel
theorem dX18_step_17 : decode cX18_step 17 = .ok (.iload_n 1, 1) := by decide +kernel
theorem dX18_step_18 : decode cX18_step 18 = .ok (.iaload, 1) := by decide +kernel
theorem dX18_step_19 : decode cX18_step 19 = .ok (.iadd, 1) := by decide +kernel
theorem dX18_step_20 : decode cX18_step 20 = .ok (.iaload, 1) := by decide +kernel
theorem dX18_step_21 : decode cX18_step 21 = .ok (.istore_n 2, 1) := by decide +kernel
theorem dX18_step_22 : decode cX18_step 22 = .ok (.iconst 0, 1) := by decide +kernel
theorem dX18_step_23 : decode cX18_step 23 = .ok (.istore_n 3, 1) := by decide +kernel
theorem dX18_step_24 : decode cX18_step 24 = .ok (.iload_n 3, 1) := by decide +kernel
theorem dX18_step_25 : decode cX18_step 25 = .ok (.iconst 4, 1) := by decide +kernel
theorem dX18_step_26 : decode cX18_step 26 = .ok (.if_icmp .ge 244, 3) := by decide +kernel
theorem dX18_step_29 : decode cX18_step 29 = .ok (.iload_n 2, 1) := by decide +kernel
theorem dX18_step_30 : decode cX18_step 30 = .ok (.ifCond .le 240, 3) := by decide +kernel
theorem dX18_step_33 : decode cX18_step 33 = .ok (.aload_n 0, 1) := by decide +kernel
theorem dX18_step_34 : decode cX18_step 34 = .ok (.getfield 109, 3) := by decide +kernel
theorem dX18_step_37 : decode cX18_step 37 = .ok (.iload_n 1, 1) := by decide +kernel
theorem dX18_step_38 : decode cX18_step 38 = .ok (.iaload, 1) := by decide +kernel
theorem dX18_step_39 : decode cX18_step 39 = .ok (.iload_n 3, 1) := by decide +kernel
theorem dX18_step_40 : decode cX18_step 40 = .ok (.invokestatic 648, 3) := by decide +kernel
theorem dX18_step_43 : decode cX18_step 43 = .ok (.istore 4, 2) := by decide +kernel
theorem dX18_step_45 : decode cX18_step 45 = .ok (.aload_n 0, 1) := by decide +kernel
theorem dX18_step_46 : decode cX18_step 46 = .ok (.getfield 112, 3) := by decide +kernel
theorem dX18_step_49 : decode cX18_step 49 = .ok (.iload_n 1, 1) := by decide +kernel
theorem dX18_step_50 : decode cX18_step 50 = .ok (.iaload, 1) := by decide +kernel
theorem dX18_step_51 : decode cX18_step 51 = .ok (.iload_n 3, 1) := by decide +kernel
theorem dX18_step_52 : decode cX18_step 52 = .ok (.invokestatic 651, 3) := by decide +kernel
theorem dX18_step_55 : decode cX18_step 55 = .ok (.istore 5, 2) := by decide +kernel
theorem dX18_step_57 : decode cX18_step 57 = .ok (.aload_n 0, 1) := by decide +kernel
theorem dX18_step_58 : decode cX18_step 58 = .ok (.iload 4, 2) := by decide +kernel
theorem dX18_step_60 : decode cX18_step 60 = .ok (.iload 5, 2) := by decide +kernel
theorem dX18_step_62 : decode cX18_step 62 = .ok (.invokevirtual 645, 3) := by decide +kernel
theorem dX18_step_65 : decode cX18_step 65 = .ok (.istore 6, 2) := by decide +kernel
theorem dX18_step_67 : decode cX18_step 67 = .ok (.iload 6, 2) := by decide +kernel
theorem dX18_step_69 : decode cX18_step 69 = .ok (.ifCond .eq 7, 3) := by decide +kernel
theorem dX18_step_76 : decode cX18_step 76 = .ok (.aload_n 0, 1) := by decide +kernel
theorem dX18_step_77 : decode cX18_step 77 = .ok (.getfield 172, 3) := by decide +kernel
theorem dX18_step_80 : decode cX18_step 80 = .ok (.bipush 24, 2) := by decide +kernel
theorem dX18_step_82 : decode cX18_step 82 = .ok (.iload 5, 2) := by decide +kernel
theorem dX18_step_84 : decode cX18_step 84 = .ok (.imul, 1) := by decide +kernel
theorem dX18_step_85 : decode cX18_step 85 = .ok (.iload 4, 2) := by decide +kernel
theorem dX18_step_87 : decode cX18_step 87 = .ok (.iadd, 1) := by decide +kernel
theorem dX18_step_88 : decode cX18_step 88 = .ok (.iaload, 1) := by decide +kernel
theorem dX18_step_89 : decode cX18_step 89 = .ok (.istore 7, 2) := by decide +kernel
theorem dX18_step_91 : decode cX18_step 91 = .ok (.iload 6, 2) := by decide +kernel
theorem dX18_step_93 : decode cX18_step 93 = .ok (.ifCond .eq 16, 3) := by decide +kernel
theorem dX18_step_109 : decode cX18_step 109 = .ok (.iload 7, 2) := by decide +kernel
theorem dX18_step_111 : decode cX18_step 111 = .ok (.ifCond .le 13, 3) := by decide +kernel
theorem dX18_step_124 : decode cX18_step 124 = .ok (.iconst 0, 1) := by decide +kernel
theorem dX18_step_125 : decode cX18_step 125 = .ok (.istore 8, 2) := by decide +kernel
theorem dX18_step_127 : decode cX18_step 127 = .ok (.iload 8, 2) := by decide +kernel
theorem dX18_step_129 : decode cX18_step 129 = .ok (.ifCond .eq 135, 3) := by decide +kernel
theorem dX18_step_264 : decode cX18_step 264 = .ok (.iinc 3 1, 3) := by decide +kernel
theorem dX18_step_267 : decode cX18_step 267 = .ok (.goto (-243), 3) := by decide +kernel
theorem dX18_step_132 : decode cX18_step 132 = .ok (.iload 4, 2) := by decide +kernel
theorem dX18_step_134 : decode cX18_step 134 = .ok (.iload 5, 2) := by decide +kernel
theorem dX18_step_136 : decode cX18_step 136 = .ok (.invokestatic 266, 3) := by decide +kernel
theorem dX18_step_139 : decode cX18_step 139 = .ok (.ifCond .eq 19, 3) := by decide +kernel
theorem dX18_step_158 : decode cX18_step 158 = .ok (.aload_n 0, 1) := by decide +kernel
theorem dX18_step_159 : decode cX18_step 159 = .ok (.aload_n 0, 1) := by decide +kernel
theorem dX18_step_160 : decode cX18_step 160 = .ok (.getfield 109, 3) := by decide +kernel
theorem dX18_step_163 : decode cX18_step 163 = .ok (.iload_n 1, 1) := by decide +kernel
theorem dX18_step_164 : decode cX18_step 164 = .ok (.iaload, 1) := by decide +kernel
theorem dX18_step_165 : decode cX18_step 165 = .ok (.aload_n 0, 1) := by decide +kernel
theorem dX18_step_166 : decode cX18_step 166 = .ok (.getfield 112, 3) := by decide +kernel
theorem dX18_step_169 : decode cX18_step 169 = .ok (.iload_n 1, 1) := by decide +kernel
theorem dX18_step_170 : decode cX18_step 170 = .ok (.iaload, 1) := by decide +kernel
theorem dX18_step_171 : decode cX18_step 171 = .ok (.iload_n 3, 1) := by decide +kernel
theorem dX18_step_172 : decode cX18_step 172 = .ok (.invokevirtual 660, 3) := by decide +kernel
theorem dX18_step_175 : decode cX18_step 175 = .ok (.ifCond .eq 89, 3) := by decide +kernel
theorem dX18_step_178 : decode cX18_step 178 = .ok (.aload_n 0, 1) := by decide +kernel
theorem dX18_step_179 : decode cX18_step 179 = .ok (.getfield 106, 3) := by decide +kernel
theorem dX18_step_182 : decode cX18_step 182 = .ok (.iload_n 1, 1) := by decide +kernel
theorem dX18_step_183 : decode cX18_step 183 = .ok (.iload 6, 2) := by decide +kernel
theorem dX18_step_185 : decode cX18_step 185 = .ok (.ifCond .eq 10, 3) := by decide +kernel
theorem dX18_step_195 : decode cX18_step 195 = .ok (.aload_n 0, 1) := by decide +kernel
theorem dX18_step_196 : decode cX18_step 196 = .ok (.getfield 175, 3) := by decide +kernel
theorem dX18_step_199 : decode cX18_step 199 = .ok (.bipush 24, 2) := by decide +kernel
theorem dX18_step_201 : decode cX18_step 201 = .ok (.iload 5, 2) := by decide +kernel
theorem dX18_step_203 : decode cX18_step 203 = .ok (.imul, 1) := by decide +kernel
theorem dX18_step_204 : decode cX18_step 204 = .ok (.iload 4, 2) := by decide +kernel
theorem dX18_step_206 : decode cX18_step 206 = .ok (.iadd, 1) := by decide +kernel
theorem dX18_step_207 : decode cX18_step 207 = .ok (.iaload, 1) := by decide +kernel
theorem dX18_step_208 : decode cX18_step 208 = .ok (.iastore, 1) := by decide +kernel
theorem dX18_step_209 : decode cX18_step 209 = .ok (.aload_n 0, 1) := by decide +kernel
theorem dX18_step_210 : decode cX18_step 210 = .ok (.getfield 109, 3) := by decide +kernel
theorem dX18_step_213 : decode cX18_step 213 = .ok (.iload_n 1, 1) := by decide +kernel
theorem dX18_step_214 : decode cX18_step 214 = .ok (.iload 6, 2) := by decide +kernel
theorem dX18_step_216 : decode cX18_step 216 = .ok (.ifCond .eq 7, 3) := by decide +kernel
theorem dX18_step_223 : decode cX18_step 223 = .ok (.iload 4, 2) := by decide +kernel
theorem dX18_step_225 : decode cX18_step 225 = .ok (.iastore, 1) := by decide +kernel
theorem dX18_step_226 : decode cX18_step 226 = .ok (.aload_n 0, 1) := by decide +kernel
theorem dX18_step_227 : decode cX18_step 227 = .ok (.getfield 112, 3) := by decide +kernel
theorem dX18_step_230 : decode cX18_step 230 = .ok (.iload_n 1, 1) := by decide +kernel
theorem dX18_step_231 : decode cX18_step 231 = .ok (.iload 6, 2) := by decide +kernel
theorem dX18_step_233 : decode cX18_step 233 = .ok (.ifCond .eq 7, 3) := by decide +kernel
theorem dX18_step_240 : decode cX18_step 240 = .ok (.iload 5, 2) := by decide +kernel
theorem dX18_step_242 : decode cX18_step 242 = .ok (.iastore, 1) := by decide +kernel
theorem dX18_step_243 : decode cX18_step 243 = .ok (.aload_n 0, 1) := by decide +kernel
theorem dX18_step_244 : decode cX18_step 244 = .ok (.getfield 118, 3) := by decide +kernel
theorem dX18_step_247 : decode cX18_step 247 = .ok (.iload_n 1, 1) := by decide +kernel
theorem dX18_step_248 : decode cX18_step 248 = .ok (.dup2, 1) := by decide +kernel
theorem dX18_step_249 : decode cX18_step 249 = .ok (.iaload, 1) := by decide +kernel
theorem dX18_step_250 : decode cX18_step 250 = .ok (.iconst 1, 1) := by decide +kernel
theorem dX18_step_251 : decode cX18_step 251 = .ok (.iadd, 1) := by decide +kernel
theorem dX18_step_252 : decode cX18_step 252 = .ok (.iastore, 1) := by decide +kernel
theorem dX18_step_253 : decode cX18_step 253 = .ok (.aload_n 0, 1) := by decide +kernel
theorem dX18_step_254 : decode cX18_step 254 = .ok (.getfield 121, 3) := by decide +kernel
theorem dX18_step_257 : decode cX18_step 257 = .ok (.iload_n 1, 1) := by decide +kernel
theorem dX18_step_258 : decode cX18_step 258 = .ok (.aload_n 0, 1) := by decide +kernel
theorem dX18_step_259 : decode cX18_step 259 = .ok (.getfield 401, 3) := by decide +kernel
theorem dX18_step_262 : decode cX18_step 262 = .ok (.iastore, 1) := by decide +kernel
theorem dX18_step_263 : decode cX18_step 263 = .ok (.return_, 1) := by decide +kernel
theorem dX18_step_236 : decode cX18_step 236 = .ok (.iconst (-1), 1) := by decide +kernel
theorem dX18_step_237 : decode cX18_step 237 = .ok (.goto 5, 3) := by decide +kernel
theorem dX18_step_219 : decode cX18_step 219 = .ok (.iconst (-1), 1) := by decide +kernel
theorem dX18_step_220 : decode cX18_step 220 = .ok (.goto 5, 3) := by decide +kernel
theorem dX18_step_188 : decode cX18_step 188 = .ok (.aload_n 0, 1) := by decide +kernel
theorem dX18_step_189 : decode cX18_step 189 = .ok (.getfield 338, 3) := by decide +kernel
theorem dX18_step_192 : decode cX18_step 192 = .ok (.goto 16, 3) := by decide +kernel
theorem dX18_step_142 : decode cX18_step 142 = .ok (.aload_n 0, 1) := by decide +kernel
theorem dX18_step_143 : decode cX18_step 143 = .ok (.getfield 166, 3) := by decide +kernel
theorem dX18_step_146 : decode cX18_step 146 = .ok (.bipush 24, 2) := by decide +kernel
theorem dX18_step_148 : decode cX18_step 148 = .ok (.iload 5, 2) := by decide +kernel
theorem dX18_step_150 : decode cX18_step 150 = .ok (.imul, 1) := by decide +kernel
theorem dX18_step_151 : decode cX18_step 151 = .ok (.iload 4, 2) := by decide +kernel
theorem dX18_step_153 : decode cX18_step 153 = .ok (.iadd, 1) := by decide +kernel
theorem dX18_step_154 : decode cX18_step 154 = .ok (.baload, 1) := by decide +kernel
theorem dX18_step_155 : decode cX18_step 155 = .ok (.ifCond .ne 109, 3) := by decide +kernel
theorem dX18_step_114 : decode cX18_step 114 = .ok (.iload 7, 2) := by decide +kernel
theorem dX18_step_116 : decode cX18_step 116 = .ok (.iload_n 2, 1) := by decide +kernel
theorem dX18_step_117 : decode cX18_step 117 = .ok (.if_icmp .ge 7, 3) := by decide +kernel
theorem dX18_step_120 : decode cX18_step 120 = .ok (.iconst 1, 1) := by decide +kernel
theorem dX18_step_121 : decode cX18_step 121 = .ok (.goto 4, 3) := by decide +kernel
theorem dX18_step_96 : decode cX18_step 96 = .ok (.iload_n 2, 1) := by decide +kernel
theorem dX18_step_97 : decode cX18_step 97 = .ok (.iconst 1, 1) := by decide +kernel
theorem dX18_step_98 : decode cX18_step 98 = .ok (.if_icmp .ne 7, 3) := by decide +kernel
theorem dX18_step_105 : decode cX18_step 105 = .ok (.iconst 0, 1) := by decide +kernel
theorem dX18_step_106 : decode cX18_step 106 = .ok (.goto 19, 3) := by decide +kernel
theorem dX18_step_101 : decode cX18_step 101 = .ok (.iconst 1, 1) := by decide +kernel
theorem dX18_step_102 : decode cX18_step 102 = .ok (.goto 23, 3) := by decide +kernel
theorem dX18_step_72 : decode cX18_step 72 = .ok (.iconst 0, 1) := by decide +kernel
theorem dX18_step_73 : decode cX18_step 73 = .ok (.goto 16, 3) := by decide +kernel
theorem dX18_step_270 : decode cX18_step 270 = .ok (.return_, 1) := by decide +kernel
theorem zl_X18_532 : zm_F zk_E RX18 532 17 4 := ⟨RX17, TX17, 19, rfl, zk_i17, by decide, zk_b15 10 (by decide +kernel) rfl⟩
theorem zl_X18_535 : zm_F zk_E RX18 535 17 10 := ⟨RX17, TX17, 19, rfl, zk_i17, by decide, zk_b15 22 (by decide +kernel) rfl⟩
theorem zl_X18_538 : zm_F zk_E RX18 538 17 11 := ⟨RX17, TX17, 19, rfl, zk_i17, by decide, zk_b15 24 (by decide +kernel) rfl⟩
theorem zl_X18_541 : zm_F zk_E RX18 541 17 13 := ⟨RX17, TX17, 19, rfl, zk_i17, by decide, zk_b15 28 (by decide +kernel) rfl⟩
theorem zl_X18_544 : zm_L zk_E RX18 544 yX17_sort (.code yX17_sort cX17_sort 5 (some .int)) 0 ∧ Cond.instanceMethod yX17_sort ∈ zk_E.2.2.1 ∧ Cond.selects yX17_sort.cls yX17_sort yX17_sort ∈ zk_E.2.2.1 := ⟨⟨zk_b20 122 (by decide +kernel) rfl, zk_b1 17 (by decide +kernel) rfl, zk_b20 119 (by decide +kernel) rfl, by decide +kernel, by decide +kernel, by decide +kernel⟩, zk_b20 120 (by decide +kernel) rfl, zk_b20 121 (by decide +kernel) rfl⟩
theorem zl_X18_556 : zm_L zk_E RX18 556 yX17_place (.code yX17_place cX17_place 4 (some .int)) 1 ∧ Cond.instanceMethod yX17_place ∈ zk_E.2.2.1 ∧ Cond.selects yX17_place.cls yX17_place yX17_place ∈ zk_E.2.2.1 := ⟨⟨zk_b20 137 (by decide +kernel) rfl, zk_b1 17 (by decide +kernel) rfl, zk_b20 134 (by decide +kernel) rfl, by decide +kernel, by decide +kernel, by decide +kernel⟩, zk_b20 135 (by decide +kernel) rfl, zk_b20 136 (by decide +kernel) rfl⟩
theorem zl_X18_553 : zm_F zk_E RX18 553 17 9 := ⟨RX17, TX17, 19, rfl, zk_i17, by decide, zk_b15 20 (by decide +kernel) rfl⟩
theorem zl_X18_550 : zm_F zk_E RX18 550 17 8 := ⟨RX17, TX17, 19, rfl, zk_i17, by decide, zk_b15 18 (by decide +kernel) rfl⟩
theorem zl_X18_547 : zm_F zk_E RX18 547 17 7 := ⟨RX17, TX17, 19, rfl, zk_i17, by decide, zk_b15 16 (by decide +kernel) rfl⟩
theorem zl_X18_559 : zm_F zk_E RX18 559 17 17 := ⟨RX17, TX17, 19, rfl, zk_i17, by decide, zk_b15 34 (by decide +kernel) rfl⟩
theorem zl_X18_563 : zm_F zk_E RX18 563 12 4 := ⟨RX12, TX12, 29, rfl, zk_i12, by decide, zk_b15 88 (by decide +kernel) rfl⟩
theorem zl_X18_562 : Cond.constant RX18 562 (65536 : Int32) ∈ zk_E.2.2.1 := zk_b20 147 (by decide +kernel) rfl
theorem zl_X18_566 : zm_F zk_E RX18 566 12 5 := ⟨RX12, TX12, 29, rfl, zk_i12, by decide, zk_b15 90 (by decide +kernel) rfl⟩
theorem zl_X18_569 : zm_F zk_E RX18 569 12 6 := ⟨RX12, TX12, 29, rfl, zk_i12, by decide, zk_b15 92 (by decide +kernel) rfl⟩
theorem zl_X18_575 : zm_L zk_E RX18 575 yX12_disturb (.code yX12_disturb cX12_disturb 3 (some .boolean)) 1 ∧ Cond.instanceMethod yX12_disturb ∈ zk_E.2.2.1 ∧ Cond.selects yX12_disturb.cls yX12_disturb yX12_disturb ∈ zk_E.2.2.1 := ⟨⟨zk_b20 171 (by decide +kernel) rfl, zk_b1 18 (by decide +kernel) rfl, zk_b20 168 (by decide +kernel) rfl, by decide +kernel, by decide +kernel, by decide +kernel⟩, zk_b20 169 (by decide +kernel) rfl, zk_b20 170 (by decide +kernel) rfl⟩
theorem zl_X18_572 : zm_L zk_E RX18 572 yX12_mayDisturb (.code yX12_mayDisturb cX12_mayDisturb 1 (some .boolean)) 0 ∧ Cond.instanceMethod yX12_mayDisturb ∈ zk_E.2.2.1 ∧ Cond.selects yX12_mayDisturb.cls yX12_mayDisturb yX12_mayDisturb ∈ zk_E.2.2.1 := ⟨⟨zk_b20 167 (by decide +kernel) rfl, zk_b1 18 (by decide +kernel) rfl, zk_b20 164 (by decide +kernel) rfl, by decide +kernel, by decide +kernel, by decide +kernel⟩, zk_b20 165 (by decide +kernel) rfl, zk_b20 166 (by decide +kernel) rfl⟩
theorem zl_X18_578 : zm_L zk_E RX18 578 yX12_station (.code yX12_station cX12_station 3 (some .int)) 2 ∧ Cond.instanceMethod yX12_station ∈ zk_E.2.2.1 ∧ Cond.selects yX12_station.cls yX12_station yX12_station ∈ zk_E.2.2.1 := ⟨⟨zk_b20 179 (by decide +kernel) rfl, zk_b1 18 (by decide +kernel) rfl, zk_b20 176 (by decide +kernel) rfl, by decide +kernel, by decide +kernel, by decide +kernel⟩, zk_b20 177 (by decide +kernel) rfl, zk_b20 178 (by decide +kernel) rfl⟩
theorem zl_X18_581 : zm_F zk_E RX18 581 12 27 := ⟨RX12, TX12, 29, rfl, zk_i12, by decide, zk_b15 118 (by decide +kernel) rfl⟩
theorem zl_X18_588 : zm_F zk_E RX18 588 12 22 := ⟨RX12, TX12, 29, rfl, zk_i12, by decide, zk_b15 111 (by decide +kernel) rfl⟩
theorem zl_X18_585 : zm_F zk_E RX18 585 12 26 := ⟨RX12, TX12, 29, rfl, zk_i12, by decide, zk_b15 116 (by decide +kernel) rfl⟩
theorem zl_X18_584 : zm_F zk_E RX18 584 12 21 := ⟨RX12, TX12, 29, rfl, zk_i12, by decide, zk_b15 109 (by decide +kernel) rfl⟩
theorem zl_X18_591 : zm_L zk_E RX18 591 yX13_isFloor (.code yX13_isFloor cX13_isFloor 1 (some .boolean)) 1 ∧ Cond.static yX13_isFloor ∈ zk_E.2.2.1 := ⟨⟨zk_b20 194 (by decide +kernel) rfl, zk_b1 19 (by decide +kernel) rfl, zk_b20 192 (by decide +kernel) rfl, by decide +kernel, by decide +kernel, by decide +kernel⟩, zk_b20 193 (by decide +kernel) rfl⟩
theorem zl_X18_597 : zm_L zk_E RX18 597 yX13_car (.code yX13_car cX13_car 3 (some .int)) 2 ∧ Cond.instanceMethod yX13_car ∈ zk_E.2.2.1 ∧ Cond.selects yX13_car.cls yX13_car yX13_car ∈ zk_E.2.2.1 := ⟨⟨zk_b20 198 (by decide +kernel) rfl, zk_b1 19 (by decide +kernel) rfl, zk_b20 195 (by decide +kernel) rfl, by decide +kernel, by decide +kernel, by decide +kernel⟩, zk_b20 196 (by decide +kernel) rfl, zk_b20 197 (by decide +kernel) rfl⟩
theorem zl_X18_594 : zm_F zk_E RX18 594 13 0 := ⟨RX13, TX13, 24, rfl, zk_i13, by decide, zk_b15 186 (by decide +kernel) rfl⟩
theorem zl_X18_601 : zm_F zk_E RX18 601 13 2 := ⟨RX13, TX13, 24, rfl, zk_i13, by decide, zk_b15 189 (by decide +kernel) rfl⟩
theorem zl_X18_604 : zm_F zk_E RX18 604 13 3 := ⟨RX13, TX13, 24, rfl, zk_i13, by decide, zk_b15 191 (by decide +kernel) rfl⟩
theorem zl_X18_600 : Cond.constant RX18 600 (100000 : Int32) ∈ zk_E.2.2.1 := zk_b20 203 (by decide +kernel) rfl
theorem zl_X18_605 : zm_F zk_E RX18 605 13 4 := ⟨RX13, TX13, 24, rfl, zk_i13, by decide, zk_b15 193 (by decide +kernel) rfl⟩
theorem zl_X18_608 : zm_F zk_E RX18 608 13 5 := ⟨RX13, TX13, 24, rfl, zk_i13, by decide, zk_b15 195 (by decide +kernel) rfl⟩
theorem zl_X18_617 : zm_L zk_E RX18 617 yX13_call (.code yX13_call cX13_call 3 (some .int)) 2 ∧ Cond.instanceMethod yX13_call ∈ zk_E.2.2.1 ∧ Cond.selects yX13_call.cls yX13_call yX13_call ∈ zk_E.2.2.1 := ⟨⟨zk_b20 219 (by decide +kernel) rfl, zk_b1 19 (by decide +kernel) rfl, zk_b20 216 (by decide +kernel) rfl, by decide +kernel, by decide +kernel, by decide +kernel⟩, zk_b20 217 (by decide +kernel) rfl, zk_b20 218 (by decide +kernel) rfl⟩
theorem zl_X18_611 : zm_L zk_E RX18 611 yX13_many (.code yX13_many cX13_many 3 (some .int)) 0 ∧ Cond.instanceMethod yX13_many ∈ zk_E.2.2.1 ∧ Cond.selects yX13_many.cls yX13_many yX13_many ∈ zk_E.2.2.1 := ⟨⟨zk_b20 215 (by decide +kernel) rfl, zk_b1 19 (by decide +kernel) rfl, zk_b20 212 (by decide +kernel) rfl, by decide +kernel, by decide +kernel, by decide +kernel⟩, zk_b20 213 (by decide +kernel) rfl, zk_b20 214 (by decide +kernel) rfl⟩
theorem zl_X18_614 : zm_F zk_E RX18 614 13 6 := ⟨RX13, TX13, 24, rfl, zk_i13, by decide, zk_b15 197 (by decide +kernel) rfl⟩
theorem zl_X18_620 : zm_L zk_E RX18 620 yX13_opens (.code yX13_opens cX13_opens 2 (some .boolean)) 1 ∧ Cond.instanceMethod yX13_opens ∈ zk_E.2.2.1 ∧ Cond.selects yX13_opens.cls yX13_opens yX13_opens ∈ zk_E.2.2.1 := ⟨⟨zk_b20 227 (by decide +kernel) rfl, zk_b1 19 (by decide +kernel) rfl, zk_b20 224 (by decide +kernel) rfl, by decide +kernel, by decide +kernel, by decide +kernel⟩, zk_b20 225 (by decide +kernel) rfl, zk_b20 226 (by decide +kernel) rfl⟩
theorem zl_X18_623 : zm_L zk_E RX18 623 yX13_begin (.code yX13_begin cX13_begin 5 (some .boolean)) 2 ∧ Cond.instanceMethod yX13_begin ∈ zk_E.2.2.1 ∧ Cond.selects yX13_begin.cls yX13_begin yX13_begin ∈ zk_E.2.2.1 := ⟨⟨zk_b20 231 (by decide +kernel) rfl, zk_b1 19 (by decide +kernel) rfl, zk_b20 228 (by decide +kernel) rfl, by decide +kernel, by decide +kernel, by decide +kernel⟩, zk_b20 229 (by decide +kernel) rfl, zk_b20 230 (by decide +kernel) rfl⟩
theorem zl_X18_626 : zm_F zk_E RX18 626 13 10 := ⟨RX13, TX13, 24, rfl, zk_i13, by decide, zk_b15 202 (by decide +kernel) rfl⟩
theorem zl_X18_629 : zm_F zk_E RX18 629 13 13 := ⟨RX13, TX13, 24, rfl, zk_i13, by decide, zk_b15 207 (by decide +kernel) rfl⟩
theorem zt_13_13 : zm_T zk_E RX13 13 13 .boolean false := ⟨RX13, TX13, 24, tyX13, rfl, tyX13_ok, nmX13, rfl, rfl, rfl⟩
theorem zl_X18_632 : zm_L zk_E RX18 632 yX13_give (.code yX13_give cX13_give 8 (some .long)) 0 ∧ Cond.instanceMethod yX13_give ∈ zk_E.2.2.1 ∧ Cond.selects yX13_give.cls yX13_give yX13_give ∈ zk_E.2.2.1 := ⟨⟨zk_b21 7 (by decide +kernel) rfl, zk_b1 19 (by decide +kernel) rfl, zk_b21 4 (by decide +kernel) rfl, by decide +kernel, by decide +kernel, by decide +kernel⟩, zk_b21 5 (by decide +kernel) rfl, zk_b21 6 (by decide +kernel) rfl⟩
theorem zl_X18_636 : zm_L zk_E RX18 636 yX13_given (.code yX13_given cX13_given 3 (some .int)) 2 ∧ Cond.instanceMethod yX13_given ∈ zk_E.2.2.1 ∧ Cond.selects yX13_given.cls yX13_given yX13_given ∈ zk_E.2.2.1 := ⟨⟨zk_b21 64 (by decide +kernel) rfl, zk_b1 19 (by decide +kernel) rfl, zk_b21 61 (by decide +kernel) rfl, by decide +kernel, by decide +kernel, by decide +kernel⟩, zk_b21 62 (by decide +kernel) rfl, zk_b21 63 (by decide +kernel) rfl⟩
theorem zl_X18_657 : zm_L zk_E RX18 657 yX18_smokes (.code yX18_smokes cX18_smokes 4 (some .int)) 1 ∧ Cond.instanceMethod yX18_smokes ∈ zk_E.2.2.1 ∧ Cond.selects yX18_smokes.cls yX18_smokes yX18_smokes ∈ zk_E.2.2.1 := ⟨⟨zk_b21 92 (by decide +kernel) rfl, zk_b1 13 (by decide +kernel) rfl, zk_b21 89 (by decide +kernel) rfl, by decide +kernel, by decide +kernel, by decide +kernel⟩, zk_b21 91 (by decide +kernel) rfl, zk_s18 (q := (yX18_smokes, 60)) 7 (by decide +kernel)⟩
theorem zl_X18_663 : zm_F zk_E RX18 663 16 8 := ⟨RX16, TX16, 40, rfl, zk_i16, by decide, zk_b13 85 (by decide +kernel) rfl⟩
theorem zl_X18_660 : zm_L zk_E RX18 660 yX18_goesThrough (.code yX18_goesThrough cX18_goesThrough 6 (some .boolean)) 3 ∧ Cond.instanceMethod yX18_goesThrough ∈ zk_E.2.2.1 ∧ Cond.selects yX18_goesThrough.cls yX18_goesThrough yX18_goesThrough ∈ zk_E.2.2.1 := ⟨⟨zk_b21 214 (by decide +kernel) rfl, zk_b1 13 (by decide +kernel) rfl, zk_b21 211 (by decide +kernel) rfl, by decide +kernel, by decide +kernel, by decide +kernel⟩, zk_b21 213 (by decide +kernel) rfl, zk_s20 (q := (yX18_goesThrough, 60)) 1 (by decide +kernel)⟩
set_option maxHeartbeats 4000000 in
set_option maxRecDepth 100000 in
theorem zt_X18_safe {l : Launch} {V : zm_V} {N : Nat} {S : zm_S} {out : (Int32 × zm_S)} {d : Nat} {a0 : Nat} {i1 : Int32} {i2 : Int32} (hd : 2 ≤ d) (h : zf_X18_safe N a0 i1 i2 S = some out) : zm_Met l zk_E V yX18_safe (.code yX18_safe cX18_safe 4 (some .int)) d [.ref a0, .int i1, .int i2] S 0 0 (zo_i out) zo_x := by
  refine zm_of (by decide +kernel) (Nat.le_of_ble_eq_true rfl) ?_
  intro p e R s m args below meth c hRR hX hr hxt
  have hR : R.frames = d ∧ R.locals = 64 * d := by rw [hRR]; exact ⟨rfl, rfl⟩
  have hX : zm_X p R s m args meth c RX18 "safe" cX18_safe 4 zk_E V 0 0 := hX
  unfold zf_X18_safe at h
  refine zw_sub (lv' := [(0, .ref a0), (1, .int i1), (2, .int i2)]) (List.forall_mem_cons.mpr ⟨rfl, (List.forall_mem_cons.mpr ⟨rfl, (List.forall_mem_cons.mpr ⟨rfl, zs_nil⟩)⟩)⟩) ?_
  refine zw_aload_n hX dX18_safe_0 rfl ?_
  refine zw_iload_n hX dX18_safe_1 rfl ?_
  refine zw_aload_n hX dX18_safe_2 rfl ?_
  obtain ⟨b1, g, h⟩ := zb_some h
  refine zw_getr hX zl_X18_35 dX18_safe_3 g ?_
  obtain ⟨v2, g, h⟩ := zb_some h
  refine zw_geti hX zl_X18_513 dX18_safe_6 g ?_
  obtain ⟨r4, g, h⟩ := zb_some h
  refine zc_Si (as := [.int i1, .int v2]) hX (zt_X18_isIn (d := d - 1) (by omega) g) zl_X18_207 dX18_safe_9 ⟨rfl, rfl, Nat.le_of_ble_eq_true rfl⟩ ⟨by omega, by omega⟩ ?_
  refine zw_aload_n hX dX18_safe_12 rfl ?_
  obtain ⟨v5, g, h⟩ := zb_some h
  refine zw_geti hX zl_X18_192 dX18_safe_13 g ?_
  obtain ⟨_, gi, h⟩ := zb_some h
  obtain ⟨r7, g, h⟩ := zb_some h
  refine zc_Vi (as := [.int r4.1, .int v5]) hX gi (zt_X18_goes (d := d - 1) (by omega) g) zl_X18_199 rfl dX18_safe_16 ⟨rfl, rfl, Nat.le_of_ble_eq_true rfl⟩ ⟨by omega, by omega⟩ ?_
  refine zw_if_ne (tgt := 24) hX dX18_safe_19 (by decide) (fun c19 => ?_) (fun c19 => ?_)
  · rw [if_neg c19] at h
    refine zw_aload_n hX dX18_safe_24 rfl ?_
    obtain ⟨b8, g, h⟩ := zb_some h
    refine zw_getr hX zl_X18_35 dX18_safe_25 g ?_
    obtain ⟨b9, g, h⟩ := zb_some h
    refine zw_getr hX zl_X18_532 dX18_safe_28 g ?_
    refine zw_iload_n hX dX18_safe_31 rfl ?_
    obtain ⟨v10, g, h⟩ := zb_some h
    refine zw_xi hX dX18_safe_32 g ?_
    refine zw_istore_n hX dX18_safe_33 (by decide) ?_
    refine zw_aload_n hX dX18_safe_34 rfl ?_
    obtain ⟨b11, g, h⟩ := zb_some h
    refine zw_getr hX zl_X18_35 dX18_safe_35 g ?_
    obtain ⟨b12, g, h⟩ := zb_some h
    refine zw_getr hX zl_X18_532 dX18_safe_38 g ?_
    refine zw_iload_n hX dX18_safe_41 rfl ?_
    refine zw_iload_n hX dX18_safe_42 rfl ?_
    obtain ⟨S13, g, h⟩ := zb_some h
    refine zw_si hX dX18_safe_43 g ?_
    refine zw_iload_n hX dX18_safe_44 rfl ?_
    obtain rfl := Option.some.inj h
    exact zw_iret hX hr dX18_safe_45 rfl ⟨rfl, rfl⟩
  · rw [if_pos c19] at h
    refine zw_iconst (v := (0 : Int32)) hX dX18_safe_22 (by decide) ?_
    obtain rfl := Option.some.inj h
    exact zw_iret hX hr dX18_safe_23 rfl ⟨rfl, rfl⟩
set_option maxHeartbeats 4000000 in
set_option maxRecDepth 100000 in
theorem zt_X18_hand {l : Launch} {V : zm_V} {N : Nat} {S : zm_S} {out : (Int32 × zm_S)} {d : Nat} {a0 : Nat} {i1 : Int32} {i2 : Int32} {i3 : Int32} (hd : 2 ≤ d) (h : zf_X18_hand N a0 i1 i2 i3 S = some out) : zm_Met l zk_E V yX18_hand (.code yX18_hand cX18_hand 5 (some .boolean)) d [.ref a0, .int i1, .int i2, .int i3] S 0 0 (zo_i out) zo_x := by
  refine zm_of (by decide +kernel) (Nat.le_of_ble_eq_true rfl) ?_
  intro p e R s m args below meth c hRR hX hr hxt
  have hR : R.frames = d ∧ R.locals = 64 * d := by rw [hRR]; exact ⟨rfl, rfl⟩
  have hX : zm_X p R s m args meth c RX18 "hand" cX18_hand 5 zk_E V 0 0 := hX
  unfold zf_X18_hand at h
  refine zw_sub (lv' := [(0, .ref a0), (1, .int i1), (2, .int i2), (3, .int i3)]) (List.forall_mem_cons.mpr ⟨rfl, (List.forall_mem_cons.mpr ⟨rfl, (List.forall_mem_cons.mpr ⟨rfl, (List.forall_mem_cons.mpr ⟨rfl, zs_nil⟩)⟩)⟩)⟩) ?_
  refine zw_aload_n hX dX18_hand_0 rfl ?_
  refine zw_iload_n hX dX18_hand_1 rfl ?_
  refine zw_aload_n hX dX18_hand_2 rfl ?_
  obtain ⟨b1, g, h⟩ := zb_some h
  refine zw_getr hX zl_X18_35 dX18_hand_3 g ?_
  obtain ⟨v2, g, h⟩ := zb_some h
  refine zw_geti hX zl_X18_513 dX18_hand_6 g ?_
  obtain ⟨r4, g, h⟩ := zb_some h
  refine zc_Si (as := [.int i1, .int v2]) hX (zt_X18_isIn (d := d - 1) (by omega) g) zl_X18_207 dX18_hand_9 ⟨rfl, rfl, Nat.le_of_ble_eq_true rfl⟩ ⟨by omega, by omega⟩ ?_
  refine zw_aload_n hX dX18_hand_12 rfl ?_
  obtain ⟨v5, g, h⟩ := zb_some h
  refine zw_geti hX zl_X18_192 dX18_hand_13 g ?_
  obtain ⟨_, gi, h⟩ := zb_some h
  obtain ⟨r7, g, h⟩ := zb_some h
  refine zc_Vi (as := [.int r4.1, .int v5]) hX gi (zt_X18_goes (d := d - 1) (by omega) g) zl_X18_199 rfl dX18_hand_16 ⟨rfl, rfl, Nat.le_of_ble_eq_true rfl⟩ ⟨by omega, by omega⟩ ?_
  refine zw_if_ne (tgt := 24) hX dX18_hand_19 (by decide) (fun c19 => ?_) (fun c19 => ?_)
  · rw [if_neg c19] at h
    refine zw_aload_n hX dX18_hand_24 rfl ?_
    obtain ⟨b8, g, h⟩ := zb_some h
    refine zw_getr hX zl_X18_35 dX18_hand_25 g ?_
    obtain ⟨b9, g, h⟩ := zb_some h
    refine zw_getr hX zl_X18_535 dX18_hand_28 g ?_
    refine zw_iload_n hX dX18_hand_31 rfl ?_
    obtain ⟨v10, g, h⟩ := zb_some h
    refine zw_xz hX dX18_hand_32 g ?_
    refine zw_istore hX dX18_hand_33 (by decide) ?_
    refine zw_aload_n hX dX18_hand_35 rfl ?_
    obtain ⟨b11, g, h⟩ := zb_some h
    refine zw_getr hX zl_X18_35 dX18_hand_36 g ?_
    obtain ⟨b12, g, h⟩ := zb_some h
    refine zw_getr hX zl_X18_535 dX18_hand_39 g ?_
    refine zw_iload_n hX dX18_hand_42 rfl ?_
    refine zw_iload_n hX dX18_hand_43 rfl ?_
    obtain ⟨S13, g, h⟩ := zb_some h
    refine zw_sz hX dX18_hand_44 g ?_
    refine zw_aload_n hX dX18_hand_45 rfl ?_
    obtain ⟨b14, g, h⟩ := zb_some h
    refine zw_getr hX zl_X18_35 dX18_hand_46 g ?_
    obtain ⟨b15, g, h⟩ := zb_some h
    refine zw_getr hX zl_X18_538 dX18_hand_49 g ?_
    refine zw_iload_n hX dX18_hand_52 rfl ?_
    refine zw_iload_n hX dX18_hand_53 rfl ?_
    obtain ⟨S16, g, h⟩ := zb_some h
    refine zw_si hX dX18_hand_54 g ?_
    refine zw_iload hX dX18_hand_55 rfl ?_
    by_cases cz : v10 = 0 ∨ v10 = 1
    · rw [if_pos cz] at h
      obtain rfl := Option.some.inj h
      exact zw_iret hX hr dX18_hand_57 (zn_z cz) ⟨rfl, rfl⟩
    · rw [if_neg cz] at h
      cases h
  · rw [if_pos c19] at h
    refine zw_iconst (v := (0 : Int32)) hX dX18_hand_22 (by decide) ?_
    obtain rfl := Option.some.inj h
    exact zw_iret hX hr dX18_hand_23 rfl ⟨rfl, rfl⟩
set_option maxHeartbeats 4000000 in
set_option maxRecDepth 100000 in
theorem zt_X18_bind_J31 {p : Program} {l : Launch} {e : Env} {R : Room} {s : State} {m : MethodId} {args : Array Value} {below : List Frame} {meth : Method} {c : Code} {V : zm_V} {mc ms d rc rs : Nat} (hX : zm_X p R s m args meth c RX18 "bind" cX18_bind 4 zk_E V mc ms) (hr : meth.sig.returnType = (some .int)) (hR : R.frames = d ∧ R.locals = 64 * d) (hd : 2 ≤ d) {N : Nat} {a0 : Nat} {i1 : Int32} {i2 : Int32} {t0 : Nat} {t1 : Int32} {out : (Int32 × zm_S)} {S : zm_S} (h : zf_X18_bind_J31 N a0 i1 i2 t0 t1 S = some out) : zw p l e R s m args below meth c (vx_MQ below (zm_Qc zk_E V (zo_i out)) (zm_XC zk_E V zo_x) args s mc ms (fun q => V.2.2.2.1 ≤ q)) 4 zk_E V mc ms 31 [(0, .ref a0), (1, .int i1), (2, .int i2)] [.int t1, .ref t0] S rc rs := by
  unfold zf_X18_bind_J31 at h
  refine zw_aload_n hX dX18_bind_31 rfl ?_
  obtain ⟨v5, g, h⟩ := zb_some h
  refine zw_geti hX zl_X18_192 dX18_bind_32 g ?_
  obtain ⟨_, gi, h⟩ := zb_some h
  obtain ⟨r7, g, h⟩ := zb_some h
  refine zc_Vi (as := [.int t1, .int v5]) hX gi (zt_X18_goes (d := d - 1) (by omega) g) zl_X18_199 rfl dX18_bind_35 ⟨rfl, rfl, Nat.le_of_ble_eq_true rfl⟩ ⟨by omega, by omega⟩ ?_
  refine zw_if_ne (tgt := 43) hX dX18_bind_38 (by decide) (fun c38 => ?_) (fun c38 => ?_)
  · rw [if_neg c38] at h
    refine zw_aload_n hX dX18_bind_43 rfl ?_
    obtain ⟨b8, g, h⟩ := zb_some h
    refine zw_getr hX zl_X18_35 dX18_bind_44 g ?_
    obtain ⟨b9, g, h⟩ := zb_some h
    refine zw_getr hX zl_X18_541 dX18_bind_47 g ?_
    refine zw_iload_n hX dX18_bind_50 rfl ?_
    obtain ⟨v10, g, h⟩ := zb_some h
    refine zw_xi hX dX18_bind_51 g ?_
    refine zw_iconst (v := (1 : Int32)) hX dX18_bind_52 (by decide) ?_
    refine zw_isub hX dX18_bind_53 ?_
    refine zw_istore_n hX dX18_bind_54 (by decide) ?_
    refine zw_aload_n hX dX18_bind_55 rfl ?_
    obtain ⟨b11, g, h⟩ := zb_some h
    refine zw_getr hX zl_X18_35 dX18_bind_56 g ?_
    obtain ⟨b12, g, h⟩ := zb_some h
    refine zw_getr hX zl_X18_541 dX18_bind_59 g ?_
    refine zw_iload_n hX dX18_bind_62 rfl ?_
    refine zw_iload_n hX dX18_bind_63 rfl ?_
    refine zw_iconst (v := (1 : Int32)) hX dX18_bind_64 (by decide) ?_
    refine zw_iadd hX dX18_bind_65 ?_
    obtain ⟨S13, g, h⟩ := zb_some h
    refine zw_si hX dX18_bind_66 g ?_
    refine zw_iload_n hX dX18_bind_67 rfl ?_
    obtain rfl := Option.some.inj h
    exact zw_iret hX hr dX18_bind_68 rfl ⟨rfl, rfl⟩
  · rw [if_pos c38] at h
    refine zw_iconst (v := (0 : Int32)) hX dX18_bind_41 (by decide) ?_
    obtain rfl := Option.some.inj h
    exact zw_iret hX hr dX18_bind_42 rfl ⟨rfl, rfl⟩
set_option maxHeartbeats 4000000 in
set_option maxRecDepth 100000 in
theorem zt_X18_bind_J30 {p : Program} {l : Launch} {e : Env} {R : Room} {s : State} {m : MethodId} {args : Array Value} {below : List Frame} {meth : Method} {c : Code} {V : zm_V} {mc ms d rc rs : Nat} (hX : zm_X p R s m args meth c RX18 "bind" cX18_bind 4 zk_E V mc ms) (hr : meth.sig.returnType = (some .int)) (hR : R.frames = d ∧ R.locals = 64 * d) (hd : 2 ≤ d) {N : Nat} {a0 : Nat} {i1 : Int32} {i2 : Int32} {t0 : Nat} {out : (Int32 × zm_S)} {S : zm_S} (h : zf_X18_bind_J30 N a0 i1 i2 t0 S = some out) : zw p l e R s m args below meth c (vx_MQ below (zm_Qc zk_E V (zo_i out)) (zm_XC zk_E V zo_x) args s mc ms (fun q => V.2.2.2.1 ≤ q)) 4 zk_E V mc ms 30 [(0, .ref a0), (1, .int i1), (2, .int i2)] [.ref t0] S rc rs := by
  unfold zf_X18_bind_J30 at h
  refine zw_iconst (v := (0 : Int32)) hX dX18_bind_30 (by decide) ?_
  refine zw_sub (lv' := [(0, .ref a0), (1, .int i1), (2, .int i2)]) (List.forall_mem_cons.mpr ⟨rfl, (List.forall_mem_cons.mpr ⟨rfl, (List.forall_mem_cons.mpr ⟨rfl, zs_nil⟩)⟩)⟩) ?_
  exact zt_X18_bind_J31 hX hr hR hd h
set_option maxHeartbeats 4000000 in
set_option maxRecDepth 100000 in
theorem zt_X18_bind {l : Launch} {V : zm_V} {N : Nat} {S : zm_S} {out : (Int32 × zm_S)} {d : Nat} {a0 : Nat} {i1 : Int32} {i2 : Int32} (hd : 2 ≤ d) (h : zf_X18_bind N a0 i1 i2 S = some out) : zm_Met l zk_E V yX18_bind (.code yX18_bind cX18_bind 4 (some .int)) d [.ref a0, .int i1, .int i2] S 0 0 (zo_i out) zo_x := by
  refine zm_of (by decide +kernel) (Nat.le_of_ble_eq_true rfl) ?_
  intro p e R s m args below meth c hRR hX hr hxt
  have hR : R.frames = d ∧ R.locals = 64 * d := by rw [hRR]; exact ⟨rfl, rfl⟩
  have hX : zm_X p R s m args meth c RX18 "bind" cX18_bind 4 zk_E V 0 0 := hX
  unfold zf_X18_bind at h
  refine zw_sub (lv' := [(0, .ref a0), (1, .int i1), (2, .int i2)]) (List.forall_mem_cons.mpr ⟨rfl, (List.forall_mem_cons.mpr ⟨rfl, (List.forall_mem_cons.mpr ⟨rfl, zs_nil⟩)⟩)⟩) ?_
  refine zw_aload_n hX dX18_bind_0 rfl ?_
  refine zw_iload_n hX dX18_bind_1 rfl ?_
  refine zw_aload_n hX dX18_bind_2 rfl ?_
  obtain ⟨b1, g, h⟩ := zb_some h
  refine zw_getr hX zl_X18_35 dX18_bind_3 g ?_
  obtain ⟨v2, g, h⟩ := zb_some h
  refine zw_geti hX zl_X18_513 dX18_bind_6 g ?_
  obtain ⟨r4, g, h⟩ := zb_some h
  refine zc_Si (as := [.int i1, .int v2]) hX (zt_X18_isIn (d := d - 1) (by omega) g) zl_X18_207 dX18_bind_9 ⟨rfl, rfl, Nat.le_of_ble_eq_true rfl⟩ ⟨by omega, by omega⟩ ?_
  refine zw_if_eq (tgt := 30) hX dX18_bind_12 (by decide) (fun c12 => ?_) (fun c12 => ?_)
  · rw [if_pos c12] at h
    refine zw_sub (lv' := [(0, .ref a0), (1, .int i1), (2, .int i2)]) (List.forall_mem_cons.mpr ⟨rfl, (List.forall_mem_cons.mpr ⟨rfl, (List.forall_mem_cons.mpr ⟨rfl, zs_nil⟩)⟩)⟩) ?_
    exact zt_X18_bind_J30 hX hr hR hd h
  · rw [if_neg c12] at h
    refine zw_iload_n hX dX18_bind_15 rfl ?_
    refine zw_iconst (v := (-1 : Int32)) hX dX18_bind_16 (by decide) ?_
    refine zw_icmp_lt (tgt := 30) hX dX18_bind_17 (by decide) (fun c17 => ?_) (fun c17 => ?_)
    · rw [if_pos c17] at h
      refine zw_sub (lv' := [(0, .ref a0), (1, .int i1), (2, .int i2)]) (List.forall_mem_cons.mpr ⟨rfl, (List.forall_mem_cons.mpr ⟨rfl, (List.forall_mem_cons.mpr ⟨rfl, zs_nil⟩)⟩)⟩) ?_
      exact zt_X18_bind_J30 hX hr hR hd h
    · rw [if_neg c17] at h
      refine zw_iload_n hX dX18_bind_20 rfl ?_
      refine zw_bipush (v := (10 : Int32)) hX dX18_bind_21 (by decide) ?_
      refine zw_icmp_ge (tgt := 30) hX dX18_bind_23 (by decide) (fun c23 => ?_) (fun c23 => ?_)
      · rw [if_pos c23] at h
        refine zw_sub (lv' := [(0, .ref a0), (1, .int i1), (2, .int i2)]) (List.forall_mem_cons.mpr ⟨rfl, (List.forall_mem_cons.mpr ⟨rfl, (List.forall_mem_cons.mpr ⟨rfl, zs_nil⟩)⟩)⟩) ?_
        exact zt_X18_bind_J30 hX hr hR hd h
      · rw [if_neg c23] at h
        refine zw_iconst (v := (1 : Int32)) hX dX18_bind_26 (by decide) ?_
        refine zw_goto (tgt := 31) hX dX18_bind_27 (by decide) ?_
        refine zw_sub (lv' := [(0, .ref a0), (1, .int i1), (2, .int i2)]) (List.forall_mem_cons.mpr ⟨rfl, (List.forall_mem_cons.mpr ⟨rfl, (List.forall_mem_cons.mpr ⟨rfl, zs_nil⟩)⟩)⟩) ?_
        exact zt_X18_bind_J31 hX hr hR hd h
set_option maxHeartbeats 4000000 in
set_option maxRecDepth 100000 in
theorem zt_X18_point_J17 {p : Program} {l : Launch} {e : Env} {R : Room} {s : State} {m : MethodId} {args : Array Value} {below : List Frame} {meth : Method} {c : Code} {V : zm_V} {mc ms d rc rs : Nat} (hX : zm_X p R s m args meth c RX18 "point" cX18_point 4 zk_E V mc ms) (hr : meth.sig.returnType = (some .int)) (hR : R.frames = d ∧ R.locals = 64 * d) (hd : 2 ≤ d) {N : Nat} {a0 : Nat} {i1 : Int32} {i2 : Int32} {t0 : Nat} {t1 : Int32} {out : (Int32 × zm_S)} {S : zm_S} (h : zf_X18_point_J17 N a0 i1 i2 t0 t1 S = some out) : zw p l e R s m args below meth c (vx_MQ below (zm_Qc zk_E V (zo_i out)) (zm_XC zk_E V zo_x) args s mc ms (fun q => V.2.2.2.1 ≤ q)) 4 zk_E V mc ms 17 [(0, .ref a0), (1, .int i1), (2, .int i2)] [.int t1, .ref t0] S rc rs := by
  unfold zf_X18_point_J17 at h
  refine zw_aload_n hX dX18_point_17 rfl ?_
  obtain ⟨v1, g, h⟩ := zb_some h
  refine zw_geti hX zl_X18_192 dX18_point_18 g ?_
  obtain ⟨_, gi, h⟩ := zb_some h
  obtain ⟨r3, g, h⟩ := zb_some h
  refine zc_Vi (as := [.int t1, .int v1]) hX gi (zt_X18_goes (d := d - 1) (by omega) g) zl_X18_199 rfl dX18_point_21 ⟨rfl, rfl, Nat.le_of_ble_eq_true rfl⟩ ⟨by omega, by omega⟩ ?_
  refine zw_if_ne (tgt := 29) hX dX18_point_24 (by decide) (fun c24 => ?_) (fun c24 => ?_)
  · rw [if_neg c24] at h
    refine zw_aload_n hX dX18_point_29 rfl ?_
    obtain ⟨b4, g, h⟩ := zb_some h
    refine zw_getr hX zl_X18_35 dX18_point_30 g ?_
    obtain ⟨b5, g, h⟩ := zb_some h
    refine zw_getr hX zl_X18_474 dX18_point_33 g ?_
    refine zw_iload_n hX dX18_point_36 rfl ?_
    obtain ⟨v6, g, h⟩ := zb_some h
    refine zw_xi hX dX18_point_37 g ?_
    refine zw_istore_n hX dX18_point_38 (by decide) ?_
    refine zw_aload_n hX dX18_point_39 rfl ?_
    obtain ⟨b7, g, h⟩ := zb_some h
    refine zw_getr hX zl_X18_35 dX18_point_40 g ?_
    obtain ⟨b8, g, h⟩ := zb_some h
    refine zw_getr hX zl_X18_474 dX18_point_43 g ?_
    refine zw_iload_n hX dX18_point_46 rfl ?_
    refine zw_iload_n hX dX18_point_47 rfl ?_
    obtain ⟨S9, g, h⟩ := zb_some h
    refine zw_si hX dX18_point_48 g ?_
    refine zw_iload_n hX dX18_point_49 rfl ?_
    obtain rfl := Option.some.inj h
    exact zw_iret hX hr dX18_point_50 rfl ⟨rfl, rfl⟩
  · rw [if_pos c24] at h
    refine zw_iconst (v := (0 : Int32)) hX dX18_point_27 (by decide) ?_
    obtain rfl := Option.some.inj h
    exact zw_iret hX hr dX18_point_28 rfl ⟨rfl, rfl⟩
set_option maxHeartbeats 4000000 in
set_option maxRecDepth 100000 in
theorem zt_X18_point_J16 {p : Program} {l : Launch} {e : Env} {R : Room} {s : State} {m : MethodId} {args : Array Value} {below : List Frame} {meth : Method} {c : Code} {V : zm_V} {mc ms d rc rs : Nat} (hX : zm_X p R s m args meth c RX18 "point" cX18_point 4 zk_E V mc ms) (hr : meth.sig.returnType = (some .int)) (hR : R.frames = d ∧ R.locals = 64 * d) (hd : 2 ≤ d) {N : Nat} {a0 : Nat} {i1 : Int32} {i2 : Int32} {t0 : Nat} {out : (Int32 × zm_S)} {S : zm_S} (h : zf_X18_point_J16 N a0 i1 i2 t0 S = some out) : zw p l e R s m args below meth c (vx_MQ below (zm_Qc zk_E V (zo_i out)) (zm_XC zk_E V zo_x) args s mc ms (fun q => V.2.2.2.1 ≤ q)) 4 zk_E V mc ms 16 [(0, .ref a0), (1, .int i1), (2, .int i2)] [.ref t0] S rc rs := by
  unfold zf_X18_point_J16 at h
  refine zw_iconst (v := (0 : Int32)) hX dX18_point_16 (by decide) ?_
  refine zw_sub (lv' := [(0, .ref a0), (1, .int i1), (2, .int i2)]) (List.forall_mem_cons.mpr ⟨rfl, (List.forall_mem_cons.mpr ⟨rfl, (List.forall_mem_cons.mpr ⟨rfl, zs_nil⟩)⟩)⟩) ?_
  exact zt_X18_point_J17 hX hr hR hd h
set_option maxHeartbeats 4000000 in
set_option maxRecDepth 100000 in
theorem zt_X18_point {l : Launch} {V : zm_V} {N : Nat} {S : zm_S} {out : (Int32 × zm_S)} {d : Nat} {a0 : Nat} {i1 : Int32} {i2 : Int32} (hd : 2 ≤ d) (h : zf_X18_point N a0 i1 i2 S = some out) : zm_Met l zk_E V yX18_point (.code yX18_point cX18_point 4 (some .int)) d [.ref a0, .int i1, .int i2] S 0 0 (zo_i out) zo_x := by
  refine zm_of (by decide +kernel) (Nat.le_of_ble_eq_true rfl) ?_
  intro p e R s m args below meth c hRR hX hr hxt
  have hR : R.frames = d ∧ R.locals = 64 * d := by rw [hRR]; exact ⟨rfl, rfl⟩
  have hX : zm_X p R s m args meth c RX18 "point" cX18_point 4 zk_E V 0 0 := hX
  unfold zf_X18_point at h
  refine zw_sub (lv' := [(0, .ref a0), (1, .int i1), (2, .int i2)]) (List.forall_mem_cons.mpr ⟨rfl, (List.forall_mem_cons.mpr ⟨rfl, (List.forall_mem_cons.mpr ⟨rfl, zs_nil⟩)⟩)⟩) ?_
  refine zw_aload_n hX dX18_point_0 rfl ?_
  refine zw_iload_n hX dX18_point_1 rfl ?_
  refine zw_iconst (v := (4 : Int32)) hX dX18_point_2 (by decide) ?_
  refine zw_icmp_lt (tgt := 16) hX dX18_point_3 (by decide) (fun c3 => ?_) (fun c3 => ?_)
  · rw [if_pos c3] at h
    refine zw_sub (lv' := [(0, .ref a0), (1, .int i1), (2, .int i2)]) (List.forall_mem_cons.mpr ⟨rfl, (List.forall_mem_cons.mpr ⟨rfl, (List.forall_mem_cons.mpr ⟨rfl, zs_nil⟩)⟩)⟩) ?_
    exact zt_X18_point_J16 hX hr hR hd h
  · rw [if_neg c3] at h
    refine zw_iload_n hX dX18_point_6 rfl ?_
    refine zw_bipush (v := (10 : Int32)) hX dX18_point_7 (by decide) ?_
    refine zw_icmp_ge (tgt := 16) hX dX18_point_9 (by decide) (fun c9 => ?_) (fun c9 => ?_)
    · rw [if_pos c9] at h
      refine zw_sub (lv' := [(0, .ref a0), (1, .int i1), (2, .int i2)]) (List.forall_mem_cons.mpr ⟨rfl, (List.forall_mem_cons.mpr ⟨rfl, (List.forall_mem_cons.mpr ⟨rfl, zs_nil⟩)⟩)⟩) ?_
      exact zt_X18_point_J16 hX hr hR hd h
    · rw [if_neg c9] at h
      refine zw_iconst (v := (1 : Int32)) hX dX18_point_12 (by decide) ?_
      refine zw_goto (tgt := 17) hX dX18_point_13 (by decide) ?_
      refine zw_sub (lv' := [(0, .ref a0), (1, .int i1), (2, .int i2)]) (List.forall_mem_cons.mpr ⟨rfl, (List.forall_mem_cons.mpr ⟨rfl, (List.forall_mem_cons.mpr ⟨rfl, zs_nil⟩)⟩)⟩) ?_
      exact zt_X18_point_J17 hX hr hR hd h
set_option maxHeartbeats 4000000 in
set_option maxRecDepth 100000 in
theorem zt_X18_pointAt {l : Launch} {V : zm_V} {N : Nat} {S : zm_S} {out : (Int32 × zm_S)} {d : Nat} {a0 : Nat} {i1 : Int32} (hd : 2 ≤ d) (h : zf_X18_pointAt N a0 i1 S = some out) : zm_Met l zk_E V yX18_pointAt (.code yX18_pointAt cX18_pointAt 2 (some .int)) d [.ref a0, .int i1] S 0 0 (zo_i out) zo_x := by
  refine zm_of (by decide +kernel) (Nat.le_of_ble_eq_true rfl) ?_
  intro p e R s m args below meth c hRR hX hr hxt
  have hR : R.frames = d ∧ R.locals = 64 * d := by rw [hRR]; exact ⟨rfl, rfl⟩
  have hX : zm_X p R s m args meth c RX18 "pointAt" cX18_pointAt 2 zk_E V 0 0 := hX
  unfold zf_X18_pointAt at h
  refine zw_sub (lv' := [(0, .ref a0), (1, .int i1)]) (List.forall_mem_cons.mpr ⟨rfl, (List.forall_mem_cons.mpr ⟨rfl, zs_nil⟩)⟩) ?_
  refine zw_aload_n hX dX18_pointAt_0 rfl ?_
  refine zw_iload_n hX dX18_pointAt_1 rfl ?_
  refine zw_bipush (v := (10 : Int32)) hX dX18_pointAt_2 (by decide) ?_
  obtain ⟨r2, g, h⟩ := zb_some h
  refine zc_Si (as := [.int i1, .int (10 : Int32)]) hX (zt_X18_isIn (d := d - 1) (by omega) g) zl_X18_207 dX18_pointAt_4 ⟨rfl, rfl, Nat.le_of_ble_eq_true rfl⟩ ⟨by omega, by omega⟩ ?_
  refine zw_aload_n hX dX18_pointAt_7 rfl ?_
  obtain ⟨v3, g, h⟩ := zb_some h
  refine zw_geti hX zl_X18_192 dX18_pointAt_8 g ?_
  obtain ⟨_, gi, h⟩ := zb_some h
  obtain ⟨r5, g, h⟩ := zb_some h
  refine zc_Vi (as := [.int r2.1, .int v3]) hX gi (zt_X18_goes (d := d - 1) (by omega) g) zl_X18_199 rfl dX18_pointAt_11 ⟨rfl, rfl, Nat.le_of_ble_eq_true rfl⟩ ⟨by omega, by omega⟩ ?_
  refine zw_if_eq (tgt := 29) hX dX18_pointAt_14 (by decide) (fun c14 => ?_) (fun c14 => ?_)
  · rw [if_pos c14] at h
    refine zw_iconst (v := (0 : Int32)) hX dX18_pointAt_29 (by decide) ?_
    obtain rfl := Option.some.inj h
    exact zw_iret hX hr dX18_pointAt_30 rfl ⟨rfl, rfl⟩
  · rw [if_neg c14] at h
    refine zw_aload_n hX dX18_pointAt_17 rfl ?_
    obtain ⟨b6, g, h⟩ := zb_some h
    refine zw_getr hX zl_X18_35 dX18_pointAt_18 g ?_
    obtain ⟨b7, g, h⟩ := zb_some h
    refine zw_getr hX zl_X18_474 dX18_pointAt_21 g ?_
    refine zw_iload_n hX dX18_pointAt_24 rfl ?_
    obtain ⟨v8, g, h⟩ := zb_some h
    refine zw_xi hX dX18_pointAt_25 g ?_
    refine zw_goto (tgt := 30) hX dX18_pointAt_26 (by decide) ?_
    obtain rfl := Option.some.inj h
    exact zw_iret hX hr dX18_pointAt_30 rfl ⟨rfl, rfl⟩
set_option maxHeartbeats 4000000 in
set_option maxRecDepth 100000 in
theorem zt_X18_order {l : Launch} {V : zm_V} {N : Nat} {S : zm_S} {out : (Int32 × zm_S)} {d : Nat} {a0 : Nat} (hd : 4 ≤ d) (h : zf_X18_order N a0 S = some out) : zm_Met l zk_E V yX18_order (.code yX18_order cX18_order 1 (some .int)) d [.ref a0] S 0 0 (zo_i out) zo_x := by
  refine zm_of (by decide +kernel) (Nat.le_of_ble_eq_true rfl) ?_
  intro p e R s m args below meth c hRR hX hr hxt
  have hR : R.frames = d ∧ R.locals = 64 * d := by rw [hRR]; exact ⟨rfl, rfl⟩
  have hX : zm_X p R s m args meth c RX18 "order" cX18_order 1 zk_E V 0 0 := hX
  unfold zf_X18_order at h
  refine zw_sub (lv' := [(0, .ref a0)]) (List.forall_mem_cons.mpr ⟨rfl, zs_nil⟩) ?_
  refine zw_aload_n hX dX18_order_0 rfl ?_
  refine zw_aload_n hX dX18_order_1 rfl ?_
  obtain ⟨v1, g, h⟩ := zb_some h
  refine zw_geti hX zl_X18_192 dX18_order_2 g ?_
  obtain ⟨_, gi, h⟩ := zb_some h
  obtain ⟨r3, g, h⟩ := zb_some h
  refine zc_Vi (as := [.int v1]) hX gi (zt_X18_stays (d := d - 1) (by omega) g) zl_X18_230 rfl dX18_order_5 ⟨rfl, rfl, Nat.le_of_ble_eq_true rfl⟩ ⟨by omega, by omega⟩ ?_
  refine zw_if_eq (tgt := 21) hX dX18_order_8 (by decide) (fun c8 => ?_) (fun c8 => ?_)
  · rw [if_pos c8] at h
    refine zw_iconst (v := (0 : Int32)) hX dX18_order_21 (by decide) ?_
    obtain rfl := Option.some.inj h
    exact zw_iret hX hr dX18_order_22 rfl ⟨rfl, rfl⟩
  · rw [if_neg c8] at h
    refine zw_aload_n hX dX18_order_11 rfl ?_
    obtain ⟨b4, g, h⟩ := zb_some h
    refine zw_getr hX zl_X18_35 dX18_order_12 g ?_
    obtain ⟨_, gi, h⟩ := zb_some h
    obtain ⟨r6, g, h⟩ := zb_some h
    refine zc_Vi (as := []) hX gi (zt_X17_sort (d := d - 1) (by omega) g) zl_X18_544 rfl dX18_order_15 ⟨rfl, rfl, Nat.le_of_ble_eq_true rfl⟩ ⟨by omega, by omega⟩ ?_
    refine zw_goto (tgt := 22) hX dX18_order_18 (by decide) ?_
    obtain rfl := Option.some.inj h
    exact zw_iret hX hr dX18_order_22 rfl ⟨rfl, rfl⟩
set_option maxHeartbeats 4000000 in
set_option maxRecDepth 100000 in
theorem zt_X18_out_J28 {p : Program} {l : Launch} {e : Env} {R : Room} {s : State} {m : MethodId} {args : Array Value} {below : List Frame} {meth : Method} {c : Code} {V : zm_V} {mc ms d rc rs : Nat} (hX : zm_X p R s m args meth c RX18 "out" cX18_out 3 zk_E V mc ms) (hr : meth.sig.returnType = (some .int)) (hR : R.frames = d ∧ R.locals = 64 * d) (hd : 5 ≤ d) {N : Nat} {a0 : Nat} {i1 : Int32} {i2 : Int32} {t0 : Nat} {t1 : Int32} {out : (Int32 × zm_S)} {S : zm_S} (h : zf_X18_out_J28 N a0 i1 i2 t0 t1 S = some out) : zw p l e R s m args below meth c (vx_MQ below (zm_Qc zk_E V (zo_i out)) (zm_XC zk_E V zo_x) args s mc ms (fun q => V.2.2.2.1 ≤ q)) 3 zk_E V mc ms 28 [(0, .ref a0), (1, .int i1), (2, .int i2)] [.int t1, .ref t0] S rc rs := by
  unfold zf_X18_out_J28 at h
  refine zw_aload_n hX dX18_out_28 rfl ?_
  obtain ⟨v5, g, h⟩ := zb_some h
  refine zw_geti hX zl_X18_192 dX18_out_29 g ?_
  obtain ⟨_, gi, h⟩ := zb_some h
  obtain ⟨r7, g, h⟩ := zb_some h
  refine zc_Vi (as := [.int t1, .int v5]) hX gi (zt_X18_goes (d := d - 1) (by omega) g) zl_X18_199 rfl dX18_out_32 ⟨rfl, rfl, Nat.le_of_ble_eq_true rfl⟩ ⟨by omega, by omega⟩ ?_
  refine zw_if_ne (tgt := 40) hX dX18_out_35 (by decide) (fun c35 => ?_) (fun c35 => ?_)
  · rw [if_neg c35] at h
    refine zw_iload_n hX dX18_out_40 rfl ?_
    refine zw_if_ne (tgt := 56) hX dX18_out_41 (by decide) (fun c41 => ?_) (fun c41 => ?_)
    · rw [if_neg c41] at h
      refine zw_iload_n hX dX18_out_56 rfl ?_
      refine zw_iconst (v := (1 : Int32)) hX dX18_out_57 (by decide) ?_
      refine zw_icmp_ne (tgt := 73) hX dX18_out_58 (by decide) (fun c58 => ?_) (fun c58 => ?_)
      · rw [if_neg c58] at h
        refine zw_iload_n hX dX18_out_73 rfl ?_
        refine zw_iconst (v := (2 : Int32)) hX dX18_out_74 (by decide) ?_
        refine zw_icmp_ne (tgt := 90) hX dX18_out_75 (by decide) (fun c75 => ?_) (fun c75 => ?_)
        · rw [if_neg c75] at h
          refine zw_aload_n hX dX18_out_90 rfl ?_
          obtain ⟨b8, g, h⟩ := zb_some h
          refine zw_getr hX zl_X18_35 dX18_out_91 g ?_
          refine zw_iload_n hX dX18_out_94 rfl ?_
          obtain ⟨_, gi, h⟩ := zb_some h
          obtain ⟨r10, g, h⟩ := zb_some h
          refine zc_Vi (as := [.int i1]) hX gi (zt_X17_place (d := d - 1) (by omega) g) zl_X18_556 rfl dX18_out_95 ⟨rfl, rfl, Nat.le_of_ble_eq_true rfl⟩ ⟨by omega, by omega⟩ ?_
          obtain rfl := Option.some.inj h
          exact zw_iret hX hr dX18_out_98 rfl ⟨rfl, rfl⟩
        · rw [if_pos c75] at h
          refine zw_aload_n hX dX18_out_78 rfl ?_
          obtain ⟨b11, g, h⟩ := zb_some h
          refine zw_getr hX zl_X18_35 dX18_out_79 g ?_
          obtain ⟨b12, g, h⟩ := zb_some h
          refine zw_getr hX zl_X18_553 dX18_out_82 g ?_
          refine zw_iload_n hX dX18_out_85 rfl ?_
          obtain ⟨v13, g, h⟩ := zb_some h
          refine zw_xi hX dX18_out_86 g ?_
          refine zw_goto (tgt := 98) hX dX18_out_87 (by decide) ?_
          obtain rfl := Option.some.inj h
          exact zw_iret hX hr dX18_out_98 rfl ⟨rfl, rfl⟩
      · rw [if_pos c58] at h
        refine zw_aload_n hX dX18_out_61 rfl ?_
        obtain ⟨b14, g, h⟩ := zb_some h
        refine zw_getr hX zl_X18_35 dX18_out_62 g ?_
        obtain ⟨b15, g, h⟩ := zb_some h
        refine zw_getr hX zl_X18_550 dX18_out_65 g ?_
        refine zw_iload_n hX dX18_out_68 rfl ?_
        obtain ⟨v16, g, h⟩ := zb_some h
        refine zw_xi hX dX18_out_69 g ?_
        refine zw_goto (tgt := 98) hX dX18_out_70 (by decide) ?_
        obtain rfl := Option.some.inj h
        exact zw_iret hX hr dX18_out_98 rfl ⟨rfl, rfl⟩
    · rw [if_pos c41] at h
      refine zw_aload_n hX dX18_out_44 rfl ?_
      obtain ⟨b17, g, h⟩ := zb_some h
      refine zw_getr hX zl_X18_35 dX18_out_45 g ?_
      obtain ⟨b18, g, h⟩ := zb_some h
      refine zw_getr hX zl_X18_547 dX18_out_48 g ?_
      refine zw_iload_n hX dX18_out_51 rfl ?_
      obtain ⟨v19, g, h⟩ := zb_some h
      refine zw_xi hX dX18_out_52 g ?_
      refine zw_goto (tgt := 98) hX dX18_out_53 (by decide) ?_
      obtain rfl := Option.some.inj h
      exact zw_iret hX hr dX18_out_98 rfl ⟨rfl, rfl⟩
  · rw [if_pos c35] at h
    refine zw_iconst (v := (0 : Int32)) hX dX18_out_38 (by decide) ?_
    obtain rfl := Option.some.inj h
    exact zw_iret hX hr dX18_out_39 rfl ⟨rfl, rfl⟩
set_option maxHeartbeats 4000000 in
set_option maxRecDepth 100000 in
theorem zt_X18_out_J27 {p : Program} {l : Launch} {e : Env} {R : Room} {s : State} {m : MethodId} {args : Array Value} {below : List Frame} {meth : Method} {c : Code} {V : zm_V} {mc ms d rc rs : Nat} (hX : zm_X p R s m args meth c RX18 "out" cX18_out 3 zk_E V mc ms) (hr : meth.sig.returnType = (some .int)) (hR : R.frames = d ∧ R.locals = 64 * d) (hd : 5 ≤ d) {N : Nat} {a0 : Nat} {i1 : Int32} {i2 : Int32} {t0 : Nat} {out : (Int32 × zm_S)} {S : zm_S} (h : zf_X18_out_J27 N a0 i1 i2 t0 S = some out) : zw p l e R s m args below meth c (vx_MQ below (zm_Qc zk_E V (zo_i out)) (zm_XC zk_E V zo_x) args s mc ms (fun q => V.2.2.2.1 ≤ q)) 3 zk_E V mc ms 27 [(0, .ref a0), (1, .int i1), (2, .int i2)] [.ref t0] S rc rs := by
  unfold zf_X18_out_J27 at h
  refine zw_iconst (v := (0 : Int32)) hX dX18_out_27 (by decide) ?_
  refine zw_sub (lv' := [(0, .ref a0), (1, .int i1), (2, .int i2)]) (List.forall_mem_cons.mpr ⟨rfl, (List.forall_mem_cons.mpr ⟨rfl, (List.forall_mem_cons.mpr ⟨rfl, zs_nil⟩)⟩)⟩) ?_
  exact zt_X18_out_J28 hX hr hR hd h
set_option maxHeartbeats 4000000 in
set_option maxRecDepth 100000 in
theorem zt_X18_out {l : Launch} {V : zm_V} {N : Nat} {S : zm_S} {out : (Int32 × zm_S)} {d : Nat} {a0 : Nat} {i1 : Int32} {i2 : Int32} (hd : 5 ≤ d) (h : zf_X18_out N a0 i1 i2 S = some out) : zm_Met l zk_E V yX18_out (.code yX18_out cX18_out 3 (some .int)) d [.ref a0, .int i1, .int i2] S 0 0 (zo_i out) zo_x := by
  refine zm_of (by decide +kernel) (Nat.le_of_ble_eq_true rfl) ?_
  intro p e R s m args below meth c hRR hX hr hxt
  have hR : R.frames = d ∧ R.locals = 64 * d := by rw [hRR]; exact ⟨rfl, rfl⟩
  have hX : zm_X p R s m args meth c RX18 "out" cX18_out 3 zk_E V 0 0 := hX
  unfold zf_X18_out at h
  refine zw_sub (lv' := [(0, .ref a0), (1, .int i1), (2, .int i2)]) (List.forall_mem_cons.mpr ⟨rfl, (List.forall_mem_cons.mpr ⟨rfl, (List.forall_mem_cons.mpr ⟨rfl, zs_nil⟩)⟩)⟩) ?_
  refine zw_aload_n hX dX18_out_0 rfl ?_
  refine zw_iload_n hX dX18_out_1 rfl ?_
  refine zw_aload_n hX dX18_out_2 rfl ?_
  obtain ⟨b1, g, h⟩ := zb_some h
  refine zw_getr hX zl_X18_35 dX18_out_3 g ?_
  obtain ⟨v2, g, h⟩ := zb_some h
  refine zw_geti hX zl_X18_513 dX18_out_6 g ?_
  obtain ⟨r4, g, h⟩ := zb_some h
  refine zc_Si (as := [.int i1, .int v2]) hX (zt_X18_isIn (d := d - 1) (by omega) g) zl_X18_207 dX18_out_9 ⟨rfl, rfl, Nat.le_of_ble_eq_true rfl⟩ ⟨by omega, by omega⟩ ?_
  refine zw_if_eq (tgt := 27) hX dX18_out_12 (by decide) (fun c12 => ?_) (fun c12 => ?_)
  · rw [if_pos c12] at h
    refine zw_sub (lv' := [(0, .ref a0), (1, .int i1), (2, .int i2)]) (List.forall_mem_cons.mpr ⟨rfl, (List.forall_mem_cons.mpr ⟨rfl, (List.forall_mem_cons.mpr ⟨rfl, zs_nil⟩)⟩)⟩) ?_
    exact zt_X18_out_J27 hX hr hR hd h
  · rw [if_neg c12] at h
    refine zw_iload_n hX dX18_out_15 rfl ?_
    refine zw_iconst (v := (4 : Int32)) hX dX18_out_16 (by decide) ?_
    obtain ⟨r21, g, h⟩ := zb_some h
    refine zc_Si (as := [.int i2, .int (4 : Int32)]) hX (zt_X18_isIn (d := d - 1) (by omega) g) zl_X18_207 dX18_out_17 ⟨rfl, rfl, Nat.le_of_ble_eq_true rfl⟩ ⟨by omega, by omega⟩ ?_
    refine zw_if_eq (tgt := 27) hX dX18_out_20 (by decide) (fun c20 => ?_) (fun c20 => ?_)
    · rw [if_pos c20] at h
      refine zw_sub (lv' := [(0, .ref a0), (1, .int i1), (2, .int i2)]) (List.forall_mem_cons.mpr ⟨rfl, (List.forall_mem_cons.mpr ⟨rfl, (List.forall_mem_cons.mpr ⟨rfl, zs_nil⟩)⟩)⟩) ?_
      exact zt_X18_out_J27 hX hr hR hd h
    · rw [if_neg c20] at h
      refine zw_iconst (v := (1 : Int32)) hX dX18_out_23 (by decide) ?_
      refine zw_goto (tgt := 28) hX dX18_out_24 (by decide) ?_
      refine zw_sub (lv' := [(0, .ref a0), (1, .int i1), (2, .int i2)]) (List.forall_mem_cons.mpr ⟨rfl, (List.forall_mem_cons.mpr ⟨rfl, (List.forall_mem_cons.mpr ⟨rfl, zs_nil⟩)⟩)⟩) ?_
      exact zt_X18_out_J28 hX hr hR hd h
set_option maxHeartbeats 4000000 in
set_option maxRecDepth 100000 in
theorem zt_X18_failed {l : Launch} {V : zm_V} {N : Nat} {S : zm_S} {out : (Int32 × zm_S)} {d : Nat} {a0 : Nat} {i1 : Int32} (hd : 2 ≤ d) (h : zf_X18_failed N a0 i1 S = some out) : zm_Met l zk_E V yX18_failed (.code yX18_failed cX18_failed 2 (some .int)) d [.ref a0, .int i1] S 0 0 (zo_i out) zo_x := by
  refine zm_of (by decide +kernel) (Nat.le_of_ble_eq_true rfl) ?_
  intro p e R s m args below meth c hRR hX hr hxt
  have hR : R.frames = d ∧ R.locals = 64 * d := by rw [hRR]; exact ⟨rfl, rfl⟩
  have hX : zm_X p R s m args meth c RX18 "failed" cX18_failed 2 zk_E V 0 0 := hX
  unfold zf_X18_failed at h
  refine zw_sub (lv' := [(0, .ref a0), (1, .int i1)]) (List.forall_mem_cons.mpr ⟨rfl, (List.forall_mem_cons.mpr ⟨rfl, zs_nil⟩)⟩) ?_
  refine zw_aload_n hX dX18_failed_0 rfl ?_
  refine zw_iload_n hX dX18_failed_1 rfl ?_
  refine zw_iconst (v := (4 : Int32)) hX dX18_failed_2 (by decide) ?_
  obtain ⟨r2, g, h⟩ := zb_some h
  refine zc_Si (as := [.int i1, .int (4 : Int32)]) hX (zt_X18_isIn (d := d - 1) (by omega) g) zl_X18_207 dX18_failed_3 ⟨rfl, rfl, Nat.le_of_ble_eq_true rfl⟩ ⟨by omega, by omega⟩ ?_
  refine zw_aload_n hX dX18_failed_6 rfl ?_
  obtain ⟨v3, g, h⟩ := zb_some h
  refine zw_geti hX zl_X18_192 dX18_failed_7 g ?_
  obtain ⟨_, gi, h⟩ := zb_some h
  obtain ⟨r5, g, h⟩ := zb_some h
  refine zc_Vi (as := [.int r2.1, .int v3]) hX gi (zt_X18_goes (d := d - 1) (by omega) g) zl_X18_199 rfl dX18_failed_10 ⟨rfl, rfl, Nat.le_of_ble_eq_true rfl⟩ ⟨by omega, by omega⟩ ?_
  refine zw_if_eq (tgt := 28) hX dX18_failed_13 (by decide) (fun c13 => ?_) (fun c13 => ?_)
  · rw [if_pos c13] at h
    refine zw_iconst (v := (0 : Int32)) hX dX18_failed_28 (by decide) ?_
    obtain rfl := Option.some.inj h
    exact zw_iret hX hr dX18_failed_29 rfl ⟨rfl, rfl⟩
  · rw [if_neg c13] at h
    refine zw_aload_n hX dX18_failed_16 rfl ?_
    obtain ⟨b6, g, h⟩ := zb_some h
    refine zw_getr hX zl_X18_35 dX18_failed_17 g ?_
    obtain ⟨b7, g, h⟩ := zb_some h
    refine zw_getr hX zl_X18_559 dX18_failed_20 g ?_
    refine zw_iload_n hX dX18_failed_23 rfl ?_
    obtain ⟨v8, g, h⟩ := zb_some h
    refine zw_xi hX dX18_failed_24 g ?_
    refine zw_goto (tgt := 29) hX dX18_failed_25 (by decide) ?_
    obtain rfl := Option.some.inj h
    exact zw_iret hX hr dX18_failed_29 rfl ⟨rfl, rfl⟩
set_option maxHeartbeats 4000000 in
set_option maxRecDepth 100000 in
theorem zt_X18_address_J25 {p : Program} {l : Launch} {e : Env} {R : Room} {s : State} {m : MethodId} {args : Array Value} {below : List Frame} {meth : Method} {c : Code} {V : zm_V} {mc ms d rc rs : Nat} (hX : zm_X p R s m args meth c RX18 "address" cX18_address 4 zk_E V mc ms) (hr : meth.sig.returnType = (some .int)) (hR : R.frames = d ∧ R.locals = 64 * d) (hd : 2 ≤ d) {N : Nat} {a0 : Nat} {i1 : Int32} {i2 : Int32} {t0 : Nat} {t1 : Int32} {out : (Int32 × zm_S)} {S : zm_S} (h : zf_X18_address_J25 N a0 i1 i2 t0 t1 S = some out) : zw p l e R s m args below meth c (vx_MQ below (zm_Qc zk_E V (zo_i out)) (zm_XC zk_E V zo_x) args s mc ms (fun q => V.2.2.2.1 ≤ q)) 4 zk_E V mc ms 25 [(0, .ref a0), (1, .int i1), (2, .int i2)] [.int t1, .ref t0] S rc rs := by
  unfold zf_X18_address_J25 at h
  refine zw_aload_n hX dX18_address_25 rfl ?_
  obtain ⟨v3, g, h⟩ := zb_some h
  refine zw_geti hX zl_X18_192 dX18_address_26 g ?_
  obtain ⟨_, gi, h⟩ := zb_some h
  obtain ⟨r5, g, h⟩ := zb_some h
  refine zc_Vi (as := [.int t1, .int v3]) hX gi (zt_X18_goes (d := d - 1) (by omega) g) zl_X18_199 rfl dX18_address_29 ⟨rfl, rfl, Nat.le_of_ble_eq_true rfl⟩ ⟨by omega, by omega⟩ ?_
  refine zw_if_ne (tgt := 37) hX dX18_address_32 (by decide) (fun c32 => ?_) (fun c32 => ?_)
  · rw [if_neg c32] at h
    refine zw_aload_n hX dX18_address_37 rfl ?_
    obtain ⟨b6, g, h⟩ := zb_some h
    refine zw_getr hX zl_X18_42 dX18_address_38 g ?_
    obtain ⟨b7, g, h⟩ := zb_some h
    refine zw_getr hX zl_X18_563 dX18_address_41 g ?_
    refine zw_iload_n hX dX18_address_44 rfl ?_
    obtain ⟨v8, g, h⟩ := zb_some h
    refine zw_xi hX dX18_address_45 g ?_
    refine zw_istore_n hX dX18_address_46 (by decide) ?_
    refine zw_aload_n hX dX18_address_47 rfl ?_
    obtain ⟨b9, g, h⟩ := zb_some h
    refine zw_getr hX zl_X18_42 dX18_address_48 g ?_
    obtain ⟨b10, g, h⟩ := zb_some h
    refine zw_getr hX zl_X18_563 dX18_address_51 g ?_
    refine zw_iload_n hX dX18_address_54 rfl ?_
    refine zw_iload_n hX dX18_address_55 rfl ?_
    obtain ⟨S11, g, h⟩ := zb_some h
    refine zw_si hX dX18_address_56 g ?_
    refine zw_iload_n hX dX18_address_57 rfl ?_
    obtain rfl := Option.some.inj h
    exact zw_iret hX hr dX18_address_58 rfl ⟨rfl, rfl⟩
  · rw [if_pos c32] at h
    refine zw_iconst (v := (0 : Int32)) hX dX18_address_35 (by decide) ?_
    obtain rfl := Option.some.inj h
    exact zw_iret hX hr dX18_address_36 rfl ⟨rfl, rfl⟩
set_option maxHeartbeats 4000000 in
set_option maxRecDepth 100000 in
theorem zt_X18_address_J24 {p : Program} {l : Launch} {e : Env} {R : Room} {s : State} {m : MethodId} {args : Array Value} {below : List Frame} {meth : Method} {c : Code} {V : zm_V} {mc ms d rc rs : Nat} (hX : zm_X p R s m args meth c RX18 "address" cX18_address 4 zk_E V mc ms) (hr : meth.sig.returnType = (some .int)) (hR : R.frames = d ∧ R.locals = 64 * d) (hd : 2 ≤ d) {N : Nat} {a0 : Nat} {i1 : Int32} {i2 : Int32} {t0 : Nat} {out : (Int32 × zm_S)} {S : zm_S} (h : zf_X18_address_J24 N a0 i1 i2 t0 S = some out) : zw p l e R s m args below meth c (vx_MQ below (zm_Qc zk_E V (zo_i out)) (zm_XC zk_E V zo_x) args s mc ms (fun q => V.2.2.2.1 ≤ q)) 4 zk_E V mc ms 24 [(0, .ref a0), (1, .int i1), (2, .int i2)] [.ref t0] S rc rs := by
  unfold zf_X18_address_J24 at h
  refine zw_iconst (v := (0 : Int32)) hX dX18_address_24 (by decide) ?_
  refine zw_sub (lv' := [(0, .ref a0), (1, .int i1), (2, .int i2)]) (List.forall_mem_cons.mpr ⟨rfl, (List.forall_mem_cons.mpr ⟨rfl, (List.forall_mem_cons.mpr ⟨rfl, zs_nil⟩)⟩)⟩) ?_
  exact zt_X18_address_J25 hX hr hR hd h
set_option maxHeartbeats 4000000 in
set_option maxRecDepth 100000 in
theorem zt_X18_address {l : Launch} {V : zm_V} {N : Nat} {S : zm_S} {out : (Int32 × zm_S)} {d : Nat} {a0 : Nat} {i1 : Int32} {i2 : Int32} (hd : 2 ≤ d) (h : zf_X18_address N a0 i1 i2 S = some out) : zm_Met l zk_E V yX18_address (.code yX18_address cX18_address 4 (some .int)) d [.ref a0, .int i1, .int i2] S 0 0 (zo_i out) zo_x := by
  refine zm_of (by decide +kernel) (Nat.le_of_ble_eq_true rfl) ?_
  intro p e R s m args below meth c hRR hX hr hxt
  have hR : R.frames = d ∧ R.locals = 64 * d := by rw [hRR]; exact ⟨rfl, rfl⟩
  have hX : zm_X p R s m args meth c RX18 "address" cX18_address 4 zk_E V 0 0 := hX
  unfold zf_X18_address at h
  refine zw_sub (lv' := [(0, .ref a0), (1, .int i1), (2, .int i2)]) (List.forall_mem_cons.mpr ⟨rfl, (List.forall_mem_cons.mpr ⟨rfl, (List.forall_mem_cons.mpr ⟨rfl, zs_nil⟩)⟩)⟩) ?_
  refine zw_aload_n hX dX18_address_0 rfl ?_
  refine zw_iload_n hX dX18_address_1 rfl ?_
  refine zw_bipush (v := (8 : Int32)) hX dX18_address_2 (by decide) ?_
  obtain ⟨r2, g, h⟩ := zb_some h
  refine zc_Si (as := [.int i1, .int (8 : Int32)]) hX (zt_X18_isIn (d := d - 1) (by omega) g) zl_X18_207 dX18_address_4 ⟨rfl, rfl, Nat.le_of_ble_eq_true rfl⟩ ⟨by omega, by omega⟩ ?_
  refine zw_if_eq (tgt := 24) hX dX18_address_7 (by decide) (fun c7 => ?_) (fun c7 => ?_)
  · rw [if_pos c7] at h
    refine zw_sub (lv' := [(0, .ref a0), (1, .int i1), (2, .int i2)]) (List.forall_mem_cons.mpr ⟨rfl, (List.forall_mem_cons.mpr ⟨rfl, (List.forall_mem_cons.mpr ⟨rfl, zs_nil⟩)⟩)⟩) ?_
    exact zt_X18_address_J24 hX hr hR hd h
  · rw [if_neg c7] at h
    refine zw_iload_n hX dX18_address_10 rfl ?_
    refine zw_ldcw (v := (65536 : Int32)) hX dX18_address_11 zl_X18_562 ?_
    obtain ⟨r13, g, h⟩ := zb_some h
    refine zc_Si (as := [.int i2, .int (65536 : Int32)]) hX (zt_X18_isIn (d := d - 1) (by omega) g) zl_X18_207 dX18_address_14 ⟨rfl, rfl, Nat.le_of_ble_eq_true rfl⟩ ⟨by omega, by omega⟩ ?_
    refine zw_if_eq (tgt := 24) hX dX18_address_17 (by decide) (fun c17 => ?_) (fun c17 => ?_)
    · rw [if_pos c17] at h
      refine zw_sub (lv' := [(0, .ref a0), (1, .int i1), (2, .int i2)]) (List.forall_mem_cons.mpr ⟨rfl, (List.forall_mem_cons.mpr ⟨rfl, (List.forall_mem_cons.mpr ⟨rfl, zs_nil⟩)⟩)⟩) ?_
      exact zt_X18_address_J24 hX hr hR hd h
    · rw [if_neg c17] at h
      refine zw_iconst (v := (1 : Int32)) hX dX18_address_20 (by decide) ?_
      refine zw_goto (tgt := 25) hX dX18_address_21 (by decide) ?_
      refine zw_sub (lv' := [(0, .ref a0), (1, .int i1), (2, .int i2)]) (List.forall_mem_cons.mpr ⟨rfl, (List.forall_mem_cons.mpr ⟨rfl, (List.forall_mem_cons.mpr ⟨rfl, zs_nil⟩)⟩)⟩) ?_
      exact zt_X18_address_J25 hX hr hR hd h
set_option maxHeartbeats 4000000 in
set_option maxRecDepth 100000 in
theorem zt_X18_listen_J25 {p : Program} {l : Launch} {e : Env} {R : Room} {s : State} {m : MethodId} {args : Array Value} {below : List Frame} {meth : Method} {c : Code} {V : zm_V} {mc ms d rc rs : Nat} (hX : zm_X p R s m args meth c RX18 "listen" cX18_listen 5 zk_E V mc ms) (hr : meth.sig.returnType = (some .boolean)) (hR : R.frames = d ∧ R.locals = 64 * d) (hd : 2 ≤ d) {N : Nat} {a0 : Nat} {i1 : Int32} {i2 : Int32} {i3 : Int32} {t0 : Nat} {t1 : Int32} {out : (Int32 × zm_S)} {S : zm_S} (h : zf_X18_listen_J25 N a0 i1 i2 i3 t0 t1 S = some out) : zw p l e R s m args below meth c (vx_MQ below (zm_Qc zk_E V (zo_i out)) (zm_XC zk_E V zo_x) args s mc ms (fun q => V.2.2.2.1 ≤ q)) 5 zk_E V mc ms 25 [(0, .ref a0), (1, .int i1), (2, .int i2), (3, .int i3)] [.int t1, .ref t0] S rc rs := by
  unfold zf_X18_listen_J25 at h
  refine zw_aload_n hX dX18_listen_25 rfl ?_
  obtain ⟨v3, g, h⟩ := zb_some h
  refine zw_geti hX zl_X18_192 dX18_listen_26 g ?_
  obtain ⟨_, gi, h⟩ := zb_some h
  obtain ⟨r5, g, h⟩ := zb_some h
  refine zc_Vi (as := [.int t1, .int v3]) hX gi (zt_X18_goes (d := d - 1) (by omega) g) zl_X18_199 rfl dX18_listen_29 ⟨rfl, rfl, Nat.le_of_ble_eq_true rfl⟩ ⟨by omega, by omega⟩ ?_
  refine zw_if_ne (tgt := 37) hX dX18_listen_32 (by decide) (fun c32 => ?_) (fun c32 => ?_)
  · rw [if_neg c32] at h
    refine zw_aload_n hX dX18_listen_37 rfl ?_
    obtain ⟨b6, g, h⟩ := zb_some h
    refine zw_getr hX zl_X18_42 dX18_listen_38 g ?_
    obtain ⟨b7, g, h⟩ := zb_some h
    refine zw_getr hX zl_X18_566 dX18_listen_41 g ?_
    refine zw_sipush (v := (256 : Int32)) hX dX18_listen_44 (by decide) ?_
    refine zw_iload_n hX dX18_listen_47 rfl ?_
    refine zw_imul hX dX18_listen_48 ?_
    refine zw_iload_n hX dX18_listen_49 rfl ?_
    refine zw_iadd hX dX18_listen_50 ?_
    obtain ⟨v8, g, h⟩ := zb_some h
    refine zw_xz hX dX18_listen_51 g ?_
    refine zw_istore hX dX18_listen_52 (by decide) ?_
    refine zw_aload_n hX dX18_listen_54 rfl ?_
    obtain ⟨b9, g, h⟩ := zb_some h
    refine zw_getr hX zl_X18_42 dX18_listen_55 g ?_
    obtain ⟨b10, g, h⟩ := zb_some h
    refine zw_getr hX zl_X18_566 dX18_listen_58 g ?_
    refine zw_sipush (v := (256 : Int32)) hX dX18_listen_61 (by decide) ?_
    refine zw_iload_n hX dX18_listen_64 rfl ?_
    refine zw_imul hX dX18_listen_65 ?_
    refine zw_iload_n hX dX18_listen_66 rfl ?_
    refine zw_iadd hX dX18_listen_67 ?_
    refine zw_iload_n hX dX18_listen_68 rfl ?_
    obtain ⟨S11, g, h⟩ := zb_some h
    refine zw_sz hX dX18_listen_69 g ?_
    refine zw_iload hX dX18_listen_70 rfl ?_
    by_cases cz : v8 = 0 ∨ v8 = 1
    · rw [if_pos cz] at h
      obtain rfl := Option.some.inj h
      exact zw_iret hX hr dX18_listen_72 (zn_z cz) ⟨rfl, rfl⟩
    · rw [if_neg cz] at h
      cases h
  · rw [if_pos c32] at h
    refine zw_iconst (v := (0 : Int32)) hX dX18_listen_35 (by decide) ?_
    obtain rfl := Option.some.inj h
    exact zw_iret hX hr dX18_listen_36 rfl ⟨rfl, rfl⟩
set_option maxHeartbeats 4000000 in
set_option maxRecDepth 100000 in
theorem zt_X18_listen_J24 {p : Program} {l : Launch} {e : Env} {R : Room} {s : State} {m : MethodId} {args : Array Value} {below : List Frame} {meth : Method} {c : Code} {V : zm_V} {mc ms d rc rs : Nat} (hX : zm_X p R s m args meth c RX18 "listen" cX18_listen 5 zk_E V mc ms) (hr : meth.sig.returnType = (some .boolean)) (hR : R.frames = d ∧ R.locals = 64 * d) (hd : 2 ≤ d) {N : Nat} {a0 : Nat} {i1 : Int32} {i2 : Int32} {i3 : Int32} {t0 : Nat} {out : (Int32 × zm_S)} {S : zm_S} (h : zf_X18_listen_J24 N a0 i1 i2 i3 t0 S = some out) : zw p l e R s m args below meth c (vx_MQ below (zm_Qc zk_E V (zo_i out)) (zm_XC zk_E V zo_x) args s mc ms (fun q => V.2.2.2.1 ≤ q)) 5 zk_E V mc ms 24 [(0, .ref a0), (1, .int i1), (2, .int i2), (3, .int i3)] [.ref t0] S rc rs := by
  unfold zf_X18_listen_J24 at h
  refine zw_iconst (v := (0 : Int32)) hX dX18_listen_24 (by decide) ?_
  refine zw_sub (lv' := [(0, .ref a0), (1, .int i1), (2, .int i2), (3, .int i3)]) (List.forall_mem_cons.mpr ⟨rfl, (List.forall_mem_cons.mpr ⟨rfl, (List.forall_mem_cons.mpr ⟨rfl, (List.forall_mem_cons.mpr ⟨rfl, zs_nil⟩)⟩)⟩)⟩) ?_
  exact zt_X18_listen_J25 hX hr hR hd h
set_option maxHeartbeats 4000000 in
set_option maxRecDepth 100000 in
theorem zt_X18_listen {l : Launch} {V : zm_V} {N : Nat} {S : zm_S} {out : (Int32 × zm_S)} {d : Nat} {a0 : Nat} {i1 : Int32} {i2 : Int32} {i3 : Int32} (hd : 2 ≤ d) (h : zf_X18_listen N a0 i1 i2 i3 S = some out) : zm_Met l zk_E V yX18_listen (.code yX18_listen cX18_listen 5 (some .boolean)) d [.ref a0, .int i1, .int i2, .int i3] S 0 0 (zo_i out) zo_x := by
  refine zm_of (by decide +kernel) (Nat.le_of_ble_eq_true rfl) ?_
  intro p e R s m args below meth c hRR hX hr hxt
  have hR : R.frames = d ∧ R.locals = 64 * d := by rw [hRR]; exact ⟨rfl, rfl⟩
  have hX : zm_X p R s m args meth c RX18 "listen" cX18_listen 5 zk_E V 0 0 := hX
  unfold zf_X18_listen at h
  refine zw_sub (lv' := [(0, .ref a0), (1, .int i1), (2, .int i2), (3, .int i3)]) (List.forall_mem_cons.mpr ⟨rfl, (List.forall_mem_cons.mpr ⟨rfl, (List.forall_mem_cons.mpr ⟨rfl, (List.forall_mem_cons.mpr ⟨rfl, zs_nil⟩)⟩)⟩)⟩) ?_
  refine zw_aload_n hX dX18_listen_0 rfl ?_
  refine zw_iload_n hX dX18_listen_1 rfl ?_
  refine zw_bipush (v := (8 : Int32)) hX dX18_listen_2 (by decide) ?_
  obtain ⟨r2, g, h⟩ := zb_some h
  refine zc_Si (as := [.int i1, .int (8 : Int32)]) hX (zt_X18_isIn (d := d - 1) (by omega) g) zl_X18_207 dX18_listen_4 ⟨rfl, rfl, Nat.le_of_ble_eq_true rfl⟩ ⟨by omega, by omega⟩ ?_
  refine zw_if_eq (tgt := 24) hX dX18_listen_7 (by decide) (fun c7 => ?_) (fun c7 => ?_)
  · rw [if_pos c7] at h
    refine zw_sub (lv' := [(0, .ref a0), (1, .int i1), (2, .int i2), (3, .int i3)]) (List.forall_mem_cons.mpr ⟨rfl, (List.forall_mem_cons.mpr ⟨rfl, (List.forall_mem_cons.mpr ⟨rfl, (List.forall_mem_cons.mpr ⟨rfl, zs_nil⟩)⟩)⟩)⟩) ?_
    exact zt_X18_listen_J24 hX hr hR hd h
  · rw [if_neg c7] at h
    refine zw_iload_n hX dX18_listen_10 rfl ?_
    refine zw_sipush (v := (256 : Int32)) hX dX18_listen_11 (by decide) ?_
    obtain ⟨r13, g, h⟩ := zb_some h
    refine zc_Si (as := [.int i2, .int (256 : Int32)]) hX (zt_X18_isIn (d := d - 1) (by omega) g) zl_X18_207 dX18_listen_14 ⟨rfl, rfl, Nat.le_of_ble_eq_true rfl⟩ ⟨by omega, by omega⟩ ?_
    refine zw_if_eq (tgt := 24) hX dX18_listen_17 (by decide) (fun c17 => ?_) (fun c17 => ?_)
    · rw [if_pos c17] at h
      refine zw_sub (lv' := [(0, .ref a0), (1, .int i1), (2, .int i2), (3, .int i3)]) (List.forall_mem_cons.mpr ⟨rfl, (List.forall_mem_cons.mpr ⟨rfl, (List.forall_mem_cons.mpr ⟨rfl, (List.forall_mem_cons.mpr ⟨rfl, zs_nil⟩)⟩)⟩)⟩) ?_
      exact zt_X18_listen_J24 hX hr hR hd h
    · rw [if_neg c17] at h
      refine zw_iconst (v := (1 : Int32)) hX dX18_listen_20 (by decide) ?_
      refine zw_goto (tgt := 25) hX dX18_listen_21 (by decide) ?_
      refine zw_sub (lv' := [(0, .ref a0), (1, .int i1), (2, .int i2), (3, .int i3)]) (List.forall_mem_cons.mpr ⟨rfl, (List.forall_mem_cons.mpr ⟨rfl, (List.forall_mem_cons.mpr ⟨rfl, (List.forall_mem_cons.mpr ⟨rfl, zs_nil⟩)⟩)⟩)⟩) ?_
      exact zt_X18_listen_J25 hX hr hR hd h
set_option maxHeartbeats 4000000 in
set_option maxRecDepth 100000 in
theorem zt_X18_busy {l : Launch} {V : zm_V} {N : Nat} {S : zm_S} {out : (Int32 × zm_S)} {d : Nat} {a0 : Nat} {i1 : Int32} {i2 : Int32} (hd : 2 ≤ d) (h : zf_X18_busy N a0 i1 i2 S = some out) : zm_Met l zk_E V yX18_busy (.code yX18_busy cX18_busy 4 (some .boolean)) d [.ref a0, .int i1, .int i2] S 0 0 (zo_i out) zo_x := by
  refine zm_of (by decide +kernel) (Nat.le_of_ble_eq_true rfl) ?_
  intro p e R s m args below meth c hRR hX hr hxt
  have hR : R.frames = d ∧ R.locals = 64 * d := by rw [hRR]; exact ⟨rfl, rfl⟩
  have hX : zm_X p R s m args meth c RX18 "busy" cX18_busy 4 zk_E V 0 0 := hX
  unfold zf_X18_busy at h
  refine zw_sub (lv' := [(0, .ref a0), (1, .int i1), (2, .int i2)]) (List.forall_mem_cons.mpr ⟨rfl, (List.forall_mem_cons.mpr ⟨rfl, (List.forall_mem_cons.mpr ⟨rfl, zs_nil⟩)⟩)⟩) ?_
  refine zw_aload_n hX dX18_busy_0 rfl ?_
  refine zw_iload_n hX dX18_busy_1 rfl ?_
  refine zw_bipush (v := (8 : Int32)) hX dX18_busy_2 (by decide) ?_
  obtain ⟨r2, g, h⟩ := zb_some h
  refine zc_Si (as := [.int i1, .int (8 : Int32)]) hX (zt_X18_isIn (d := d - 1) (by omega) g) zl_X18_207 dX18_busy_4 ⟨rfl, rfl, Nat.le_of_ble_eq_true rfl⟩ ⟨by omega, by omega⟩ ?_
  refine zw_aload_n hX dX18_busy_7 rfl ?_
  obtain ⟨v3, g, h⟩ := zb_some h
  refine zw_geti hX zl_X18_192 dX18_busy_8 g ?_
  obtain ⟨_, gi, h⟩ := zb_some h
  obtain ⟨r5, g, h⟩ := zb_some h
  refine zc_Vi (as := [.int r2.1, .int v3]) hX gi (zt_X18_goes (d := d - 1) (by omega) g) zl_X18_199 rfl dX18_busy_11 ⟨rfl, rfl, Nat.le_of_ble_eq_true rfl⟩ ⟨by omega, by omega⟩ ?_
  refine zw_if_ne (tgt := 19) hX dX18_busy_14 (by decide) (fun c14 => ?_) (fun c14 => ?_)
  · rw [if_neg c14] at h
    refine zw_aload_n hX dX18_busy_19 rfl ?_
    obtain ⟨b6, g, h⟩ := zb_some h
    refine zw_getr hX zl_X18_42 dX18_busy_20 g ?_
    obtain ⟨b7, g, h⟩ := zb_some h
    refine zw_getr hX zl_X18_569 dX18_busy_23 g ?_
    refine zw_iload_n hX dX18_busy_26 rfl ?_
    obtain ⟨v8, g, h⟩ := zb_some h
    refine zw_xz hX dX18_busy_27 g ?_
    refine zw_istore_n hX dX18_busy_28 (by decide) ?_
    refine zw_aload_n hX dX18_busy_29 rfl ?_
    obtain ⟨b9, g, h⟩ := zb_some h
    refine zw_getr hX zl_X18_42 dX18_busy_30 g ?_
    obtain ⟨b10, g, h⟩ := zb_some h
    refine zw_getr hX zl_X18_569 dX18_busy_33 g ?_
    refine zw_iload_n hX dX18_busy_36 rfl ?_
    refine zw_iload_n hX dX18_busy_37 rfl ?_
    obtain ⟨S11, g, h⟩ := zb_some h
    refine zw_sz hX dX18_busy_38 g ?_
    refine zw_iload_n hX dX18_busy_39 rfl ?_
    by_cases cz : v8 = 0 ∨ v8 = 1
    · rw [if_pos cz] at h
      obtain rfl := Option.some.inj h
      exact zw_iret hX hr dX18_busy_40 (zn_z cz) ⟨rfl, rfl⟩
    · rw [if_neg cz] at h
      cases h
  · rw [if_pos c14] at h
    refine zw_iconst (v := (0 : Int32)) hX dX18_busy_17 (by decide) ?_
    obtain rfl := Option.some.inj h
    exact zw_iret hX hr dX18_busy_18 rfl ⟨rfl, rfl⟩
set_option maxHeartbeats 4000000 in
set_option maxRecDepth 100000 in
theorem zt_X18_send_J103 {p : Program} {l : Launch} {e : Env} {R : Room} {s : State} {m : MethodId} {args : Array Value} {below : List Frame} {meth : Method} {c : Code} {V : zm_V} {mc ms d rc rs : Nat} (hX : zm_X p R s m args meth c RX18 "send" cX18_send 8 zk_E V mc ms) (hr : meth.sig.returnType = (some .int)) (hR : R.frames = d ∧ R.locals = 64 * d) (hd : 3 ≤ d) {N : Nat} {a0 : Nat} {i1 : Int32} {i2 : Int32} {i3 : Int32} {i4 : Int32} {i5 : Int32} {i6 : Int32} {t0 : Nat} {t1 : Int32} {t2 : Int32} {out : (Int32 × zm_S)} {S : zm_S} (h : zf_X18_send_J103 N a0 i1 i2 i3 i4 i5 i6 t0 t1 t2 S = some out) : zw p l e R s m args below meth c (vx_MQ below (zm_Qc zk_E V (zo_i out)) (zm_XC zk_E V zo_x) args s mc ms (fun q => V.2.2.2.1 ≤ q)) 8 zk_E V mc ms 103 [(0, .ref a0), (1, .int i1), (2, .int i2), (3, .int i3), (4, .int i4), (5, .int i5), (6, .int i6)] [.int t2, .int t1, .ref t0] S rc rs := by
  unfold zf_X18_send_J103 at h
  obtain ⟨_, gi, h⟩ := zb_some h
  obtain ⟨r5, g, h⟩ := zb_some h
  refine zc_Vi (as := [.int t1, .int t2]) hX gi (zt_X18_goes (d := d - 1) (by omega) g) zl_X18_199 rfl dX18_send_103 ⟨rfl, rfl, Nat.le_of_ble_eq_true rfl⟩ ⟨by omega, by omega⟩ ?_
  refine zw_if_eq (tgt := 128) hX dX18_send_106 (by decide) (fun c106 => ?_) (fun c106 => ?_)
  · rw [if_pos c106] at h
    refine zw_iconst (v := (0 : Int32)) hX dX18_send_128 (by decide) ?_
    obtain rfl := Option.some.inj h
    exact zw_iret hX hr dX18_send_129 rfl ⟨rfl, rfl⟩
  · rw [if_neg c106] at h
    refine zw_aload_n hX dX18_send_109 rfl ?_
    obtain ⟨b6, g, h⟩ := zb_some h
    refine zw_getr hX zl_X18_42 dX18_send_110 g ?_
    refine zw_iload_n hX dX18_send_113 rfl ?_
    refine zw_iload_n hX dX18_send_114 rfl ?_
    refine zw_iload_n hX dX18_send_115 rfl ?_
    refine zw_iload hX dX18_send_116 rfl ?_
    refine zw_iload hX dX18_send_118 rfl ?_
    refine zw_iload hX dX18_send_120 rfl ?_
    obtain ⟨_, gi, h⟩ := zb_some h
    obtain ⟨r8, g, h⟩ := zb_some h
    refine zc_Vi (as := [.int i1, .int i2, .int i3, .int i4, .int i5, .int i6]) hX gi (zt_X12_send (d := d - 1) (by omega) g) zl_X18_470 rfl dX18_send_122 ⟨rfl, rfl, Nat.le_of_ble_eq_true rfl⟩ ⟨by omega, by omega⟩ ?_
    refine zw_goto (tgt := 129) hX dX18_send_125 (by decide) ?_
    obtain rfl := Option.some.inj h
    exact zw_iret hX hr dX18_send_129 rfl ⟨rfl, rfl⟩
set_option maxHeartbeats 4000000 in
set_option maxRecDepth 100000 in
theorem zt_X18_send_J102 {p : Program} {l : Launch} {e : Env} {R : Room} {s : State} {m : MethodId} {args : Array Value} {below : List Frame} {meth : Method} {c : Code} {V : zm_V} {mc ms d rc rs : Nat} (hX : zm_X p R s m args meth c RX18 "send" cX18_send 8 zk_E V mc ms) (hr : meth.sig.returnType = (some .int)) (hR : R.frames = d ∧ R.locals = 64 * d) (hd : 3 ≤ d) {N : Nat} {a0 : Nat} {i1 : Int32} {i2 : Int32} {i3 : Int32} {i4 : Int32} {i5 : Int32} {i6 : Int32} {t0 : Nat} {t1 : Int32} {out : (Int32 × zm_S)} {S : zm_S} (h : zf_X18_send_J102 N a0 i1 i2 i3 i4 i5 i6 t0 t1 S = some out) : zw p l e R s m args below meth c (vx_MQ below (zm_Qc zk_E V (zo_i out)) (zm_XC zk_E V zo_x) args s mc ms (fun q => V.2.2.2.1 ≤ q)) 8 zk_E V mc ms 102 [(0, .ref a0), (1, .int i1), (2, .int i2), (3, .int i3), (4, .int i4), (5, .int i5), (6, .int i6)] [.int t1, .ref t0] S rc rs := by
  unfold zf_X18_send_J102 at h
  refine zw_iconst (v := (0 : Int32)) hX dX18_send_102 (by decide) ?_
  refine zw_sub (lv' := [(0, .ref a0), (1, .int i1), (2, .int i2), (3, .int i3), (4, .int i4), (5, .int i5), (6, .int i6)]) (List.forall_mem_cons.mpr ⟨rfl, (List.forall_mem_cons.mpr ⟨rfl, (List.forall_mem_cons.mpr ⟨rfl, (List.forall_mem_cons.mpr ⟨rfl, (List.forall_mem_cons.mpr ⟨rfl, (List.forall_mem_cons.mpr ⟨rfl, (List.forall_mem_cons.mpr ⟨rfl, zs_nil⟩)⟩)⟩)⟩)⟩)⟩)⟩) ?_
  exact zt_X18_send_J103 hX hr hR hd h
set_option maxHeartbeats 4000000 in
set_option maxRecDepth 100000 in
theorem zt_X18_send_J98 {p : Program} {l : Launch} {e : Env} {R : Room} {s : State} {m : MethodId} {args : Array Value} {below : List Frame} {meth : Method} {c : Code} {V : zm_V} {mc ms d rc rs : Nat} (hX : zm_X p R s m args meth c RX18 "send" cX18_send 8 zk_E V mc ms) (hr : meth.sig.returnType = (some .int)) (hR : R.frames = d ∧ R.locals = 64 * d) (hd : 3 ≤ d) {N : Nat} {a0 : Nat} {i1 : Int32} {i2 : Int32} {i3 : Int32} {i4 : Int32} {i5 : Int32} {i6 : Int32} {t0 : Nat} {t1 : Int32} {out : (Int32 × zm_S)} {S : zm_S} (h : zf_X18_send_J98 N a0 i1 i2 i3 i4 i5 i6 t0 t1 S = some out) : zw p l e R s m args below meth c (vx_MQ below (zm_Qc zk_E V (zo_i out)) (zm_XC zk_E V zo_x) args s mc ms (fun q => V.2.2.2.1 ≤ q)) 8 zk_E V mc ms 98 [(0, .ref a0), (1, .int i1), (2, .int i2), (3, .int i3), (4, .int i4), (5, .int i5), (6, .int i6)] [.int t1, .ref t0] S rc rs := by
  unfold zf_X18_send_J98 at h
  refine zw_iconst (v := (1 : Int32)) hX dX18_send_98 (by decide) ?_
  refine zw_goto (tgt := 103) hX dX18_send_99 (by decide) ?_
  refine zw_sub (lv' := [(0, .ref a0), (1, .int i1), (2, .int i2), (3, .int i3), (4, .int i4), (5, .int i5), (6, .int i6)]) (List.forall_mem_cons.mpr ⟨rfl, (List.forall_mem_cons.mpr ⟨rfl, (List.forall_mem_cons.mpr ⟨rfl, (List.forall_mem_cons.mpr ⟨rfl, (List.forall_mem_cons.mpr ⟨rfl, (List.forall_mem_cons.mpr ⟨rfl, (List.forall_mem_cons.mpr ⟨rfl, zs_nil⟩)⟩)⟩)⟩)⟩)⟩)⟩) ?_
  exact zt_X18_send_J103 hX hr hR hd h
set_option maxHeartbeats 4000000 in
set_option maxRecDepth 100000 in
theorem zt_X18_send_J67 {p : Program} {l : Launch} {e : Env} {R : Room} {s : State} {m : MethodId} {args : Array Value} {below : List Frame} {meth : Method} {c : Code} {V : zm_V} {mc ms d rc rs : Nat} (hX : zm_X p R s m args meth c RX18 "send" cX18_send 8 zk_E V mc ms) (hr : meth.sig.returnType = (some .int)) (hR : R.frames = d ∧ R.locals = 64 * d) (hd : 3 ≤ d) {N : Nat} {a0 : Nat} {i1 : Int32} {i2 : Int32} {i3 : Int32} {i4 : Int32} {i5 : Int32} {i6 : Int32} {t0 : Int32} {out : (Int32 × zm_S)} {S : zm_S} (h : zf_X18_send_J67 N a0 i1 i2 i3 i4 i5 i6 t0 S = some out) : zw p l e R s m args below meth c (vx_MQ below (zm_Qc zk_E V (zo_i out)) (zm_XC zk_E V zo_x) args s mc ms (fun q => V.2.2.2.1 ≤ q)) 8 zk_E V mc ms 67 [(0, .ref a0), (1, .int i1), (2, .int i2), (3, .int i3), (4, .int i4), (5, .int i5), (6, .int i6)] [.int t0] S rc rs := by
  unfold zf_X18_send_J67 at h
  refine zw_istore hX dX18_send_67 (by decide) ?_
  refine zw_aload_n hX dX18_send_69 rfl ?_
  refine zw_iload hX dX18_send_70 rfl ?_
  refine zw_aload_n hX dX18_send_72 rfl ?_
  obtain ⟨v3, g, h⟩ := zb_some h
  refine zw_geti hX zl_X18_192 dX18_send_73 g ?_
  refine zw_if_eq (tgt := 102) hX dX18_send_76 (by decide) (fun c76 => ?_) (fun c76 => ?_)
  · rw [if_pos c76] at h
    refine zw_sub (lv' := [(0, .ref a0), (1, .int i1), (2, .int i2), (3, .int i3), (4, .int i4), (5, .int i5), (6, .int i6)]) (List.forall_mem_cons.mpr ⟨rfl, (List.forall_mem_cons.mpr ⟨rfl, (List.forall_mem_cons.mpr ⟨rfl, (List.forall_mem_cons.mpr ⟨rfl, (List.forall_mem_cons.mpr ⟨rfl, (List.forall_mem_cons.mpr ⟨rfl, (List.forall_mem_cons.mpr ⟨rfl, zs_nil⟩)⟩)⟩)⟩)⟩)⟩)⟩) ?_
    exact zt_X18_send_J102 hX hr hR hd h
  · rw [if_neg c76] at h
    refine zw_iload hX dX18_send_79 rfl ?_
    refine zw_if_eq (tgt := 98) hX dX18_send_81 (by decide) (fun c81 => ?_) (fun c81 => ?_)
    · rw [if_pos c81] at h
      refine zw_sub (lv' := [(0, .ref a0), (1, .int i1), (2, .int i2), (3, .int i3), (4, .int i4), (5, .int i5), (6, .int i6)]) (List.forall_mem_cons.mpr ⟨rfl, (List.forall_mem_cons.mpr ⟨rfl, (List.forall_mem_cons.mpr ⟨rfl, (List.forall_mem_cons.mpr ⟨rfl, (List.forall_mem_cons.mpr ⟨rfl, (List.forall_mem_cons.mpr ⟨rfl, (List.forall_mem_cons.mpr ⟨rfl, zs_nil⟩)⟩)⟩)⟩)⟩)⟩)⟩) ?_
      exact zt_X18_send_J98 hX hr hR hd h
    · rw [if_neg c81] at h
      refine zw_aload_n hX dX18_send_84 rfl ?_
      obtain ⟨b9, g, h⟩ := zb_some h
      refine zw_getr hX zl_X18_42 dX18_send_85 g ?_
      obtain ⟨b10, g, h⟩ := zb_some h
      refine zw_getr hX zl_X18_467 dX18_send_88 g ?_
      refine zw_iload_n hX dX18_send_91 rfl ?_
      obtain ⟨v11, g, h⟩ := zb_some h
      refine zw_xi hX dX18_send_92 g ?_
      refine zw_bipush (v := (6 : Int32)) hX dX18_send_93 (by decide) ?_
      refine zw_icmp_ge (tgt := 102) hX dX18_send_95 (by decide) (fun c95 => ?_) (fun c95 => ?_)
      · rw [if_pos c95] at h
        refine zw_sub (lv' := [(0, .ref a0), (1, .int i1), (2, .int i2), (3, .int i3), (4, .int i4), (5, .int i5), (6, .int i6)]) (List.forall_mem_cons.mpr ⟨rfl, (List.forall_mem_cons.mpr ⟨rfl, (List.forall_mem_cons.mpr ⟨rfl, (List.forall_mem_cons.mpr ⟨rfl, (List.forall_mem_cons.mpr ⟨rfl, (List.forall_mem_cons.mpr ⟨rfl, (List.forall_mem_cons.mpr ⟨rfl, zs_nil⟩)⟩)⟩)⟩)⟩)⟩)⟩) ?_
        exact zt_X18_send_J102 hX hr hR hd h
      · rw [if_neg c95] at h
        refine zw_sub (lv' := [(0, .ref a0), (1, .int i1), (2, .int i2), (3, .int i3), (4, .int i4), (5, .int i5), (6, .int i6)]) (List.forall_mem_cons.mpr ⟨rfl, (List.forall_mem_cons.mpr ⟨rfl, (List.forall_mem_cons.mpr ⟨rfl, (List.forall_mem_cons.mpr ⟨rfl, (List.forall_mem_cons.mpr ⟨rfl, (List.forall_mem_cons.mpr ⟨rfl, (List.forall_mem_cons.mpr ⟨rfl, zs_nil⟩)⟩)⟩)⟩)⟩)⟩)⟩) ?_
        exact zt_X18_send_J98 hX hr hR hd h
set_option maxHeartbeats 4000000 in
set_option maxRecDepth 100000 in
theorem zt_X18_send_J66 {p : Program} {l : Launch} {e : Env} {R : Room} {s : State} {m : MethodId} {args : Array Value} {below : List Frame} {meth : Method} {c : Code} {V : zm_V} {mc ms d rc rs : Nat} (hX : zm_X p R s m args meth c RX18 "send" cX18_send 8 zk_E V mc ms) (hr : meth.sig.returnType = (some .int)) (hR : R.frames = d ∧ R.locals = 64 * d) (hd : 3 ≤ d) {N : Nat} {a0 : Nat} {i1 : Int32} {i2 : Int32} {i3 : Int32} {i4 : Int32} {i5 : Int32} {i6 : Int32} {out : (Int32 × zm_S)} {S : zm_S} (h : zf_X18_send_J66 N a0 i1 i2 i3 i4 i5 i6 S = some out) : zw p l e R s m args below meth c (vx_MQ below (zm_Qc zk_E V (zo_i out)) (zm_XC zk_E V zo_x) args s mc ms (fun q => V.2.2.2.1 ≤ q)) 8 zk_E V mc ms 66 [(0, .ref a0), (1, .int i1), (2, .int i2), (3, .int i3), (4, .int i4), (5, .int i5), (6, .int i6)] [] S rc rs := by
  unfold zf_X18_send_J66 at h
  refine zw_iconst (v := (0 : Int32)) hX dX18_send_66 (by decide) ?_
  refine zw_sub (lv' := [(0, .ref a0), (1, .int i1), (2, .int i2), (3, .int i3), (4, .int i4), (5, .int i5), (6, .int i6)]) (List.forall_mem_cons.mpr ⟨rfl, (List.forall_mem_cons.mpr ⟨rfl, (List.forall_mem_cons.mpr ⟨rfl, (List.forall_mem_cons.mpr ⟨rfl, (List.forall_mem_cons.mpr ⟨rfl, (List.forall_mem_cons.mpr ⟨rfl, (List.forall_mem_cons.mpr ⟨rfl, zs_nil⟩)⟩)⟩)⟩)⟩)⟩)⟩) ?_
  exact zt_X18_send_J67 hX hr hR hd h
set_option maxHeartbeats 4000000 in
set_option maxRecDepth 100000 in
theorem zt_X18_send_J32 {p : Program} {l : Launch} {e : Env} {R : Room} {s : State} {m : MethodId} {args : Array Value} {below : List Frame} {meth : Method} {c : Code} {V : zm_V} {mc ms d rc rs : Nat} (hX : zm_X p R s m args meth c RX18 "send" cX18_send 8 zk_E V mc ms) (hr : meth.sig.returnType = (some .int)) (hR : R.frames = d ∧ R.locals = 64 * d) (hd : 3 ≤ d) {N : Nat} {a0 : Nat} {i1 : Int32} {i2 : Int32} {i3 : Int32} {i4 : Int32} {i5 : Int32} {i6 : Int32} {t0 : Int32} {t1 : Int32} {out : (Int32 × zm_S)} {S : zm_S} (h : zf_X18_send_J32 N a0 i1 i2 i3 i4 i5 i6 t0 t1 S = some out) : zw p l e R s m args below meth c (vx_MQ below (zm_Qc zk_E V (zo_i out)) (zm_XC zk_E V zo_x) args s mc ms (fun q => V.2.2.2.1 ≤ q)) 8 zk_E V mc ms 32 [(0, .ref a0), (1, .int i1), (2, .int i2), (3, .int i3), (4, .int i4), (5, .int i5), (6, .int i6)] [.int t1, .int t0] S rc rs := by
  unfold zf_X18_send_J32 at h
  obtain ⟨r15, g, h⟩ := zb_some h
  refine zc_Si (as := [.int t0, .int t1]) hX (zt_X18_isIn (d := d - 1) (by omega) g) zl_X18_207 dX18_send_32 ⟨rfl, rfl, Nat.le_of_ble_eq_true rfl⟩ ⟨by omega, by omega⟩ ?_
  refine zw_if_eq (tgt := 66) hX dX18_send_35 (by decide) (fun c35 => ?_) (fun c35 => ?_)
  · rw [if_pos c35] at h
    refine zw_sub (lv' := [(0, .ref a0), (1, .int i1), (2, .int i2), (3, .int i3), (4, .int i4), (5, .int i5), (6, .int i6)]) (List.forall_mem_cons.mpr ⟨rfl, (List.forall_mem_cons.mpr ⟨rfl, (List.forall_mem_cons.mpr ⟨rfl, (List.forall_mem_cons.mpr ⟨rfl, (List.forall_mem_cons.mpr ⟨rfl, (List.forall_mem_cons.mpr ⟨rfl, (List.forall_mem_cons.mpr ⟨rfl, zs_nil⟩)⟩)⟩)⟩)⟩)⟩)⟩) ?_
    exact zt_X18_send_J66 hX hr hR hd h
  · rw [if_neg c35] at h
    refine zw_iload hX dX18_send_38 rfl ?_
    refine zw_iconst (v := (1 : Int32)) hX dX18_send_40 (by decide) ?_
    refine zw_icmp_lt (tgt := 66) hX dX18_send_41 (by decide) (fun c41 => ?_) (fun c41 => ?_)
    · rw [if_pos c41] at h
      refine zw_sub (lv' := [(0, .ref a0), (1, .int i1), (2, .int i2), (3, .int i3), (4, .int i4), (5, .int i5), (6, .int i6)]) (List.forall_mem_cons.mpr ⟨rfl, (List.forall_mem_cons.mpr ⟨rfl, (List.forall_mem_cons.mpr ⟨rfl, (List.forall_mem_cons.mpr ⟨rfl, (List.forall_mem_cons.mpr ⟨rfl, (List.forall_mem_cons.mpr ⟨rfl, (List.forall_mem_cons.mpr ⟨rfl, zs_nil⟩)⟩)⟩)⟩)⟩)⟩)⟩) ?_
      exact zt_X18_send_J66 hX hr hR hd h
    · rw [if_neg c41] at h
      refine zw_iload hX dX18_send_44 rfl ?_
      refine zw_bipush (v := (14 : Int32)) hX dX18_send_46 (by decide) ?_
      refine zw_icmp_gt (tgt := 66) hX dX18_send_48 (by decide) (fun c48 => ?_) (fun c48 => ?_)
      · rw [if_pos c48] at h
        refine zw_sub (lv' := [(0, .ref a0), (1, .int i1), (2, .int i2), (3, .int i3), (4, .int i4), (5, .int i5), (6, .int i6)]) (List.forall_mem_cons.mpr ⟨rfl, (List.forall_mem_cons.mpr ⟨rfl, (List.forall_mem_cons.mpr ⟨rfl, (List.forall_mem_cons.mpr ⟨rfl, (List.forall_mem_cons.mpr ⟨rfl, (List.forall_mem_cons.mpr ⟨rfl, (List.forall_mem_cons.mpr ⟨rfl, zs_nil⟩)⟩)⟩)⟩)⟩)⟩)⟩) ?_
        exact zt_X18_send_J66 hX hr hR hd h
      · rw [if_neg c48] at h
        refine zw_iload hX dX18_send_51 rfl ?_
        refine zw_sipush (v := (256 : Int32)) hX dX18_send_53 (by decide) ?_
        obtain ⟨r17, g, h⟩ := zb_some h
        refine zc_Si (as := [.int i6, .int (256 : Int32)]) hX (zt_X18_isIn (d := d - 1) (by omega) g) zl_X18_207 dX18_send_56 ⟨rfl, rfl, Nat.le_of_ble_eq_true rfl⟩ ⟨by omega, by omega⟩ ?_
        refine zw_if_eq (tgt := 66) hX dX18_send_59 (by decide) (fun c59 => ?_) (fun c59 => ?_)
        · rw [if_pos c59] at h
          refine zw_sub (lv' := [(0, .ref a0), (1, .int i1), (2, .int i2), (3, .int i3), (4, .int i4), (5, .int i5), (6, .int i6)]) (List.forall_mem_cons.mpr ⟨rfl, (List.forall_mem_cons.mpr ⟨rfl, (List.forall_mem_cons.mpr ⟨rfl, (List.forall_mem_cons.mpr ⟨rfl, (List.forall_mem_cons.mpr ⟨rfl, (List.forall_mem_cons.mpr ⟨rfl, (List.forall_mem_cons.mpr ⟨rfl, zs_nil⟩)⟩)⟩)⟩)⟩)⟩)⟩) ?_
          exact zt_X18_send_J66 hX hr hR hd h
        · rw [if_neg c59] at h
          refine zw_iconst (v := (1 : Int32)) hX dX18_send_62 (by decide) ?_
          refine zw_goto (tgt := 67) hX dX18_send_63 (by decide) ?_
          refine zw_sub (lv' := [(0, .ref a0), (1, .int i1), (2, .int i2), (3, .int i3), (4, .int i4), (5, .int i5), (6, .int i6)]) (List.forall_mem_cons.mpr ⟨rfl, (List.forall_mem_cons.mpr ⟨rfl, (List.forall_mem_cons.mpr ⟨rfl, (List.forall_mem_cons.mpr ⟨rfl, (List.forall_mem_cons.mpr ⟨rfl, (List.forall_mem_cons.mpr ⟨rfl, (List.forall_mem_cons.mpr ⟨rfl, zs_nil⟩)⟩)⟩)⟩)⟩)⟩)⟩) ?_
          exact zt_X18_send_J67 hX hr hR hd h
set_option maxHeartbeats 4000000 in
set_option maxRecDepth 100000 in
theorem zt_X18_send {l : Launch} {V : zm_V} {N : Nat} {S : zm_S} {out : (Int32 × zm_S)} {d : Nat} {a0 : Nat} {i1 : Int32} {i2 : Int32} {i3 : Int32} {i4 : Int32} {i5 : Int32} {i6 : Int32} (hd : 3 ≤ d) (h : zf_X18_send N a0 i1 i2 i3 i4 i5 i6 S = some out) : zm_Met l zk_E V yX18_send (.code yX18_send cX18_send 8 (some .int)) d [.ref a0, .int i1, .int i2, .int i3, .int i4, .int i5, .int i6] S 0 0 (zo_i out) zo_x := by
  refine zm_of (by decide +kernel) (Nat.le_of_ble_eq_true rfl) ?_
  intro p e R s m args below meth c hRR hX hr hxt
  have hR : R.frames = d ∧ R.locals = 64 * d := by rw [hRR]; exact ⟨rfl, rfl⟩
  have hX : zm_X p R s m args meth c RX18 "send" cX18_send 8 zk_E V 0 0 := hX
  unfold zf_X18_send at h
  refine zw_sub (lv' := [(0, .ref a0), (1, .int i1), (2, .int i2), (3, .int i3), (4, .int i4), (5, .int i5), (6, .int i6)]) (List.forall_mem_cons.mpr ⟨rfl, (List.forall_mem_cons.mpr ⟨rfl, (List.forall_mem_cons.mpr ⟨rfl, (List.forall_mem_cons.mpr ⟨rfl, (List.forall_mem_cons.mpr ⟨rfl, (List.forall_mem_cons.mpr ⟨rfl, (List.forall_mem_cons.mpr ⟨rfl, zs_nil⟩)⟩)⟩)⟩)⟩)⟩)⟩) ?_
  refine zw_iload_n hX dX18_send_0 rfl ?_
  refine zw_bipush (v := (8 : Int32)) hX dX18_send_1 (by decide) ?_
  obtain ⟨r2, g, h⟩ := zb_some h
  refine zc_Si (as := [.int i1, .int (8 : Int32)]) hX (zt_X18_isIn (d := d - 1) (by omega) g) zl_X18_207 dX18_send_3 ⟨rfl, rfl, Nat.le_of_ble_eq_true rfl⟩ ⟨by omega, by omega⟩ ?_
  refine zw_if_eq (tgt := 66) hX dX18_send_6 (by decide) (fun c6 => ?_) (fun c6 => ?_)
  · rw [if_pos c6] at h
    refine zw_sub (lv' := [(0, .ref a0), (1, .int i1), (2, .int i2), (3, .int i3), (4, .int i4), (5, .int i5), (6, .int i6)]) (List.forall_mem_cons.mpr ⟨rfl, (List.forall_mem_cons.mpr ⟨rfl, (List.forall_mem_cons.mpr ⟨rfl, (List.forall_mem_cons.mpr ⟨rfl, (List.forall_mem_cons.mpr ⟨rfl, (List.forall_mem_cons.mpr ⟨rfl, (List.forall_mem_cons.mpr ⟨rfl, zs_nil⟩)⟩)⟩)⟩)⟩)⟩)⟩) ?_
    exact zt_X18_send_J66 hX hr hR hd h
  · rw [if_neg c6] at h
    refine zw_iload_n hX dX18_send_9 rfl ?_
    refine zw_iconst (v := (4 : Int32)) hX dX18_send_10 (by decide) ?_
    obtain ⟨r13, g, h⟩ := zb_some h
    refine zc_Si (as := [.int i2, .int (4 : Int32)]) hX (zt_X18_isIn (d := d - 1) (by omega) g) zl_X18_207 dX18_send_11 ⟨rfl, rfl, Nat.le_of_ble_eq_true rfl⟩ ⟨by omega, by omega⟩ ?_
    refine zw_if_eq (tgt := 66) hX dX18_send_14 (by decide) (fun c14 => ?_) (fun c14 => ?_)
    · rw [if_pos c14] at h
      refine zw_sub (lv' := [(0, .ref a0), (1, .int i1), (2, .int i2), (3, .int i3), (4, .int i4), (5, .int i5), (6, .int i6)]) (List.forall_mem_cons.mpr ⟨rfl, (List.forall_mem_cons.mpr ⟨rfl, (List.forall_mem_cons.mpr ⟨rfl, (List.forall_mem_cons.mpr ⟨rfl, (List.forall_mem_cons.mpr ⟨rfl, (List.forall_mem_cons.mpr ⟨rfl, (List.forall_mem_cons.mpr ⟨rfl, zs_nil⟩)⟩)⟩)⟩)⟩)⟩)⟩) ?_
      exact zt_X18_send_J66 hX hr hR hd h
    · rw [if_neg c14] at h
      refine zw_iload_n hX dX18_send_17 rfl ?_
      refine zw_iload hX dX18_send_18 rfl ?_
      refine zw_if_eq (tgt := 29) hX dX18_send_20 (by decide) (fun c20 => ?_) (fun c20 => ?_)
      · rw [if_pos c20] at h
        refine zw_ldcw (v := (65536 : Int32)) hX dX18_send_29 zl_X18_562 ?_
        refine zw_sub (lv' := [(0, .ref a0), (1, .int i1), (2, .int i2), (3, .int i3), (4, .int i4), (5, .int i5), (6, .int i6)]) (List.forall_mem_cons.mpr ⟨rfl, (List.forall_mem_cons.mpr ⟨rfl, (List.forall_mem_cons.mpr ⟨rfl, (List.forall_mem_cons.mpr ⟨rfl, (List.forall_mem_cons.mpr ⟨rfl, (List.forall_mem_cons.mpr ⟨rfl, (List.forall_mem_cons.mpr ⟨rfl, zs_nil⟩)⟩)⟩)⟩)⟩)⟩)⟩) ?_
        exact zt_X18_send_J32 hX hr hR hd h
      · rw [if_neg c20] at h
        refine zw_sipush (v := (256 : Int32)) hX dX18_send_23 (by decide) ?_
        refine zw_goto (tgt := 32) hX dX18_send_26 (by decide) ?_
        refine zw_sub (lv' := [(0, .ref a0), (1, .int i1), (2, .int i2), (3, .int i3), (4, .int i4), (5, .int i5), (6, .int i6)]) (List.forall_mem_cons.mpr ⟨rfl, (List.forall_mem_cons.mpr ⟨rfl, (List.forall_mem_cons.mpr ⟨rfl, (List.forall_mem_cons.mpr ⟨rfl, (List.forall_mem_cons.mpr ⟨rfl, (List.forall_mem_cons.mpr ⟨rfl, (List.forall_mem_cons.mpr ⟨rfl, zs_nil⟩)⟩)⟩)⟩)⟩)⟩)⟩) ?_
        exact zt_X18_send_J32 hX hr hR hd h
set_option maxHeartbeats 4000000 in
set_option maxRecDepth 100000 in
theorem zt_X18_disturb_J40 {p : Program} {l : Launch} {e : Env} {R : Room} {s : State} {m : MethodId} {args : Array Value} {below : List Frame} {meth : Method} {c : Code} {V : zm_V} {mc ms d rc rs : Nat} (hX : zm_X p R s m args meth c RX18 "disturb" cX18_disturb 2 zk_E V mc ms) (hr : meth.sig.returnType = (some .boolean)) (hR : R.frames = d ∧ R.locals = 64 * d) (hd : 2 ≤ d) {N : Nat} {a0 : Nat} {i1 : Int32} {t0 : Nat} {t1 : Int32} {t2 : Int32} {out : (Int32 × zm_S)} {S : zm_S} (h : zf_X18_disturb_J40 N a0 i1 t0 t1 t2 S = some out) : zw p l e R s m args below meth c (vx_MQ below (zm_Qc zk_E V (zo_i out)) (zm_XC zk_E V zo_x) args s mc ms (fun q => V.2.2.2.1 ≤ q)) 2 zk_E V mc ms 40 [(0, .ref a0), (1, .int i1)] [.int t2, .int t1, .ref t0] S rc rs := by
  unfold zf_X18_disturb_J40 at h
  obtain ⟨_, gi, h⟩ := zb_some h
  obtain ⟨r3, g, h⟩ := zb_some h
  refine zc_Vi (as := [.int t1, .int t2]) hX gi (zt_X18_goes (d := d - 1) (by omega) g) zl_X18_199 rfl dX18_disturb_40 ⟨rfl, rfl, Nat.le_of_ble_eq_true rfl⟩ ⟨by omega, by omega⟩ ?_
  refine zw_if_eq (tgt := 61) hX dX18_disturb_43 (by decide) (fun c43 => ?_) (fun c43 => ?_)
  · rw [if_pos c43] at h
    refine zw_iconst (v := (0 : Int32)) hX dX18_disturb_61 (by decide) ?_
    obtain rfl := Option.some.inj h
    exact zw_iret hX hr dX18_disturb_62 rfl ⟨rfl, rfl⟩
  · rw [if_neg c43] at h
    refine zw_aload_n hX dX18_disturb_46 rfl ?_
    obtain ⟨b4, g, h⟩ := zb_some h
    refine zw_getr hX zl_X18_42 dX18_disturb_47 g ?_
    refine zw_iload_n hX dX18_disturb_50 rfl ?_
    obtain ⟨_, gi, h⟩ := zb_some h
    obtain ⟨r6, g, h⟩ := zb_some h
    refine zc_Vi (as := [.int i1]) hX gi (zt_X12_disturb (d := d - 1) (by omega) g) zl_X18_575 rfl dX18_disturb_51 ⟨rfl, rfl, Nat.le_of_ble_eq_true rfl⟩ ⟨by omega, by omega⟩ ?_
    refine zw_if_eq (tgt := 61) hX dX18_disturb_54 (by decide) (fun c54 => ?_) (fun c54 => ?_)
    · rw [if_pos c54] at h
      refine zw_iconst (v := (0 : Int32)) hX dX18_disturb_61 (by decide) ?_
      obtain rfl := Option.some.inj h
      exact zw_iret hX hr dX18_disturb_62 rfl ⟨rfl, rfl⟩
    · rw [if_neg c54] at h
      refine zw_iconst (v := (1 : Int32)) hX dX18_disturb_57 (by decide) ?_
      refine zw_goto (tgt := 62) hX dX18_disturb_58 (by decide) ?_
      obtain rfl := Option.some.inj h
      exact zw_iret hX hr dX18_disturb_62 rfl ⟨rfl, rfl⟩
set_option maxHeartbeats 4000000 in
set_option maxRecDepth 100000 in
theorem zt_X18_disturb_J39 {p : Program} {l : Launch} {e : Env} {R : Room} {s : State} {m : MethodId} {args : Array Value} {below : List Frame} {meth : Method} {c : Code} {V : zm_V} {mc ms d rc rs : Nat} (hX : zm_X p R s m args meth c RX18 "disturb" cX18_disturb 2 zk_E V mc ms) (hr : meth.sig.returnType = (some .boolean)) (hR : R.frames = d ∧ R.locals = 64 * d) (hd : 2 ≤ d) {N : Nat} {a0 : Nat} {i1 : Int32} {t0 : Nat} {t1 : Int32} {out : (Int32 × zm_S)} {S : zm_S} (h : zf_X18_disturb_J39 N a0 i1 t0 t1 S = some out) : zw p l e R s m args below meth c (vx_MQ below (zm_Qc zk_E V (zo_i out)) (zm_XC zk_E V zo_x) args s mc ms (fun q => V.2.2.2.1 ≤ q)) 2 zk_E V mc ms 39 [(0, .ref a0), (1, .int i1)] [.int t1, .ref t0] S rc rs := by
  unfold zf_X18_disturb_J39 at h
  refine zw_iconst (v := (0 : Int32)) hX dX18_disturb_39 (by decide) ?_
  refine zw_sub (lv' := [(0, .ref a0), (1, .int i1)]) (List.forall_mem_cons.mpr ⟨rfl, (List.forall_mem_cons.mpr ⟨rfl, zs_nil⟩)⟩) ?_
  exact zt_X18_disturb_J40 hX hr hR hd h
set_option maxHeartbeats 4000000 in
set_option maxRecDepth 100000 in
theorem zt_X18_disturb_J18 {p : Program} {l : Launch} {e : Env} {R : Room} {s : State} {m : MethodId} {args : Array Value} {below : List Frame} {meth : Method} {c : Code} {V : zm_V} {mc ms d rc rs : Nat} (hX : zm_X p R s m args meth c RX18 "disturb" cX18_disturb 2 zk_E V mc ms) (hr : meth.sig.returnType = (some .boolean)) (hR : R.frames = d ∧ R.locals = 64 * d) (hd : 2 ≤ d) {N : Nat} {a0 : Nat} {i1 : Int32} {t0 : Nat} {t1 : Int32} {out : (Int32 × zm_S)} {S : zm_S} (h : zf_X18_disturb_J18 N a0 i1 t0 t1 S = some out) : zw p l e R s m args below meth c (vx_MQ below (zm_Qc zk_E V (zo_i out)) (zm_XC zk_E V zo_x) args s mc ms (fun q => V.2.2.2.1 ≤ q)) 2 zk_E V mc ms 18 [(0, .ref a0), (1, .int i1)] [.int t1, .ref t0] S rc rs := by
  unfold zf_X18_disturb_J18 at h
  refine zw_aload_n hX dX18_disturb_18 rfl ?_
  obtain ⟨v1, g, h⟩ := zb_some h
  refine zw_geti hX zl_X18_192 dX18_disturb_19 g ?_
  refine zw_if_eq (tgt := 39) hX dX18_disturb_22 (by decide) (fun c22 => ?_) (fun c22 => ?_)
  · rw [if_pos c22] at h
    refine zw_sub (lv' := [(0, .ref a0), (1, .int i1)]) (List.forall_mem_cons.mpr ⟨rfl, (List.forall_mem_cons.mpr ⟨rfl, zs_nil⟩)⟩) ?_
    exact zt_X18_disturb_J39 hX hr hR hd h
  · rw [if_neg c22] at h
    refine zw_aload_n hX dX18_disturb_25 rfl ?_
    obtain ⟨b7, g, h⟩ := zb_some h
    refine zw_getr hX zl_X18_42 dX18_disturb_26 g ?_
    obtain ⟨_, gi, h⟩ := zb_some h
    obtain ⟨r9, g, h⟩ := zb_some h
    refine zc_Vi (as := []) hX gi (zt_X12_mayDisturb (d := d - 1) (by omega) g) zl_X18_572 rfl dX18_disturb_29 ⟨rfl, rfl, Nat.le_of_ble_eq_true rfl⟩ ⟨by omega, by omega⟩ ?_
    refine zw_if_eq (tgt := 39) hX dX18_disturb_32 (by decide) (fun c32 => ?_) (fun c32 => ?_)
    · rw [if_pos c32] at h
      refine zw_sub (lv' := [(0, .ref a0), (1, .int i1)]) (List.forall_mem_cons.mpr ⟨rfl, (List.forall_mem_cons.mpr ⟨rfl, zs_nil⟩)⟩) ?_
      exact zt_X18_disturb_J39 hX hr hR hd h
    · rw [if_neg c32] at h
      refine zw_iconst (v := (1 : Int32)) hX dX18_disturb_35 (by decide) ?_
      refine zw_goto (tgt := 40) hX dX18_disturb_36 (by decide) ?_
      refine zw_sub (lv' := [(0, .ref a0), (1, .int i1)]) (List.forall_mem_cons.mpr ⟨rfl, (List.forall_mem_cons.mpr ⟨rfl, zs_nil⟩)⟩) ?_
      exact zt_X18_disturb_J40 hX hr hR hd h
set_option maxHeartbeats 4000000 in
set_option maxRecDepth 100000 in
theorem zt_X18_disturb_J17 {p : Program} {l : Launch} {e : Env} {R : Room} {s : State} {m : MethodId} {args : Array Value} {below : List Frame} {meth : Method} {c : Code} {V : zm_V} {mc ms d rc rs : Nat} (hX : zm_X p R s m args meth c RX18 "disturb" cX18_disturb 2 zk_E V mc ms) (hr : meth.sig.returnType = (some .boolean)) (hR : R.frames = d ∧ R.locals = 64 * d) (hd : 2 ≤ d) {N : Nat} {a0 : Nat} {i1 : Int32} {t0 : Nat} {out : (Int32 × zm_S)} {S : zm_S} (h : zf_X18_disturb_J17 N a0 i1 t0 S = some out) : zw p l e R s m args below meth c (vx_MQ below (zm_Qc zk_E V (zo_i out)) (zm_XC zk_E V zo_x) args s mc ms (fun q => V.2.2.2.1 ≤ q)) 2 zk_E V mc ms 17 [(0, .ref a0), (1, .int i1)] [.ref t0] S rc rs := by
  unfold zf_X18_disturb_J17 at h
  refine zw_iconst (v := (0 : Int32)) hX dX18_disturb_17 (by decide) ?_
  refine zw_sub (lv' := [(0, .ref a0), (1, .int i1)]) (List.forall_mem_cons.mpr ⟨rfl, (List.forall_mem_cons.mpr ⟨rfl, zs_nil⟩)⟩) ?_
  exact zt_X18_disturb_J18 hX hr hR hd h
set_option maxHeartbeats 4000000 in
set_option maxRecDepth 100000 in
theorem zt_X18_disturb {l : Launch} {V : zm_V} {N : Nat} {S : zm_S} {out : (Int32 × zm_S)} {d : Nat} {a0 : Nat} {i1 : Int32} (hd : 2 ≤ d) (h : zf_X18_disturb N a0 i1 S = some out) : zm_Met l zk_E V yX18_disturb (.code yX18_disturb cX18_disturb 2 (some .boolean)) d [.ref a0, .int i1] S 0 0 (zo_i out) zo_x := by
  refine zm_of (by decide +kernel) (Nat.le_of_ble_eq_true rfl) ?_
  intro p e R s m args below meth c hRR hX hr hxt
  have hR : R.frames = d ∧ R.locals = 64 * d := by rw [hRR]; exact ⟨rfl, rfl⟩
  have hX : zm_X p R s m args meth c RX18 "disturb" cX18_disturb 2 zk_E V 0 0 := hX
  unfold zf_X18_disturb at h
  refine zw_sub (lv' := [(0, .ref a0), (1, .int i1)]) (List.forall_mem_cons.mpr ⟨rfl, (List.forall_mem_cons.mpr ⟨rfl, zs_nil⟩)⟩) ?_
  refine zw_aload_n hX dX18_disturb_0 rfl ?_
  refine zw_iload_n hX dX18_disturb_1 rfl ?_
  refine zw_iconst (v := (1 : Int32)) hX dX18_disturb_2 (by decide) ?_
  refine zw_icmp_lt (tgt := 17) hX dX18_disturb_3 (by decide) (fun c3 => ?_) (fun c3 => ?_)
  · rw [if_pos c3] at h
    refine zw_sub (lv' := [(0, .ref a0), (1, .int i1)]) (List.forall_mem_cons.mpr ⟨rfl, (List.forall_mem_cons.mpr ⟨rfl, zs_nil⟩)⟩) ?_
    exact zt_X18_disturb_J17 hX hr hR hd h
  · rw [if_neg c3] at h
    refine zw_iload_n hX dX18_disturb_6 rfl ?_
    refine zw_sipush (v := (2000 : Int32)) hX dX18_disturb_7 (by decide) ?_
    refine zw_icmp_gt (tgt := 17) hX dX18_disturb_10 (by decide) (fun c10 => ?_) (fun c10 => ?_)
    · rw [if_pos c10] at h
      refine zw_sub (lv' := [(0, .ref a0), (1, .int i1)]) (List.forall_mem_cons.mpr ⟨rfl, (List.forall_mem_cons.mpr ⟨rfl, zs_nil⟩)⟩) ?_
      exact zt_X18_disturb_J17 hX hr hR hd h
    · rw [if_neg c10] at h
      refine zw_iconst (v := (1 : Int32)) hX dX18_disturb_13 (by decide) ?_
      refine zw_goto (tgt := 18) hX dX18_disturb_14 (by decide) ?_
      refine zw_sub (lv' := [(0, .ref a0), (1, .int i1)]) (List.forall_mem_cons.mpr ⟨rfl, (List.forall_mem_cons.mpr ⟨rfl, zs_nil⟩)⟩) ?_
      exact zt_X18_disturb_J18 hX hr hR hd h
set_option maxHeartbeats 4000000 in
set_option maxRecDepth 100000 in
theorem zt_X18_station_J24 {p : Program} {l : Launch} {e : Env} {R : Room} {s : State} {m : MethodId} {args : Array Value} {below : List Frame} {meth : Method} {c : Code} {V : zm_V} {mc ms d rc rs : Nat} (hX : zm_X p R s m args meth c RX18 "station" cX18_station 3 zk_E V mc ms) (hr : meth.sig.returnType = (some .int)) (hR : R.frames = d ∧ R.locals = 64 * d) (hd : 2 ≤ d) {N : Nat} {a0 : Nat} {i1 : Int32} {i2 : Int32} {t0 : Nat} {t1 : Int32} {out : (Int32 × zm_S)} {S : zm_S} (h : zf_X18_station_J24 N a0 i1 i2 t0 t1 S = some out) : zw p l e R s m args below meth c (vx_MQ below (zm_Qc zk_E V (zo_i out)) (zm_XC zk_E V zo_x) args s mc ms (fun q => V.2.2.2.1 ≤ q)) 3 zk_E V mc ms 24 [(0, .ref a0), (1, .int i1), (2, .int i2)] [.int t1, .ref t0] S rc rs := by
  unfold zf_X18_station_J24 at h
  refine zw_aload_n hX dX18_station_24 rfl ?_
  obtain ⟨v3, g, h⟩ := zb_some h
  refine zw_geti hX zl_X18_192 dX18_station_25 g ?_
  obtain ⟨_, gi, h⟩ := zb_some h
  obtain ⟨r5, g, h⟩ := zb_some h
  refine zc_Vi (as := [.int t1, .int v3]) hX gi (zt_X18_goes (d := d - 1) (by omega) g) zl_X18_199 rfl dX18_station_28 ⟨rfl, rfl, Nat.le_of_ble_eq_true rfl⟩ ⟨by omega, by omega⟩ ?_
  refine zw_if_eq (tgt := 46) hX dX18_station_31 (by decide) (fun c31 => ?_) (fun c31 => ?_)
  · rw [if_pos c31] at h
    refine zw_iconst (v := (0 : Int32)) hX dX18_station_46 (by decide) ?_
    obtain rfl := Option.some.inj h
    exact zw_iret hX hr dX18_station_47 rfl ⟨rfl, rfl⟩
  · rw [if_neg c31] at h
    refine zw_aload_n hX dX18_station_34 rfl ?_
    obtain ⟨b6, g, h⟩ := zb_some h
    refine zw_getr hX zl_X18_42 dX18_station_35 g ?_
    refine zw_iload_n hX dX18_station_38 rfl ?_
    refine zw_iload_n hX dX18_station_39 rfl ?_
    obtain ⟨_, gi, h⟩ := zb_some h
    obtain ⟨r8, g, h⟩ := zb_some h
    refine zc_Vi (as := [.int i1, .int i2]) hX gi (zt_X12_station (d := d - 1) (by omega) g) zl_X18_578 rfl dX18_station_40 ⟨rfl, rfl, Nat.le_of_ble_eq_true rfl⟩ ⟨by omega, by omega⟩ ?_
    refine zw_goto (tgt := 47) hX dX18_station_43 (by decide) ?_
    obtain rfl := Option.some.inj h
    exact zw_iret hX hr dX18_station_47 rfl ⟨rfl, rfl⟩
set_option maxHeartbeats 4000000 in
set_option maxRecDepth 100000 in
theorem zt_X18_station_J23 {p : Program} {l : Launch} {e : Env} {R : Room} {s : State} {m : MethodId} {args : Array Value} {below : List Frame} {meth : Method} {c : Code} {V : zm_V} {mc ms d rc rs : Nat} (hX : zm_X p R s m args meth c RX18 "station" cX18_station 3 zk_E V mc ms) (hr : meth.sig.returnType = (some .int)) (hR : R.frames = d ∧ R.locals = 64 * d) (hd : 2 ≤ d) {N : Nat} {a0 : Nat} {i1 : Int32} {i2 : Int32} {t0 : Nat} {out : (Int32 × zm_S)} {S : zm_S} (h : zf_X18_station_J23 N a0 i1 i2 t0 S = some out) : zw p l e R s m args below meth c (vx_MQ below (zm_Qc zk_E V (zo_i out)) (zm_XC zk_E V zo_x) args s mc ms (fun q => V.2.2.2.1 ≤ q)) 3 zk_E V mc ms 23 [(0, .ref a0), (1, .int i1), (2, .int i2)] [.ref t0] S rc rs := by
  unfold zf_X18_station_J23 at h
  refine zw_iconst (v := (0 : Int32)) hX dX18_station_23 (by decide) ?_
  refine zw_sub (lv' := [(0, .ref a0), (1, .int i1), (2, .int i2)]) (List.forall_mem_cons.mpr ⟨rfl, (List.forall_mem_cons.mpr ⟨rfl, (List.forall_mem_cons.mpr ⟨rfl, zs_nil⟩)⟩)⟩) ?_
  exact zt_X18_station_J24 hX hr hR hd h
set_option maxHeartbeats 4000000 in
set_option maxRecDepth 100000 in
theorem zt_X18_station {l : Launch} {V : zm_V} {N : Nat} {S : zm_S} {out : (Int32 × zm_S)} {d : Nat} {a0 : Nat} {i1 : Int32} {i2 : Int32} (hd : 2 ≤ d) (h : zf_X18_station N a0 i1 i2 S = some out) : zm_Met l zk_E V yX18_station (.code yX18_station cX18_station 3 (some .int)) d [.ref a0, .int i1, .int i2] S 0 0 (zo_i out) zo_x := by
  refine zm_of (by decide +kernel) (Nat.le_of_ble_eq_true rfl) ?_
  intro p e R s m args below meth c hRR hX hr hxt
  have hR : R.frames = d ∧ R.locals = 64 * d := by rw [hRR]; exact ⟨rfl, rfl⟩
  have hX : zm_X p R s m args meth c RX18 "station" cX18_station 3 zk_E V 0 0 := hX
  unfold zf_X18_station at h
  refine zw_sub (lv' := [(0, .ref a0), (1, .int i1), (2, .int i2)]) (List.forall_mem_cons.mpr ⟨rfl, (List.forall_mem_cons.mpr ⟨rfl, (List.forall_mem_cons.mpr ⟨rfl, zs_nil⟩)⟩)⟩) ?_
  refine zw_aload_n hX dX18_station_0 rfl ?_
  refine zw_iload_n hX dX18_station_1 rfl ?_
  refine zw_bipush (v := (8 : Int32)) hX dX18_station_2 (by decide) ?_
  obtain ⟨r2, g, h⟩ := zb_some h
  refine zc_Si (as := [.int i1, .int (8 : Int32)]) hX (zt_X18_isIn (d := d - 1) (by omega) g) zl_X18_207 dX18_station_4 ⟨rfl, rfl, Nat.le_of_ble_eq_true rfl⟩ ⟨by omega, by omega⟩ ?_
  refine zw_if_eq (tgt := 23) hX dX18_station_7 (by decide) (fun c7 => ?_) (fun c7 => ?_)
  · rw [if_pos c7] at h
    refine zw_sub (lv' := [(0, .ref a0), (1, .int i1), (2, .int i2)]) (List.forall_mem_cons.mpr ⟨rfl, (List.forall_mem_cons.mpr ⟨rfl, (List.forall_mem_cons.mpr ⟨rfl, zs_nil⟩)⟩)⟩) ?_
    exact zt_X18_station_J23 hX hr hR hd h
  · rw [if_neg c7] at h
    refine zw_iload_n hX dX18_station_10 rfl ?_
    refine zw_bipush (v := (6 : Int32)) hX dX18_station_11 (by decide) ?_
    obtain ⟨r10, g, h⟩ := zb_some h
    refine zc_Si (as := [.int i2, .int (6 : Int32)]) hX (zt_X18_isIn (d := d - 1) (by omega) g) zl_X18_207 dX18_station_13 ⟨rfl, rfl, Nat.le_of_ble_eq_true rfl⟩ ⟨by omega, by omega⟩ ?_
    refine zw_if_eq (tgt := 23) hX dX18_station_16 (by decide) (fun c16 => ?_) (fun c16 => ?_)
    · rw [if_pos c16] at h
      refine zw_sub (lv' := [(0, .ref a0), (1, .int i1), (2, .int i2)]) (List.forall_mem_cons.mpr ⟨rfl, (List.forall_mem_cons.mpr ⟨rfl, (List.forall_mem_cons.mpr ⟨rfl, zs_nil⟩)⟩)⟩) ?_
      exact zt_X18_station_J23 hX hr hR hd h
    · rw [if_neg c16] at h
      refine zw_iconst (v := (1 : Int32)) hX dX18_station_19 (by decide) ?_
      refine zw_goto (tgt := 24) hX dX18_station_20 (by decide) ?_
      refine zw_sub (lv' := [(0, .ref a0), (1, .int i1), (2, .int i2)]) (List.forall_mem_cons.mpr ⟨rfl, (List.forall_mem_cons.mpr ⟨rfl, (List.forall_mem_cons.mpr ⟨rfl, zs_nil⟩)⟩)⟩) ?_
      exact zt_X18_station_J24 hX hr hR hd h
set_option maxHeartbeats 4000000 in
set_option maxRecDepth 100000 in
theorem zt_X18_heard {l : Launch} {V : zm_V} {N : Nat} {S : zm_S} {out : (Int32 × zm_S)} {d : Nat} {a0 : Nat} {i1 : Int32} (hd : 2 ≤ d) (h : zf_X18_heard N a0 i1 S = some out) : zm_Met l zk_E V yX18_heard (.code yX18_heard cX18_heard 2 (some .int)) d [.ref a0, .int i1] S 0 0 (zo_i out) zo_x := by
  refine zm_of (by decide +kernel) (Nat.le_of_ble_eq_true rfl) ?_
  intro p e R s m args below meth c hRR hX hr hxt
  have hR : R.frames = d ∧ R.locals = 64 * d := by rw [hRR]; exact ⟨rfl, rfl⟩
  have hX : zm_X p R s m args meth c RX18 "heard" cX18_heard 2 zk_E V 0 0 := hX
  unfold zf_X18_heard at h
  refine zw_sub (lv' := [(0, .ref a0), (1, .int i1)]) (List.forall_mem_cons.mpr ⟨rfl, (List.forall_mem_cons.mpr ⟨rfl, zs_nil⟩)⟩) ?_
  refine zw_aload_n hX dX18_heard_0 rfl ?_
  refine zw_iload_n hX dX18_heard_1 rfl ?_
  refine zw_iconst (v := (5 : Int32)) hX dX18_heard_2 (by decide) ?_
  obtain ⟨r2, g, h⟩ := zb_some h
  refine zc_Si (as := [.int i1, .int (5 : Int32)]) hX (zt_X18_isIn (d := d - 1) (by omega) g) zl_X18_207 dX18_heard_3 ⟨rfl, rfl, Nat.le_of_ble_eq_true rfl⟩ ⟨by omega, by omega⟩ ?_
  refine zw_aload_n hX dX18_heard_6 rfl ?_
  obtain ⟨v3, g, h⟩ := zb_some h
  refine zw_geti hX zl_X18_192 dX18_heard_7 g ?_
  obtain ⟨_, gi, h⟩ := zb_some h
  obtain ⟨r5, g, h⟩ := zb_some h
  refine zc_Vi (as := [.int r2.1, .int v3]) hX gi (zt_X18_goes (d := d - 1) (by omega) g) zl_X18_199 rfl dX18_heard_10 ⟨rfl, rfl, Nat.le_of_ble_eq_true rfl⟩ ⟨by omega, by omega⟩ ?_
  refine zw_if_eq (tgt := 28) hX dX18_heard_13 (by decide) (fun c13 => ?_) (fun c13 => ?_)
  · rw [if_pos c13] at h
    refine zw_iconst (v := (0 : Int32)) hX dX18_heard_28 (by decide) ?_
    obtain rfl := Option.some.inj h
    exact zw_iret hX hr dX18_heard_29 rfl ⟨rfl, rfl⟩
  · rw [if_neg c13] at h
    refine zw_aload_n hX dX18_heard_16 rfl ?_
    obtain ⟨b6, g, h⟩ := zb_some h
    refine zw_getr hX zl_X18_42 dX18_heard_17 g ?_
    obtain ⟨b7, g, h⟩ := zb_some h
    refine zw_getr hX zl_X18_581 dX18_heard_20 g ?_
    refine zw_iload_n hX dX18_heard_23 rfl ?_
    obtain ⟨v8, g, h⟩ := zb_some h
    refine zw_xi hX dX18_heard_24 g ?_
    refine zw_goto (tgt := 29) hX dX18_heard_25 (by decide) ?_
    obtain rfl := Option.some.inj h
    exact zw_iret hX hr dX18_heard_29 rfl ⟨rfl, rfl⟩
set_option maxHeartbeats 4000000 in
set_option maxRecDepth 100000 in
theorem zt_X18_byteAt_J22 {p : Program} {l : Launch} {e : Env} {R : Room} {s : State} {m : MethodId} {args : Array Value} {below : List Frame} {meth : Method} {c : Code} {V : zm_V} {mc ms d rc rs : Nat} (hX : zm_X p R s m args meth c RX18 "byteAt" cX18_byteAt 2 zk_E V mc ms) (hr : meth.sig.returnType = (some .int)) (hR : R.frames = d ∧ R.locals = 64 * d) (hd : 2 ≤ d) {N : Nat} {a0 : Nat} {i1 : Int32} {t0 : Nat} {t1 : Int32} {out : (Int32 × zm_S)} {S : zm_S} (h : zf_X18_byteAt_J22 N a0 i1 t0 t1 S = some out) : zw p l e R s m args below meth c (vx_MQ below (zm_Qc zk_E V (zo_i out)) (zm_XC zk_E V zo_x) args s mc ms (fun q => V.2.2.2.1 ≤ q)) 2 zk_E V mc ms 22 [(0, .ref a0), (1, .int i1)] [.int t1, .ref t0] S rc rs := by
  unfold zf_X18_byteAt_J22 at h
  refine zw_aload_n hX dX18_byteAt_22 rfl ?_
  obtain ⟨v1, g, h⟩ := zb_some h
  refine zw_geti hX zl_X18_192 dX18_byteAt_23 g ?_
  obtain ⟨_, gi, h⟩ := zb_some h
  obtain ⟨r3, g, h⟩ := zb_some h
  refine zc_Vi (as := [.int t1, .int v1]) hX gi (zt_X18_goes (d := d - 1) (by omega) g) zl_X18_199 rfl dX18_byteAt_26 ⟨rfl, rfl, Nat.le_of_ble_eq_true rfl⟩ ⟨by omega, by omega⟩ ?_
  refine zw_if_eq (tgt := 58) hX dX18_byteAt_29 (by decide) (fun c29 => ?_) (fun c29 => ?_)
  · rw [if_pos c29] at h
    refine zw_iconst (v := (0 : Int32)) hX dX18_byteAt_58 (by decide) ?_
    obtain rfl := Option.some.inj h
    exact zw_iret hX hr dX18_byteAt_59 rfl ⟨rfl, rfl⟩
  · rw [if_neg c29] at h
    refine zw_iload_n hX dX18_byteAt_32 rfl ?_
    refine zw_if_ge (tgt := 46) hX dX18_byteAt_33 (by decide) (fun c33 => ?_) (fun c33 => ?_)
    · rw [if_pos c33] at h
      refine zw_aload_n hX dX18_byteAt_46 rfl ?_
      obtain ⟨b4, g, h⟩ := zb_some h
      refine zw_getr hX zl_X18_42 dX18_byteAt_47 g ?_
      obtain ⟨b5, g, h⟩ := zb_some h
      refine zw_getr hX zl_X18_588 dX18_byteAt_50 g ?_
      refine zw_iload_n hX dX18_byteAt_53 rfl ?_
      obtain ⟨v6, g, h⟩ := zb_some h
      refine zw_xi hX dX18_byteAt_54 g ?_
      refine zw_goto (tgt := 59) hX dX18_byteAt_55 (by decide) ?_
      obtain rfl := Option.some.inj h
      exact zw_iret hX hr dX18_byteAt_59 rfl ⟨rfl, rfl⟩
    · rw [if_neg c33] at h
      refine zw_aload_n hX dX18_byteAt_36 rfl ?_
      obtain ⟨b7, g, h⟩ := zb_some h
      refine zw_getr hX zl_X18_42 dX18_byteAt_37 g ?_
      obtain ⟨v8, g, h⟩ := zb_some h
      refine zw_geti hX zl_X18_585 dX18_byteAt_40 g ?_
      refine zw_goto (tgt := 59) hX dX18_byteAt_43 (by decide) ?_
      obtain rfl := Option.some.inj h
      exact zw_iret hX hr dX18_byteAt_59 rfl ⟨rfl, rfl⟩
set_option maxHeartbeats 4000000 in
set_option maxRecDepth 100000 in
theorem zt_X18_byteAt_J21 {p : Program} {l : Launch} {e : Env} {R : Room} {s : State} {m : MethodId} {args : Array Value} {below : List Frame} {meth : Method} {c : Code} {V : zm_V} {mc ms d rc rs : Nat} (hX : zm_X p R s m args meth c RX18 "byteAt" cX18_byteAt 2 zk_E V mc ms) (hr : meth.sig.returnType = (some .int)) (hR : R.frames = d ∧ R.locals = 64 * d) (hd : 2 ≤ d) {N : Nat} {a0 : Nat} {i1 : Int32} {t0 : Nat} {out : (Int32 × zm_S)} {S : zm_S} (h : zf_X18_byteAt_J21 N a0 i1 t0 S = some out) : zw p l e R s m args below meth c (vx_MQ below (zm_Qc zk_E V (zo_i out)) (zm_XC zk_E V zo_x) args s mc ms (fun q => V.2.2.2.1 ≤ q)) 2 zk_E V mc ms 21 [(0, .ref a0), (1, .int i1)] [.ref t0] S rc rs := by
  unfold zf_X18_byteAt_J21 at h
  refine zw_iconst (v := (0 : Int32)) hX dX18_byteAt_21 (by decide) ?_
  refine zw_sub (lv' := [(0, .ref a0), (1, .int i1)]) (List.forall_mem_cons.mpr ⟨rfl, (List.forall_mem_cons.mpr ⟨rfl, zs_nil⟩)⟩) ?_
  exact zt_X18_byteAt_J22 hX hr hR hd h
set_option maxHeartbeats 4000000 in
set_option maxRecDepth 100000 in
theorem zt_X18_byteAt {l : Launch} {V : zm_V} {N : Nat} {S : zm_S} {out : (Int32 × zm_S)} {d : Nat} {a0 : Nat} {i1 : Int32} (hd : 2 ≤ d) (h : zf_X18_byteAt N a0 i1 S = some out) : zm_Met l zk_E V yX18_byteAt (.code yX18_byteAt cX18_byteAt 2 (some .int)) d [.ref a0, .int i1] S 0 0 (zo_i out) zo_x := by
  refine zm_of (by decide +kernel) (Nat.le_of_ble_eq_true rfl) ?_
  intro p e R s m args below meth c hRR hX hr hxt
  have hR : R.frames = d ∧ R.locals = 64 * d := by rw [hRR]; exact ⟨rfl, rfl⟩
  have hX : zm_X p R s m args meth c RX18 "byteAt" cX18_byteAt 2 zk_E V 0 0 := hX
  unfold zf_X18_byteAt at h
  refine zw_sub (lv' := [(0, .ref a0), (1, .int i1)]) (List.forall_mem_cons.mpr ⟨rfl, (List.forall_mem_cons.mpr ⟨rfl, zs_nil⟩)⟩) ?_
  refine zw_aload_n hX dX18_byteAt_0 rfl ?_
  refine zw_iload_n hX dX18_byteAt_1 rfl ?_
  refine zw_iconst (v := (-1 : Int32)) hX dX18_byteAt_2 (by decide) ?_
  refine zw_icmp_lt (tgt := 21) hX dX18_byteAt_3 (by decide) (fun c3 => ?_) (fun c3 => ?_)
  · rw [if_pos c3] at h
    refine zw_sub (lv' := [(0, .ref a0), (1, .int i1)]) (List.forall_mem_cons.mpr ⟨rfl, (List.forall_mem_cons.mpr ⟨rfl, zs_nil⟩)⟩) ?_
    exact zt_X18_byteAt_J21 hX hr hR hd h
  · rw [if_neg c3] at h
    refine zw_iload_n hX dX18_byteAt_6 rfl ?_
    refine zw_aload_n hX dX18_byteAt_7 rfl ?_
    obtain ⟨b9, g, h⟩ := zb_some h
    refine zw_getr hX zl_X18_42 dX18_byteAt_8 g ?_
    obtain ⟨v10, g, h⟩ := zb_some h
    refine zw_geti hX zl_X18_584 dX18_byteAt_11 g ?_
    refine zw_icmp_ge (tgt := 21) hX dX18_byteAt_14 (by decide) (fun c14 => ?_) (fun c14 => ?_)
    · rw [if_pos c14] at h
      refine zw_sub (lv' := [(0, .ref a0), (1, .int i1)]) (List.forall_mem_cons.mpr ⟨rfl, (List.forall_mem_cons.mpr ⟨rfl, zs_nil⟩)⟩) ?_
      exact zt_X18_byteAt_J21 hX hr hR hd h
    · rw [if_neg c14] at h
      refine zw_iconst (v := (1 : Int32)) hX dX18_byteAt_17 (by decide) ?_
      refine zw_goto (tgt := 22) hX dX18_byteAt_18 (by decide) ?_
      refine zw_sub (lv' := [(0, .ref a0), (1, .int i1)]) (List.forall_mem_cons.mpr ⟨rfl, (List.forall_mem_cons.mpr ⟨rfl, zs_nil⟩)⟩) ?_
      exact zt_X18_byteAt_J22 hX hr hR hd h
set_option maxHeartbeats 4000000 in
set_option maxRecDepth 100000 in
theorem zt_X18_car_J46 {p : Program} {l : Launch} {e : Env} {R : Room} {s : State} {m : MethodId} {args : Array Value} {below : List Frame} {meth : Method} {c : Code} {V : zm_V} {mc ms d rc rs : Nat} (hX : zm_X p R s m args meth c RX18 "car" cX18_car 3 zk_E V mc ms) (hr : meth.sig.returnType = (some .int)) (hR : R.frames = d ∧ R.locals = 64 * d) (hd : 2 ≤ d) {N : Nat} {a0 : Nat} {i1 : Int32} {i2 : Int32} {t0 : Nat} {t1 : Int32} {t2 : Int32} {out : (Int32 × zm_S)} {S : zm_S} (h : zf_X18_car_J46 N a0 i1 i2 t0 t1 t2 S = some out) : zw p l e R s m args below meth c (vx_MQ below (zm_Qc zk_E V (zo_i out)) (zm_XC zk_E V zo_x) args s mc ms (fun q => V.2.2.2.1 ≤ q)) 3 zk_E V mc ms 46 [(0, .ref a0), (1, .int i1), (2, .int i2)] [.int t2, .int t1, .ref t0] S rc rs := by
  unfold zf_X18_car_J46 at h
  obtain ⟨_, gi, h⟩ := zb_some h
  obtain ⟨r5, g, h⟩ := zb_some h
  refine zc_Vi (as := [.int t1, .int t2]) hX gi (zt_X18_goes (d := d - 1) (by omega) g) zl_X18_199 rfl dX18_car_46 ⟨rfl, rfl, Nat.le_of_ble_eq_true rfl⟩ ⟨by omega, by omega⟩ ?_
  refine zw_if_eq (tgt := 64) hX dX18_car_49 (by decide) (fun c49 => ?_) (fun c49 => ?_)
  · rw [if_pos c49] at h
    refine zw_iconst (v := (0 : Int32)) hX dX18_car_64 (by decide) ?_
    obtain rfl := Option.some.inj h
    exact zw_iret hX hr dX18_car_65 rfl ⟨rfl, rfl⟩
  · rw [if_neg c49] at h
    refine zw_aload_n hX dX18_car_52 rfl ?_
    obtain ⟨b6, g, h⟩ := zb_some h
    refine zw_getr hX zl_X18_49 dX18_car_53 g ?_
    refine zw_iload_n hX dX18_car_56 rfl ?_
    refine zw_iload_n hX dX18_car_57 rfl ?_
    obtain ⟨_, gi, h⟩ := zb_some h
    obtain ⟨r8, g, h⟩ := zb_some h
    refine zc_Vi (as := [.int i1, .int i2]) hX gi (zt_X13_car (d := d - 1) (by omega) g) zl_X18_597 rfl dX18_car_58 ⟨rfl, rfl, Nat.le_of_ble_eq_true rfl⟩ ⟨by omega, by omega⟩ ?_
    refine zw_goto (tgt := 65) hX dX18_car_61 (by decide) ?_
    obtain rfl := Option.some.inj h
    exact zw_iret hX hr dX18_car_65 rfl ⟨rfl, rfl⟩
set_option maxHeartbeats 4000000 in
set_option maxRecDepth 100000 in
theorem zt_X18_car_J45 {p : Program} {l : Launch} {e : Env} {R : Room} {s : State} {m : MethodId} {args : Array Value} {below : List Frame} {meth : Method} {c : Code} {V : zm_V} {mc ms d rc rs : Nat} (hX : zm_X p R s m args meth c RX18 "car" cX18_car 3 zk_E V mc ms) (hr : meth.sig.returnType = (some .int)) (hR : R.frames = d ∧ R.locals = 64 * d) (hd : 2 ≤ d) {N : Nat} {a0 : Nat} {i1 : Int32} {i2 : Int32} {t0 : Nat} {t1 : Int32} {out : (Int32 × zm_S)} {S : zm_S} (h : zf_X18_car_J45 N a0 i1 i2 t0 t1 S = some out) : zw p l e R s m args below meth c (vx_MQ below (zm_Qc zk_E V (zo_i out)) (zm_XC zk_E V zo_x) args s mc ms (fun q => V.2.2.2.1 ≤ q)) 3 zk_E V mc ms 45 [(0, .ref a0), (1, .int i1), (2, .int i2)] [.int t1, .ref t0] S rc rs := by
  unfold zf_X18_car_J45 at h
  refine zw_iconst (v := (0 : Int32)) hX dX18_car_45 (by decide) ?_
  refine zw_sub (lv' := [(0, .ref a0), (1, .int i1), (2, .int i2)]) (List.forall_mem_cons.mpr ⟨rfl, (List.forall_mem_cons.mpr ⟨rfl, (List.forall_mem_cons.mpr ⟨rfl, zs_nil⟩)⟩)⟩) ?_
  exact zt_X18_car_J46 hX hr hR hd h
set_option maxHeartbeats 4000000 in
set_option maxRecDepth 100000 in
theorem zt_X18_car_J23 {p : Program} {l : Launch} {e : Env} {R : Room} {s : State} {m : MethodId} {args : Array Value} {below : List Frame} {meth : Method} {c : Code} {V : zm_V} {mc ms d rc rs : Nat} (hX : zm_X p R s m args meth c RX18 "car" cX18_car 3 zk_E V mc ms) (hr : meth.sig.returnType = (some .int)) (hR : R.frames = d ∧ R.locals = 64 * d) (hd : 2 ≤ d) {N : Nat} {a0 : Nat} {i1 : Int32} {i2 : Int32} {t0 : Nat} {t1 : Int32} {out : (Int32 × zm_S)} {S : zm_S} (h : zf_X18_car_J23 N a0 i1 i2 t0 t1 S = some out) : zw p l e R s m args below meth c (vx_MQ below (zm_Qc zk_E V (zo_i out)) (zm_XC zk_E V zo_x) args s mc ms (fun q => V.2.2.2.1 ≤ q)) 3 zk_E V mc ms 23 [(0, .ref a0), (1, .int i1), (2, .int i2)] [.int t1, .ref t0] S rc rs := by
  unfold zf_X18_car_J23 at h
  refine zw_aload_n hX dX18_car_23 rfl ?_
  obtain ⟨v3, g, h⟩ := zb_some h
  refine zw_geti hX zl_X18_192 dX18_car_24 g ?_
  refine zw_if_eq (tgt := 45) hX dX18_car_27 (by decide) (fun c27 => ?_) (fun c27 => ?_)
  · rw [if_pos c27] at h
    refine zw_sub (lv' := [(0, .ref a0), (1, .int i1), (2, .int i2)]) (List.forall_mem_cons.mpr ⟨rfl, (List.forall_mem_cons.mpr ⟨rfl, (List.forall_mem_cons.mpr ⟨rfl, zs_nil⟩)⟩)⟩) ?_
    exact zt_X18_car_J45 hX hr hR hd h
  · rw [if_neg c27] at h
    refine zw_aload_n hX dX18_car_30 rfl ?_
    obtain ⟨b9, g, h⟩ := zb_some h
    refine zw_getr hX zl_X18_49 dX18_car_31 g ?_
    obtain ⟨v10, g, h⟩ := zb_some h
    refine zw_geti hX zl_X18_594 dX18_car_34 g ?_
    refine zw_iconst (v := (4 : Int32)) hX dX18_car_37 (by decide) ?_
    refine zw_icmp_ge (tgt := 45) hX dX18_car_38 (by decide) (fun c38 => ?_) (fun c38 => ?_)
    · rw [if_pos c38] at h
      refine zw_sub (lv' := [(0, .ref a0), (1, .int i1), (2, .int i2)]) (List.forall_mem_cons.mpr ⟨rfl, (List.forall_mem_cons.mpr ⟨rfl, (List.forall_mem_cons.mpr ⟨rfl, zs_nil⟩)⟩)⟩) ?_
      exact zt_X18_car_J45 hX hr hR hd h
    · rw [if_neg c38] at h
      refine zw_iconst (v := (1 : Int32)) hX dX18_car_41 (by decide) ?_
      refine zw_goto (tgt := 46) hX dX18_car_42 (by decide) ?_
      refine zw_sub (lv' := [(0, .ref a0), (1, .int i1), (2, .int i2)]) (List.forall_mem_cons.mpr ⟨rfl, (List.forall_mem_cons.mpr ⟨rfl, (List.forall_mem_cons.mpr ⟨rfl, zs_nil⟩)⟩)⟩) ?_
      exact zt_X18_car_J46 hX hr hR hd h
set_option maxHeartbeats 4000000 in
set_option maxRecDepth 100000 in
theorem zt_X18_car_J22 {p : Program} {l : Launch} {e : Env} {R : Room} {s : State} {m : MethodId} {args : Array Value} {below : List Frame} {meth : Method} {c : Code} {V : zm_V} {mc ms d rc rs : Nat} (hX : zm_X p R s m args meth c RX18 "car" cX18_car 3 zk_E V mc ms) (hr : meth.sig.returnType = (some .int)) (hR : R.frames = d ∧ R.locals = 64 * d) (hd : 2 ≤ d) {N : Nat} {a0 : Nat} {i1 : Int32} {i2 : Int32} {t0 : Nat} {out : (Int32 × zm_S)} {S : zm_S} (h : zf_X18_car_J22 N a0 i1 i2 t0 S = some out) : zw p l e R s m args below meth c (vx_MQ below (zm_Qc zk_E V (zo_i out)) (zm_XC zk_E V zo_x) args s mc ms (fun q => V.2.2.2.1 ≤ q)) 3 zk_E V mc ms 22 [(0, .ref a0), (1, .int i1), (2, .int i2)] [.ref t0] S rc rs := by
  unfold zf_X18_car_J22 at h
  refine zw_iconst (v := (0 : Int32)) hX dX18_car_22 (by decide) ?_
  refine zw_sub (lv' := [(0, .ref a0), (1, .int i1), (2, .int i2)]) (List.forall_mem_cons.mpr ⟨rfl, (List.forall_mem_cons.mpr ⟨rfl, (List.forall_mem_cons.mpr ⟨rfl, zs_nil⟩)⟩)⟩) ?_
  exact zt_X18_car_J23 hX hr hR hd h
set_option maxHeartbeats 4000000 in
set_option maxRecDepth 100000 in
theorem zt_X18_car {l : Launch} {V : zm_V} {N : Nat} {S : zm_S} {out : (Int32 × zm_S)} {d : Nat} {a0 : Nat} {i1 : Int32} {i2 : Int32} (hd : 2 ≤ d) (h : zf_X18_car N a0 i1 i2 S = some out) : zm_Met l zk_E V yX18_car (.code yX18_car cX18_car 3 (some .int)) d [.ref a0, .int i1, .int i2] S 0 0 (zo_i out) zo_x := by
  refine zm_of (by decide +kernel) (Nat.le_of_ble_eq_true rfl) ?_
  intro p e R s m args below meth c hRR hX hr hxt
  have hR : R.frames = d ∧ R.locals = 64 * d := by rw [hRR]; exact ⟨rfl, rfl⟩
  have hX : zm_X p R s m args meth c RX18 "car" cX18_car 3 zk_E V 0 0 := hX
  unfold zf_X18_car at h
  refine zw_sub (lv' := [(0, .ref a0), (1, .int i1), (2, .int i2)]) (List.forall_mem_cons.mpr ⟨rfl, (List.forall_mem_cons.mpr ⟨rfl, (List.forall_mem_cons.mpr ⟨rfl, zs_nil⟩)⟩)⟩) ?_
  refine zw_aload_n hX dX18_car_0 rfl ?_
  refine zw_iload_n hX dX18_car_1 rfl ?_
  obtain ⟨r2, g, h⟩ := zb_some h
  refine zc_Si (as := [.int i1]) hX (zt_X13_isFloor (d := d - 1) (by omega) g) zl_X18_591 dX18_car_2 ⟨rfl, rfl, Nat.le_of_ble_eq_true rfl⟩ ⟨by omega, by omega⟩ ?_
  refine zw_if_eq (tgt := 22) hX dX18_car_5 (by decide) (fun c5 => ?_) (fun c5 => ?_)
  · rw [if_pos c5] at h
    refine zw_sub (lv' := [(0, .ref a0), (1, .int i1), (2, .int i2)]) (List.forall_mem_cons.mpr ⟨rfl, (List.forall_mem_cons.mpr ⟨rfl, (List.forall_mem_cons.mpr ⟨rfl, zs_nil⟩)⟩)⟩) ?_
    exact zt_X18_car_J22 hX hr hR hd h
  · rw [if_neg c5] at h
    refine zw_iload_n hX dX18_car_8 rfl ?_
    refine zw_iconst (v := (1 : Int32)) hX dX18_car_9 (by decide) ?_
    refine zw_icmp_lt (tgt := 22) hX dX18_car_10 (by decide) (fun c10 => ?_) (fun c10 => ?_)
    · rw [if_pos c10] at h
      refine zw_sub (lv' := [(0, .ref a0), (1, .int i1), (2, .int i2)]) (List.forall_mem_cons.mpr ⟨rfl, (List.forall_mem_cons.mpr ⟨rfl, (List.forall_mem_cons.mpr ⟨rfl, zs_nil⟩)⟩)⟩) ?_
      exact zt_X18_car_J22 hX hr hR hd h
    · rw [if_neg c10] at h
      refine zw_iload_n hX dX18_car_13 rfl ?_
      refine zw_iconst (v := (5 : Int32)) hX dX18_car_14 (by decide) ?_
      refine zw_icmp_gt (tgt := 22) hX dX18_car_15 (by decide) (fun c15 => ?_) (fun c15 => ?_)
      · rw [if_pos c15] at h
        refine zw_sub (lv' := [(0, .ref a0), (1, .int i1), (2, .int i2)]) (List.forall_mem_cons.mpr ⟨rfl, (List.forall_mem_cons.mpr ⟨rfl, (List.forall_mem_cons.mpr ⟨rfl, zs_nil⟩)⟩)⟩) ?_
        exact zt_X18_car_J22 hX hr hR hd h
      · rw [if_neg c15] at h
        refine zw_iconst (v := (1 : Int32)) hX dX18_car_18 (by decide) ?_
        refine zw_goto (tgt := 23) hX dX18_car_19 (by decide) ?_
        refine zw_sub (lv' := [(0, .ref a0), (1, .int i1), (2, .int i2)]) (List.forall_mem_cons.mpr ⟨rfl, (List.forall_mem_cons.mpr ⟨rfl, (List.forall_mem_cons.mpr ⟨rfl, zs_nil⟩)⟩)⟩) ?_
        exact zt_X18_car_J23 hX hr hR hd h
set_option maxHeartbeats 4000000 in
set_option maxRecDepth 100000 in
theorem zt_X18_free_J38 {p : Program} {l : Launch} {e : Env} {R : Room} {s : State} {m : MethodId} {args : Array Value} {below : List Frame} {meth : Method} {c : Code} {V : zm_V} {mc ms d rc rs : Nat} (hX : zm_X p R s m args meth c RX18 "free" cX18_free 4 zk_E V mc ms) (hr : meth.sig.returnType = none) (hR : R.frames = d ∧ R.locals = 64 * d) (hd : 2 ≤ d) {N : Nat} {a0 : Nat} {i1 : Int32} {i2 : Int32} {i3 : Int32} {t0 : Nat} {t1 : Int32} {out : (Unit × zm_S)} {S : zm_S} (h : zf_X18_free_J38 N a0 i1 i2 i3 t0 t1 S = some out) : zw p l e R s m args below meth c (vx_MQ below (zm_Qc zk_E V (zo_v out)) (zm_XC zk_E V zo_x) args s mc ms (fun q => V.2.2.2.1 ≤ q)) 4 zk_E V mc ms 38 [(0, .ref a0), (1, .int i1), (2, .int i2), (3, .int i3)] [.int t1, .ref t0] S rc rs := by
  unfold zf_X18_free_J38 at h
  refine zw_aload_n hX dX18_free_38 rfl ?_
  obtain ⟨v5, g, h⟩ := zb_some h
  refine zw_geti hX zl_X18_192 dX18_free_39 g ?_
  obtain ⟨_, gi, h⟩ := zb_some h
  obtain ⟨r7, g, h⟩ := zb_some h
  refine zc_Vi (as := [.int t1, .int v5]) hX gi (zt_X18_goes (d := d - 1) (by omega) g) zl_X18_199 rfl dX18_free_42 ⟨rfl, rfl, Nat.le_of_ble_eq_true rfl⟩ ⟨by omega, by omega⟩ ?_
  refine zw_if_eq (tgt := 68) hX dX18_free_45 (by decide) (fun c45 => ?_) (fun c45 => ?_)
  · rw [if_pos c45] at h
    obtain rfl := Option.some.inj h
    exact zw_vret hX hr dX18_free_68 ⟨rfl, rfl⟩
  · rw [if_neg c45] at h
    refine zw_aload_n hX dX18_free_48 rfl ?_
    obtain ⟨b8, g, h⟩ := zb_some h
    refine zw_getr hX zl_X18_49 dX18_free_49 g ?_
    obtain ⟨b9, g, h⟩ := zb_some h
    refine zw_getr hX zl_X18_601 dX18_free_52 g ?_
    refine zw_iload_n hX dX18_free_55 rfl ?_
    refine zw_iload_n hX dX18_free_56 rfl ?_
    obtain ⟨S10, g, h⟩ := zb_some h
    refine zw_si hX dX18_free_57 g ?_
    refine zw_aload_n hX dX18_free_58 rfl ?_
    obtain ⟨b11, g, h⟩ := zb_some h
    refine zw_getr hX zl_X18_49 dX18_free_59 g ?_
    obtain ⟨b12, g, h⟩ := zb_some h
    refine zw_getr hX zl_X18_604 dX18_free_62 g ?_
    refine zw_iload_n hX dX18_free_65 rfl ?_
    refine zw_iload_n hX dX18_free_66 rfl ?_
    obtain ⟨S13, g, h⟩ := zb_some h
    refine zw_si hX dX18_free_67 g ?_
    obtain rfl := Option.some.inj h
    exact zw_vret hX hr dX18_free_68 ⟨rfl, rfl⟩
set_option maxHeartbeats 4000000 in
set_option maxRecDepth 100000 in
theorem zt_X18_free_J37 {p : Program} {l : Launch} {e : Env} {R : Room} {s : State} {m : MethodId} {args : Array Value} {below : List Frame} {meth : Method} {c : Code} {V : zm_V} {mc ms d rc rs : Nat} (hX : zm_X p R s m args meth c RX18 "free" cX18_free 4 zk_E V mc ms) (hr : meth.sig.returnType = none) (hR : R.frames = d ∧ R.locals = 64 * d) (hd : 2 ≤ d) {N : Nat} {a0 : Nat} {i1 : Int32} {i2 : Int32} {i3 : Int32} {t0 : Nat} {out : (Unit × zm_S)} {S : zm_S} (h : zf_X18_free_J37 N a0 i1 i2 i3 t0 S = some out) : zw p l e R s m args below meth c (vx_MQ below (zm_Qc zk_E V (zo_v out)) (zm_XC zk_E V zo_x) args s mc ms (fun q => V.2.2.2.1 ≤ q)) 4 zk_E V mc ms 37 [(0, .ref a0), (1, .int i1), (2, .int i2), (3, .int i3)] [.ref t0] S rc rs := by
  unfold zf_X18_free_J37 at h
  refine zw_iconst (v := (0 : Int32)) hX dX18_free_37 (by decide) ?_
  refine zw_sub (lv' := [(0, .ref a0), (1, .int i1), (2, .int i2), (3, .int i3)]) (List.forall_mem_cons.mpr ⟨rfl, (List.forall_mem_cons.mpr ⟨rfl, (List.forall_mem_cons.mpr ⟨rfl, (List.forall_mem_cons.mpr ⟨rfl, zs_nil⟩)⟩)⟩)⟩) ?_
  exact zt_X18_free_J38 hX hr hR hd h
set_option maxHeartbeats 4000000 in
set_option maxRecDepth 100000 in
theorem zt_X18_free {l : Launch} {V : zm_V} {N : Nat} {S : zm_S} {out : (Unit × zm_S)} {d : Nat} {a0 : Nat} {i1 : Int32} {i2 : Int32} {i3 : Int32} (hd : 2 ≤ d) (h : zf_X18_free N a0 i1 i2 i3 S = some out) : zm_Met l zk_E V yX18_free (.code yX18_free cX18_free 4 none) d [.ref a0, .int i1, .int i2, .int i3] S 0 0 (zo_v out) zo_x := by
  refine zm_of (by decide +kernel) (Nat.le_of_ble_eq_true rfl) ?_
  intro p e R s m args below meth c hRR hX hr hxt
  have hR : R.frames = d ∧ R.locals = 64 * d := by rw [hRR]; exact ⟨rfl, rfl⟩
  have hX : zm_X p R s m args meth c RX18 "free" cX18_free 4 zk_E V 0 0 := hX
  unfold zf_X18_free at h
  refine zw_sub (lv' := [(0, .ref a0), (1, .int i1), (2, .int i2), (3, .int i3)]) (List.forall_mem_cons.mpr ⟨rfl, (List.forall_mem_cons.mpr ⟨rfl, (List.forall_mem_cons.mpr ⟨rfl, (List.forall_mem_cons.mpr ⟨rfl, zs_nil⟩)⟩)⟩)⟩) ?_
  refine zw_aload_n hX dX18_free_0 rfl ?_
  refine zw_iload_n hX dX18_free_1 rfl ?_
  refine zw_aload_n hX dX18_free_2 rfl ?_
  obtain ⟨b1, g, h⟩ := zb_some h
  refine zw_getr hX zl_X18_49 dX18_free_3 g ?_
  obtain ⟨v2, g, h⟩ := zb_some h
  refine zw_geti hX zl_X18_594 dX18_free_6 g ?_
  obtain ⟨r4, g, h⟩ := zb_some h
  refine zc_Si (as := [.int i1, .int v2]) hX (zt_X18_isIn (d := d - 1) (by omega) g) zl_X18_207 dX18_free_9 ⟨rfl, rfl, Nat.le_of_ble_eq_true rfl⟩ ⟨by omega, by omega⟩ ?_
  refine zw_if_eq (tgt := 37) hX dX18_free_12 (by decide) (fun c12 => ?_) (fun c12 => ?_)
  · rw [if_pos c12] at h
    refine zw_sub (lv' := [(0, .ref a0), (1, .int i1), (2, .int i2), (3, .int i3)]) (List.forall_mem_cons.mpr ⟨rfl, (List.forall_mem_cons.mpr ⟨rfl, (List.forall_mem_cons.mpr ⟨rfl, (List.forall_mem_cons.mpr ⟨rfl, zs_nil⟩)⟩)⟩)⟩) ?_
    exact zt_X18_free_J37 hX hr hR hd h
  · rw [if_neg c12] at h
    refine zw_iload_n hX dX18_free_15 rfl ?_
    obtain ⟨r15, g, h⟩ := zb_some h
    refine zc_Si (as := [.int i2]) hX (zt_X13_isFloor (d := d - 1) (by omega) g) zl_X18_591 dX18_free_16 ⟨rfl, rfl, Nat.le_of_ble_eq_true rfl⟩ ⟨by omega, by omega⟩ ?_
    refine zw_if_eq (tgt := 37) hX dX18_free_19 (by decide) (fun c19 => ?_) (fun c19 => ?_)
    · rw [if_pos c19] at h
      refine zw_sub (lv' := [(0, .ref a0), (1, .int i1), (2, .int i2), (3, .int i3)]) (List.forall_mem_cons.mpr ⟨rfl, (List.forall_mem_cons.mpr ⟨rfl, (List.forall_mem_cons.mpr ⟨rfl, (List.forall_mem_cons.mpr ⟨rfl, zs_nil⟩)⟩)⟩)⟩) ?_
      exact zt_X18_free_J37 hX hr hR hd h
    · rw [if_neg c19] at h
      refine zw_iload_n hX dX18_free_22 rfl ?_
      refine zw_if_lt (tgt := 37) hX dX18_free_23 (by decide) (fun c23 => ?_) (fun c23 => ?_)
      · rw [if_pos c23] at h
        refine zw_sub (lv' := [(0, .ref a0), (1, .int i1), (2, .int i2), (3, .int i3)]) (List.forall_mem_cons.mpr ⟨rfl, (List.forall_mem_cons.mpr ⟨rfl, (List.forall_mem_cons.mpr ⟨rfl, (List.forall_mem_cons.mpr ⟨rfl, zs_nil⟩)⟩)⟩)⟩) ?_
        exact zt_X18_free_J37 hX hr hR hd h
      · rw [if_neg c23] at h
        refine zw_iload_n hX dX18_free_26 rfl ?_
        refine zw_ldcw (v := (100000 : Int32)) hX dX18_free_27 zl_X18_600 ?_
        refine zw_icmp_gt (tgt := 37) hX dX18_free_30 (by decide) (fun c30 => ?_) (fun c30 => ?_)
        · rw [if_pos c30] at h
          refine zw_sub (lv' := [(0, .ref a0), (1, .int i1), (2, .int i2), (3, .int i3)]) (List.forall_mem_cons.mpr ⟨rfl, (List.forall_mem_cons.mpr ⟨rfl, (List.forall_mem_cons.mpr ⟨rfl, (List.forall_mem_cons.mpr ⟨rfl, zs_nil⟩)⟩)⟩)⟩) ?_
          exact zt_X18_free_J37 hX hr hR hd h
        · rw [if_neg c30] at h
          refine zw_iconst (v := (1 : Int32)) hX dX18_free_33 (by decide) ?_
          refine zw_goto (tgt := 38) hX dX18_free_34 (by decide) ?_
          refine zw_sub (lv' := [(0, .ref a0), (1, .int i1), (2, .int i2), (3, .int i3)]) (List.forall_mem_cons.mpr ⟨rfl, (List.forall_mem_cons.mpr ⟨rfl, (List.forall_mem_cons.mpr ⟨rfl, (List.forall_mem_cons.mpr ⟨rfl, zs_nil⟩)⟩)⟩)⟩) ?_
          exact zt_X18_free_J38 hX hr hR hd h
set_option maxHeartbeats 4000000 in
set_option maxRecDepth 100000 in
theorem zt_X18_span_J39 {p : Program} {l : Launch} {e : Env} {R : Room} {s : State} {m : MethodId} {args : Array Value} {below : List Frame} {meth : Method} {c : Code} {V : zm_V} {mc ms d rc rs : Nat} (hX : zm_X p R s m args meth c RX18 "span" cX18_span 4 zk_E V mc ms) (hr : meth.sig.returnType = none) (hR : R.frames = d ∧ R.locals = 64 * d) (hd : 2 ≤ d) {N : Nat} {a0 : Nat} {i1 : Int32} {i2 : Int32} {i3 : Int32} {t0 : Nat} {t1 : Int32} {out : (Unit × zm_S)} {S : zm_S} (h : zf_X18_span_J39 N a0 i1 i2 i3 t0 t1 S = some out) : zw p l e R s m args below meth c (vx_MQ below (zm_Qc zk_E V (zo_v out)) (zm_XC zk_E V zo_x) args s mc ms (fun q => V.2.2.2.1 ≤ q)) 4 zk_E V mc ms 39 [(0, .ref a0), (1, .int i1), (2, .int i2), (3, .int i3)] [.int t1, .ref t0] S rc rs := by
  unfold zf_X18_span_J39 at h
  refine zw_aload_n hX dX18_span_39 rfl ?_
  obtain ⟨v5, g, h⟩ := zb_some h
  refine zw_geti hX zl_X18_192 dX18_span_40 g ?_
  obtain ⟨_, gi, h⟩ := zb_some h
  obtain ⟨r7, g, h⟩ := zb_some h
  refine zc_Vi (as := [.int t1, .int v5]) hX gi (zt_X18_goes (d := d - 1) (by omega) g) zl_X18_199 rfl dX18_span_43 ⟨rfl, rfl, Nat.le_of_ble_eq_true rfl⟩ ⟨by omega, by omega⟩ ?_
  refine zw_if_eq (tgt := 69) hX dX18_span_46 (by decide) (fun c46 => ?_) (fun c46 => ?_)
  · rw [if_pos c46] at h
    obtain rfl := Option.some.inj h
    exact zw_vret hX hr dX18_span_69 ⟨rfl, rfl⟩
  · rw [if_neg c46] at h
    refine zw_aload_n hX dX18_span_49 rfl ?_
    obtain ⟨b8, g, h⟩ := zb_some h
    refine zw_getr hX zl_X18_49 dX18_span_50 g ?_
    obtain ⟨b9, g, h⟩ := zb_some h
    refine zw_getr hX zl_X18_605 dX18_span_53 g ?_
    refine zw_iload_n hX dX18_span_56 rfl ?_
    refine zw_iload_n hX dX18_span_57 rfl ?_
    obtain ⟨S10, g, h⟩ := zb_some h
    refine zw_si hX dX18_span_58 g ?_
    refine zw_aload_n hX dX18_span_59 rfl ?_
    obtain ⟨b11, g, h⟩ := zb_some h
    refine zw_getr hX zl_X18_49 dX18_span_60 g ?_
    obtain ⟨b12, g, h⟩ := zb_some h
    refine zw_getr hX zl_X18_608 dX18_span_63 g ?_
    refine zw_iload_n hX dX18_span_66 rfl ?_
    refine zw_iload_n hX dX18_span_67 rfl ?_
    obtain ⟨S13, g, h⟩ := zb_some h
    refine zw_si hX dX18_span_68 g ?_
    obtain rfl := Option.some.inj h
    exact zw_vret hX hr dX18_span_69 ⟨rfl, rfl⟩
set_option maxHeartbeats 4000000 in
set_option maxRecDepth 100000 in
theorem zt_X18_span_J38 {p : Program} {l : Launch} {e : Env} {R : Room} {s : State} {m : MethodId} {args : Array Value} {below : List Frame} {meth : Method} {c : Code} {V : zm_V} {mc ms d rc rs : Nat} (hX : zm_X p R s m args meth c RX18 "span" cX18_span 4 zk_E V mc ms) (hr : meth.sig.returnType = none) (hR : R.frames = d ∧ R.locals = 64 * d) (hd : 2 ≤ d) {N : Nat} {a0 : Nat} {i1 : Int32} {i2 : Int32} {i3 : Int32} {t0 : Nat} {out : (Unit × zm_S)} {S : zm_S} (h : zf_X18_span_J38 N a0 i1 i2 i3 t0 S = some out) : zw p l e R s m args below meth c (vx_MQ below (zm_Qc zk_E V (zo_v out)) (zm_XC zk_E V zo_x) args s mc ms (fun q => V.2.2.2.1 ≤ q)) 4 zk_E V mc ms 38 [(0, .ref a0), (1, .int i1), (2, .int i2), (3, .int i3)] [.ref t0] S rc rs := by
  unfold zf_X18_span_J38 at h
  refine zw_iconst (v := (0 : Int32)) hX dX18_span_38 (by decide) ?_
  refine zw_sub (lv' := [(0, .ref a0), (1, .int i1), (2, .int i2), (3, .int i3)]) (List.forall_mem_cons.mpr ⟨rfl, (List.forall_mem_cons.mpr ⟨rfl, (List.forall_mem_cons.mpr ⟨rfl, (List.forall_mem_cons.mpr ⟨rfl, zs_nil⟩)⟩)⟩)⟩) ?_
  exact zt_X18_span_J39 hX hr hR hd h
set_option maxHeartbeats 4000000 in
set_option maxRecDepth 100000 in
theorem zt_X18_span {l : Launch} {V : zm_V} {N : Nat} {S : zm_S} {out : (Unit × zm_S)} {d : Nat} {a0 : Nat} {i1 : Int32} {i2 : Int32} {i3 : Int32} (hd : 2 ≤ d) (h : zf_X18_span N a0 i1 i2 i3 S = some out) : zm_Met l zk_E V yX18_span (.code yX18_span cX18_span 4 none) d [.ref a0, .int i1, .int i2, .int i3] S 0 0 (zo_v out) zo_x := by
  refine zm_of (by decide +kernel) (Nat.le_of_ble_eq_true rfl) ?_
  intro p e R s m args below meth c hRR hX hr hxt
  have hR : R.frames = d ∧ R.locals = 64 * d := by rw [hRR]; exact ⟨rfl, rfl⟩
  have hX : zm_X p R s m args meth c RX18 "span" cX18_span 4 zk_E V 0 0 := hX
  unfold zf_X18_span at h
  refine zw_sub (lv' := [(0, .ref a0), (1, .int i1), (2, .int i2), (3, .int i3)]) (List.forall_mem_cons.mpr ⟨rfl, (List.forall_mem_cons.mpr ⟨rfl, (List.forall_mem_cons.mpr ⟨rfl, (List.forall_mem_cons.mpr ⟨rfl, zs_nil⟩)⟩)⟩)⟩) ?_
  refine zw_aload_n hX dX18_span_0 rfl ?_
  refine zw_iload_n hX dX18_span_1 rfl ?_
  refine zw_aload_n hX dX18_span_2 rfl ?_
  obtain ⟨b1, g, h⟩ := zb_some h
  refine zw_getr hX zl_X18_49 dX18_span_3 g ?_
  obtain ⟨v2, g, h⟩ := zb_some h
  refine zw_geti hX zl_X18_594 dX18_span_6 g ?_
  obtain ⟨r4, g, h⟩ := zb_some h
  refine zc_Si (as := [.int i1, .int v2]) hX (zt_X18_isIn (d := d - 1) (by omega) g) zl_X18_207 dX18_span_9 ⟨rfl, rfl, Nat.le_of_ble_eq_true rfl⟩ ⟨by omega, by omega⟩ ?_
  refine zw_if_eq (tgt := 38) hX dX18_span_12 (by decide) (fun c12 => ?_) (fun c12 => ?_)
  · rw [if_pos c12] at h
    refine zw_sub (lv' := [(0, .ref a0), (1, .int i1), (2, .int i2), (3, .int i3)]) (List.forall_mem_cons.mpr ⟨rfl, (List.forall_mem_cons.mpr ⟨rfl, (List.forall_mem_cons.mpr ⟨rfl, (List.forall_mem_cons.mpr ⟨rfl, zs_nil⟩)⟩)⟩)⟩) ?_
    exact zt_X18_span_J38 hX hr hR hd h
  · rw [if_neg c12] at h
    refine zw_iload_n hX dX18_span_15 rfl ?_
    obtain ⟨r15, g, h⟩ := zb_some h
    refine zc_Si (as := [.int i2]) hX (zt_X13_isFloor (d := d - 1) (by omega) g) zl_X18_591 dX18_span_16 ⟨rfl, rfl, Nat.le_of_ble_eq_true rfl⟩ ⟨by omega, by omega⟩ ?_
    refine zw_if_eq (tgt := 38) hX dX18_span_19 (by decide) (fun c19 => ?_) (fun c19 => ?_)
    · rw [if_pos c19] at h
      refine zw_sub (lv' := [(0, .ref a0), (1, .int i1), (2, .int i2), (3, .int i3)]) (List.forall_mem_cons.mpr ⟨rfl, (List.forall_mem_cons.mpr ⟨rfl, (List.forall_mem_cons.mpr ⟨rfl, (List.forall_mem_cons.mpr ⟨rfl, zs_nil⟩)⟩)⟩)⟩) ?_
      exact zt_X18_span_J38 hX hr hR hd h
    · rw [if_neg c19] at h
      refine zw_iload_n hX dX18_span_22 rfl ?_
      obtain ⟨r17, g, h⟩ := zb_some h
      refine zc_Si (as := [.int i3]) hX (zt_X13_isFloor (d := d - 1) (by omega) g) zl_X18_591 dX18_span_23 ⟨rfl, rfl, Nat.le_of_ble_eq_true rfl⟩ ⟨by omega, by omega⟩ ?_
      refine zw_if_eq (tgt := 38) hX dX18_span_26 (by decide) (fun c26 => ?_) (fun c26 => ?_)
      · rw [if_pos c26] at h
        refine zw_sub (lv' := [(0, .ref a0), (1, .int i1), (2, .int i2), (3, .int i3)]) (List.forall_mem_cons.mpr ⟨rfl, (List.forall_mem_cons.mpr ⟨rfl, (List.forall_mem_cons.mpr ⟨rfl, (List.forall_mem_cons.mpr ⟨rfl, zs_nil⟩)⟩)⟩)⟩) ?_
        exact zt_X18_span_J38 hX hr hR hd h
      · rw [if_neg c26] at h
        refine zw_iload_n hX dX18_span_29 rfl ?_
        refine zw_iload_n hX dX18_span_30 rfl ?_
        refine zw_icmp_gt (tgt := 38) hX dX18_span_31 (by decide) (fun c31 => ?_) (fun c31 => ?_)
        · rw [if_pos c31] at h
          refine zw_sub (lv' := [(0, .ref a0), (1, .int i1), (2, .int i2), (3, .int i3)]) (List.forall_mem_cons.mpr ⟨rfl, (List.forall_mem_cons.mpr ⟨rfl, (List.forall_mem_cons.mpr ⟨rfl, (List.forall_mem_cons.mpr ⟨rfl, zs_nil⟩)⟩)⟩)⟩) ?_
          exact zt_X18_span_J38 hX hr hR hd h
        · rw [if_neg c31] at h
          refine zw_iconst (v := (1 : Int32)) hX dX18_span_34 (by decide) ?_
          refine zw_goto (tgt := 39) hX dX18_span_35 (by decide) ?_
          refine zw_sub (lv' := [(0, .ref a0), (1, .int i1), (2, .int i2), (3, .int i3)]) (List.forall_mem_cons.mpr ⟨rfl, (List.forall_mem_cons.mpr ⟨rfl, (List.forall_mem_cons.mpr ⟨rfl, (List.forall_mem_cons.mpr ⟨rfl, zs_nil⟩)⟩)⟩)⟩) ?_
          exact zt_X18_span_J39 hX hr hR hd h
set_option maxHeartbeats 4000000 in
set_option maxRecDepth 100000 in
theorem zt_X18_call_J62 {p : Program} {l : Launch} {e : Env} {R : Room} {s : State} {m : MethodId} {args : Array Value} {below : List Frame} {meth : Method} {c : Code} {V : zm_V} {mc ms d rc rs : Nat} (hX : zm_X p R s m args meth c RX18 "call" cX18_call 3 zk_E V mc ms) (hr : meth.sig.returnType = (some .int)) (hR : R.frames = d ∧ R.locals = 64 * d) (hd : 2 ≤ d) {N : Nat} {a0 : Nat} {i1 : Int32} {i2 : Int32} {t0 : Nat} {t1 : Int32} {t2 : Int32} {out : (Int32 × zm_S)} {S : zm_S} (h : zf_X18_call_J62 N a0 i1 i2 t0 t1 t2 S = some out) : zw p l e R s m args below meth c (vx_MQ below (zm_Qc zk_E V (zo_i out)) (zm_XC zk_E V zo_x) args s mc ms (fun q => V.2.2.2.1 ≤ q)) 3 zk_E V mc ms 62 [(0, .ref a0), (1, .int i1), (2, .int i2)] [.int t2, .int t1, .ref t0] S rc rs := by
  unfold zf_X18_call_J62 at h
  obtain ⟨_, gi, h⟩ := zb_some h
  obtain ⟨r5, g, h⟩ := zb_some h
  refine zc_Vi (as := [.int t1, .int t2]) hX gi (zt_X18_goes (d := d - 1) (by omega) g) zl_X18_199 rfl dX18_call_62 ⟨rfl, rfl, Nat.le_of_ble_eq_true rfl⟩ ⟨by omega, by omega⟩ ?_
  refine zw_if_eq (tgt := 80) hX dX18_call_65 (by decide) (fun c65 => ?_) (fun c65 => ?_)
  · rw [if_pos c65] at h
    refine zw_iconst (v := (0 : Int32)) hX dX18_call_80 (by decide) ?_
    obtain rfl := Option.some.inj h
    exact zw_iret hX hr dX18_call_81 rfl ⟨rfl, rfl⟩
  · rw [if_neg c65] at h
    refine zw_aload_n hX dX18_call_68 rfl ?_
    obtain ⟨b6, g, h⟩ := zb_some h
    refine zw_getr hX zl_X18_49 dX18_call_69 g ?_
    refine zw_iload_n hX dX18_call_72 rfl ?_
    refine zw_iload_n hX dX18_call_73 rfl ?_
    obtain ⟨_, gi, h⟩ := zb_some h
    obtain ⟨r8, g, h⟩ := zb_some h
    refine zc_Vi (as := [.int i1, .int i2]) hX gi (zt_X13_call (d := d - 1) (by omega) g) zl_X18_617 rfl dX18_call_74 ⟨rfl, rfl, Nat.le_of_ble_eq_true rfl⟩ ⟨by omega, by omega⟩ ?_
    refine zw_goto (tgt := 81) hX dX18_call_77 (by decide) ?_
    obtain rfl := Option.some.inj h
    exact zw_iret hX hr dX18_call_81 rfl ⟨rfl, rfl⟩
set_option maxHeartbeats 4000000 in
set_option maxRecDepth 100000 in
theorem zt_X18_call_J61 {p : Program} {l : Launch} {e : Env} {R : Room} {s : State} {m : MethodId} {args : Array Value} {below : List Frame} {meth : Method} {c : Code} {V : zm_V} {mc ms d rc rs : Nat} (hX : zm_X p R s m args meth c RX18 "call" cX18_call 3 zk_E V mc ms) (hr : meth.sig.returnType = (some .int)) (hR : R.frames = d ∧ R.locals = 64 * d) (hd : 2 ≤ d) {N : Nat} {a0 : Nat} {i1 : Int32} {i2 : Int32} {t0 : Nat} {t1 : Int32} {out : (Int32 × zm_S)} {S : zm_S} (h : zf_X18_call_J61 N a0 i1 i2 t0 t1 S = some out) : zw p l e R s m args below meth c (vx_MQ below (zm_Qc zk_E V (zo_i out)) (zm_XC zk_E V zo_x) args s mc ms (fun q => V.2.2.2.1 ≤ q)) 3 zk_E V mc ms 61 [(0, .ref a0), (1, .int i1), (2, .int i2)] [.int t1, .ref t0] S rc rs := by
  unfold zf_X18_call_J61 at h
  refine zw_iconst (v := (0 : Int32)) hX dX18_call_61 (by decide) ?_
  refine zw_sub (lv' := [(0, .ref a0), (1, .int i1), (2, .int i2)]) (List.forall_mem_cons.mpr ⟨rfl, (List.forall_mem_cons.mpr ⟨rfl, (List.forall_mem_cons.mpr ⟨rfl, zs_nil⟩)⟩)⟩) ?_
  exact zt_X18_call_J62 hX hr hR hd h
set_option maxHeartbeats 4000000 in
set_option maxRecDepth 100000 in
theorem zt_X18_call_J25 {p : Program} {l : Launch} {e : Env} {R : Room} {s : State} {m : MethodId} {args : Array Value} {below : List Frame} {meth : Method} {c : Code} {V : zm_V} {mc ms d rc rs : Nat} (hX : zm_X p R s m args meth c RX18 "call" cX18_call 3 zk_E V mc ms) (hr : meth.sig.returnType = (some .int)) (hR : R.frames = d ∧ R.locals = 64 * d) (hd : 2 ≤ d) {N : Nat} {a0 : Nat} {i1 : Int32} {i2 : Int32} {t0 : Nat} {t1 : Int32} {out : (Int32 × zm_S)} {S : zm_S} (h : zf_X18_call_J25 N a0 i1 i2 t0 t1 S = some out) : zw p l e R s m args below meth c (vx_MQ below (zm_Qc zk_E V (zo_i out)) (zm_XC zk_E V zo_x) args s mc ms (fun q => V.2.2.2.1 ≤ q)) 3 zk_E V mc ms 25 [(0, .ref a0), (1, .int i1), (2, .int i2)] [.int t1, .ref t0] S rc rs := by
  unfold zf_X18_call_J25 at h
  refine zw_aload_n hX dX18_call_25 rfl ?_
  obtain ⟨v3, g, h⟩ := zb_some h
  refine zw_geti hX zl_X18_192 dX18_call_26 g ?_
  refine zw_if_eq (tgt := 61) hX dX18_call_29 (by decide) (fun c29 => ?_) (fun c29 => ?_)
  · rw [if_pos c29] at h
    refine zw_sub (lv' := [(0, .ref a0), (1, .int i1), (2, .int i2)]) (List.forall_mem_cons.mpr ⟨rfl, (List.forall_mem_cons.mpr ⟨rfl, (List.forall_mem_cons.mpr ⟨rfl, zs_nil⟩)⟩)⟩) ?_
    exact zt_X18_call_J61 hX hr hR hd h
  · rw [if_neg c29] at h
    refine zw_aload_n hX dX18_call_32 rfl ?_
    obtain ⟨b9, g, h⟩ := zb_some h
    refine zw_getr hX zl_X18_49 dX18_call_33 g ?_
    obtain ⟨_, gi, h⟩ := zb_some h
    obtain ⟨r11, g, h⟩ := zb_some h
    refine zc_Vi (as := []) hX gi (zt_X13_many (d := d - 1) (by omega) g) zl_X18_611 rfl dX18_call_36 ⟨rfl, rfl, Nat.le_of_ble_eq_true rfl⟩ ⟨by omega, by omega⟩ ?_
    refine zw_bipush (v := (6 : Int32)) hX dX18_call_39 (by decide) ?_
    refine zw_icmp_ge (tgt := 61) hX dX18_call_41 (by decide) (fun c41 => ?_) (fun c41 => ?_)
    · rw [if_pos c41] at h
      refine zw_sub (lv' := [(0, .ref a0), (1, .int i1), (2, .int i2)]) (List.forall_mem_cons.mpr ⟨rfl, (List.forall_mem_cons.mpr ⟨rfl, (List.forall_mem_cons.mpr ⟨rfl, zs_nil⟩)⟩)⟩) ?_
      exact zt_X18_call_J61 hX hr hR hd h
    · rw [if_neg c41] at h
      refine zw_aload_n hX dX18_call_44 rfl ?_
      obtain ⟨b12, g, h⟩ := zb_some h
      refine zw_getr hX zl_X18_49 dX18_call_45 g ?_
      obtain ⟨v13, g, h⟩ := zb_some h
      refine zw_geti hX zl_X18_614 dX18_call_48 g ?_
      refine zw_sipush (v := (400 : Int32)) hX dX18_call_51 (by decide) ?_
      refine zw_icmp_ge (tgt := 61) hX dX18_call_54 (by decide) (fun c54 => ?_) (fun c54 => ?_)
      · rw [if_pos c54] at h
        refine zw_sub (lv' := [(0, .ref a0), (1, .int i1), (2, .int i2)]) (List.forall_mem_cons.mpr ⟨rfl, (List.forall_mem_cons.mpr ⟨rfl, (List.forall_mem_cons.mpr ⟨rfl, zs_nil⟩)⟩)⟩) ?_
        exact zt_X18_call_J61 hX hr hR hd h
      · rw [if_neg c54] at h
        refine zw_iconst (v := (1 : Int32)) hX dX18_call_57 (by decide) ?_
        refine zw_goto (tgt := 62) hX dX18_call_58 (by decide) ?_
        refine zw_sub (lv' := [(0, .ref a0), (1, .int i1), (2, .int i2)]) (List.forall_mem_cons.mpr ⟨rfl, (List.forall_mem_cons.mpr ⟨rfl, (List.forall_mem_cons.mpr ⟨rfl, zs_nil⟩)⟩)⟩) ?_
        exact zt_X18_call_J62 hX hr hR hd h
set_option maxHeartbeats 4000000 in
set_option maxRecDepth 100000 in
theorem zt_X18_call_J24 {p : Program} {l : Launch} {e : Env} {R : Room} {s : State} {m : MethodId} {args : Array Value} {below : List Frame} {meth : Method} {c : Code} {V : zm_V} {mc ms d rc rs : Nat} (hX : zm_X p R s m args meth c RX18 "call" cX18_call 3 zk_E V mc ms) (hr : meth.sig.returnType = (some .int)) (hR : R.frames = d ∧ R.locals = 64 * d) (hd : 2 ≤ d) {N : Nat} {a0 : Nat} {i1 : Int32} {i2 : Int32} {t0 : Nat} {out : (Int32 × zm_S)} {S : zm_S} (h : zf_X18_call_J24 N a0 i1 i2 t0 S = some out) : zw p l e R s m args below meth c (vx_MQ below (zm_Qc zk_E V (zo_i out)) (zm_XC zk_E V zo_x) args s mc ms (fun q => V.2.2.2.1 ≤ q)) 3 zk_E V mc ms 24 [(0, .ref a0), (1, .int i1), (2, .int i2)] [.ref t0] S rc rs := by
  unfold zf_X18_call_J24 at h
  refine zw_iconst (v := (0 : Int32)) hX dX18_call_24 (by decide) ?_
  refine zw_sub (lv' := [(0, .ref a0), (1, .int i1), (2, .int i2)]) (List.forall_mem_cons.mpr ⟨rfl, (List.forall_mem_cons.mpr ⟨rfl, (List.forall_mem_cons.mpr ⟨rfl, zs_nil⟩)⟩)⟩) ?_
  exact zt_X18_call_J25 hX hr hR hd h
set_option maxHeartbeats 4000000 in
set_option maxRecDepth 100000 in
theorem zt_X18_call {l : Launch} {V : zm_V} {N : Nat} {S : zm_S} {out : (Int32 × zm_S)} {d : Nat} {a0 : Nat} {i1 : Int32} {i2 : Int32} (hd : 2 ≤ d) (h : zf_X18_call N a0 i1 i2 S = some out) : zm_Met l zk_E V yX18_call (.code yX18_call cX18_call 3 (some .int)) d [.ref a0, .int i1, .int i2] S 0 0 (zo_i out) zo_x := by
  refine zm_of (by decide +kernel) (Nat.le_of_ble_eq_true rfl) ?_
  intro p e R s m args below meth c hRR hX hr hxt
  have hR : R.frames = d ∧ R.locals = 64 * d := by rw [hRR]; exact ⟨rfl, rfl⟩
  have hX : zm_X p R s m args meth c RX18 "call" cX18_call 3 zk_E V 0 0 := hX
  unfold zf_X18_call at h
  refine zw_sub (lv' := [(0, .ref a0), (1, .int i1), (2, .int i2)]) (List.forall_mem_cons.mpr ⟨rfl, (List.forall_mem_cons.mpr ⟨rfl, (List.forall_mem_cons.mpr ⟨rfl, zs_nil⟩)⟩)⟩) ?_
  refine zw_aload_n hX dX18_call_0 rfl ?_
  refine zw_iload_n hX dX18_call_1 rfl ?_
  obtain ⟨r2, g, h⟩ := zb_some h
  refine zc_Si (as := [.int i1]) hX (zt_X13_isFloor (d := d - 1) (by omega) g) zl_X18_591 dX18_call_2 ⟨rfl, rfl, Nat.le_of_ble_eq_true rfl⟩ ⟨by omega, by omega⟩ ?_
  refine zw_if_eq (tgt := 24) hX dX18_call_5 (by decide) (fun c5 => ?_) (fun c5 => ?_)
  · rw [if_pos c5] at h
    refine zw_sub (lv' := [(0, .ref a0), (1, .int i1), (2, .int i2)]) (List.forall_mem_cons.mpr ⟨rfl, (List.forall_mem_cons.mpr ⟨rfl, (List.forall_mem_cons.mpr ⟨rfl, zs_nil⟩)⟩)⟩) ?_
    exact zt_X18_call_J24 hX hr hR hd h
  · rw [if_neg c5] at h
    refine zw_iload_n hX dX18_call_8 rfl ?_
    obtain ⟨r15, g, h⟩ := zb_some h
    refine zc_Si (as := [.int i2]) hX (zt_X13_isFloor (d := d - 1) (by omega) g) zl_X18_591 dX18_call_9 ⟨rfl, rfl, Nat.le_of_ble_eq_true rfl⟩ ⟨by omega, by omega⟩ ?_
    refine zw_if_eq (tgt := 24) hX dX18_call_12 (by decide) (fun c12 => ?_) (fun c12 => ?_)
    · rw [if_pos c12] at h
      refine zw_sub (lv' := [(0, .ref a0), (1, .int i1), (2, .int i2)]) (List.forall_mem_cons.mpr ⟨rfl, (List.forall_mem_cons.mpr ⟨rfl, (List.forall_mem_cons.mpr ⟨rfl, zs_nil⟩)⟩)⟩) ?_
      exact zt_X18_call_J24 hX hr hR hd h
    · rw [if_neg c12] at h
      refine zw_iload_n hX dX18_call_15 rfl ?_
      refine zw_iload_n hX dX18_call_16 rfl ?_
      refine zw_icmp_eq (tgt := 24) hX dX18_call_17 (by decide) (fun c17 => ?_) (fun c17 => ?_)
      · rw [if_pos c17] at h
        refine zw_sub (lv' := [(0, .ref a0), (1, .int i1), (2, .int i2)]) (List.forall_mem_cons.mpr ⟨rfl, (List.forall_mem_cons.mpr ⟨rfl, (List.forall_mem_cons.mpr ⟨rfl, zs_nil⟩)⟩)⟩) ?_
        exact zt_X18_call_J24 hX hr hR hd h
      · rw [if_neg c17] at h
        refine zw_iconst (v := (1 : Int32)) hX dX18_call_20 (by decide) ?_
        refine zw_goto (tgt := 25) hX dX18_call_21 (by decide) ?_
        refine zw_sub (lv' := [(0, .ref a0), (1, .int i1), (2, .int i2)]) (List.forall_mem_cons.mpr ⟨rfl, (List.forall_mem_cons.mpr ⟨rfl, (List.forall_mem_cons.mpr ⟨rfl, zs_nil⟩)⟩)⟩) ?_
        exact zt_X18_call_J25 hX hr hR hd h
set_option maxHeartbeats 4000000 in
set_option maxRecDepth 100000 in
theorem zt_X18_begin_J36 {p : Program} {l : Launch} {e : Env} {R : Room} {s : State} {m : MethodId} {args : Array Value} {below : List Frame} {meth : Method} {c : Code} {V : zm_V} {mc ms d rc rs : Nat} (hX : zm_X p R s m args meth c RX18 "begin" cX18_begin 3 zk_E V mc ms) (hr : meth.sig.returnType = (some .boolean)) (hR : R.frames = d ∧ R.locals = 64 * d) (hd : 3 ≤ d) {N : Nat} {a0 : Nat} {i1 : Int32} {i2 : Int32} {t0 : Nat} {t1 : Int32} {out : (Int32 × zm_S)} {S : zm_S} (h : zf_X18_begin_J36 N a0 i1 i2 t0 t1 S = some out) : zw p l e R s m args below meth c (vx_MQ below (zm_Qc zk_E V (zo_i out)) (zm_XC zk_E V zo_x) args s mc ms (fun q => V.2.2.2.1 ≤ q)) 3 zk_E V mc ms 36 [(0, .ref a0), (1, .int i1), (2, .int i2)] [.int t1, .ref t0] S rc rs := by
  unfold zf_X18_begin_J36 at h
  refine zw_aload_n hX dX18_begin_36 rfl ?_
  obtain ⟨v4, g, h⟩ := zb_some h
  refine zw_geti hX zl_X18_192 dX18_begin_37 g ?_
  obtain ⟨_, gi, h⟩ := zb_some h
  obtain ⟨r6, g, h⟩ := zb_some h
  refine zc_Vi (as := [.int t1, .int v4]) hX gi (zt_X18_goes (d := d - 1) (by omega) g) zl_X18_199 rfl dX18_begin_40 ⟨rfl, rfl, Nat.le_of_ble_eq_true rfl⟩ ⟨by omega, by omega⟩ ?_
  refine zw_if_eq (tgt := 62) hX dX18_begin_43 (by decide) (fun c43 => ?_) (fun c43 => ?_)
  · rw [if_pos c43] at h
    refine zw_iconst (v := (0 : Int32)) hX dX18_begin_62 (by decide) ?_
    obtain rfl := Option.some.inj h
    exact zw_iret hX hr dX18_begin_63 rfl ⟨rfl, rfl⟩
  · rw [if_neg c43] at h
    refine zw_aload_n hX dX18_begin_46 rfl ?_
    obtain ⟨b7, g, h⟩ := zb_some h
    refine zw_getr hX zl_X18_49 dX18_begin_47 g ?_
    refine zw_iload_n hX dX18_begin_50 rfl ?_
    refine zw_iload_n hX dX18_begin_51 rfl ?_
    obtain ⟨_, gi, h⟩ := zb_some h
    obtain ⟨r9, g, h⟩ := zb_some h
    refine zc_Vi (as := [.int i1, .int i2]) hX gi (zt_X13_begin (d := d - 1) (by omega) g) zl_X18_623 rfl dX18_begin_52 ⟨rfl, rfl, Nat.le_of_ble_eq_true rfl⟩ ⟨by omega, by omega⟩ ?_
    refine zw_if_eq (tgt := 62) hX dX18_begin_55 (by decide) (fun c55 => ?_) (fun c55 => ?_)
    · rw [if_pos c55] at h
      refine zw_iconst (v := (0 : Int32)) hX dX18_begin_62 (by decide) ?_
      obtain rfl := Option.some.inj h
      exact zw_iret hX hr dX18_begin_63 rfl ⟨rfl, rfl⟩
    · rw [if_neg c55] at h
      refine zw_iconst (v := (1 : Int32)) hX dX18_begin_58 (by decide) ?_
      refine zw_goto (tgt := 63) hX dX18_begin_59 (by decide) ?_
      obtain rfl := Option.some.inj h
      exact zw_iret hX hr dX18_begin_63 rfl ⟨rfl, rfl⟩
set_option maxHeartbeats 4000000 in
set_option maxRecDepth 100000 in
theorem zt_X18_begin_J35 {p : Program} {l : Launch} {e : Env} {R : Room} {s : State} {m : MethodId} {args : Array Value} {below : List Frame} {meth : Method} {c : Code} {V : zm_V} {mc ms d rc rs : Nat} (hX : zm_X p R s m args meth c RX18 "begin" cX18_begin 3 zk_E V mc ms) (hr : meth.sig.returnType = (some .boolean)) (hR : R.frames = d ∧ R.locals = 64 * d) (hd : 3 ≤ d) {N : Nat} {a0 : Nat} {i1 : Int32} {i2 : Int32} {t0 : Nat} {out : (Int32 × zm_S)} {S : zm_S} (h : zf_X18_begin_J35 N a0 i1 i2 t0 S = some out) : zw p l e R s m args below meth c (vx_MQ below (zm_Qc zk_E V (zo_i out)) (zm_XC zk_E V zo_x) args s mc ms (fun q => V.2.2.2.1 ≤ q)) 3 zk_E V mc ms 35 [(0, .ref a0), (1, .int i1), (2, .int i2)] [.ref t0] S rc rs := by
  unfold zf_X18_begin_J35 at h
  refine zw_iconst (v := (0 : Int32)) hX dX18_begin_35 (by decide) ?_
  refine zw_sub (lv' := [(0, .ref a0), (1, .int i1), (2, .int i2)]) (List.forall_mem_cons.mpr ⟨rfl, (List.forall_mem_cons.mpr ⟨rfl, (List.forall_mem_cons.mpr ⟨rfl, zs_nil⟩)⟩)⟩) ?_
  exact zt_X18_begin_J36 hX hr hR hd h
set_option maxHeartbeats 4000000 in
set_option maxRecDepth 100000 in
theorem zt_X18_begin_J31 {p : Program} {l : Launch} {e : Env} {R : Room} {s : State} {m : MethodId} {args : Array Value} {below : List Frame} {meth : Method} {c : Code} {V : zm_V} {mc ms d rc rs : Nat} (hX : zm_X p R s m args meth c RX18 "begin" cX18_begin 3 zk_E V mc ms) (hr : meth.sig.returnType = (some .boolean)) (hR : R.frames = d ∧ R.locals = 64 * d) (hd : 3 ≤ d) {N : Nat} {a0 : Nat} {i1 : Int32} {i2 : Int32} {t0 : Nat} {out : (Int32 × zm_S)} {S : zm_S} (h : zf_X18_begin_J31 N a0 i1 i2 t0 S = some out) : zw p l e R s m args below meth c (vx_MQ below (zm_Qc zk_E V (zo_i out)) (zm_XC zk_E V zo_x) args s mc ms (fun q => V.2.2.2.1 ≤ q)) 3 zk_E V mc ms 31 [(0, .ref a0), (1, .int i1), (2, .int i2)] [.ref t0] S rc rs := by
  unfold zf_X18_begin_J31 at h
  refine zw_iconst (v := (1 : Int32)) hX dX18_begin_31 (by decide) ?_
  refine zw_goto (tgt := 36) hX dX18_begin_32 (by decide) ?_
  refine zw_sub (lv' := [(0, .ref a0), (1, .int i1), (2, .int i2)]) (List.forall_mem_cons.mpr ⟨rfl, (List.forall_mem_cons.mpr ⟨rfl, (List.forall_mem_cons.mpr ⟨rfl, zs_nil⟩)⟩)⟩) ?_
  exact zt_X18_begin_J36 hX hr hR hd h
set_option maxHeartbeats 4000000 in
set_option maxRecDepth 100000 in
theorem zt_X18_begin {l : Launch} {V : zm_V} {N : Nat} {S : zm_S} {out : (Int32 × zm_S)} {d : Nat} {a0 : Nat} {i1 : Int32} {i2 : Int32} (hd : 3 ≤ d) (h : zf_X18_begin N a0 i1 i2 S = some out) : zm_Met l zk_E V yX18_begin (.code yX18_begin cX18_begin 3 (some .boolean)) d [.ref a0, .int i1, .int i2] S 0 0 (zo_i out) zo_x := by
  refine zm_of (by decide +kernel) (Nat.le_of_ble_eq_true rfl) ?_
  intro p e R s m args below meth c hRR hX hr hxt
  have hR : R.frames = d ∧ R.locals = 64 * d := by rw [hRR]; exact ⟨rfl, rfl⟩
  have hX : zm_X p R s m args meth c RX18 "begin" cX18_begin 3 zk_E V 0 0 := hX
  unfold zf_X18_begin at h
  refine zw_sub (lv' := [(0, .ref a0), (1, .int i1), (2, .int i2)]) (List.forall_mem_cons.mpr ⟨rfl, (List.forall_mem_cons.mpr ⟨rfl, (List.forall_mem_cons.mpr ⟨rfl, zs_nil⟩)⟩)⟩) ?_
  refine zw_aload_n hX dX18_begin_0 rfl ?_
  refine zw_aload_n hX dX18_begin_1 rfl ?_
  obtain ⟨b1, g, h⟩ := zb_some h
  refine zw_getr hX zl_X18_49 dX18_begin_2 g ?_
  refine zw_iload_n hX dX18_begin_5 rfl ?_
  obtain ⟨_, gi, h⟩ := zb_some h
  obtain ⟨r3, g, h⟩ := zb_some h
  refine zc_Vi (as := [.int i1]) hX gi (zt_X13_opens (d := d - 1) (by omega) g) zl_X18_620 rfl dX18_begin_6 ⟨rfl, rfl, Nat.le_of_ble_eq_true rfl⟩ ⟨by omega, by omega⟩ ?_
  refine zw_if_eq (tgt := 35) hX dX18_begin_9 (by decide) (fun c9 => ?_) (fun c9 => ?_)
  · rw [if_pos c9] at h
    refine zw_sub (lv' := [(0, .ref a0), (1, .int i1), (2, .int i2)]) (List.forall_mem_cons.mpr ⟨rfl, (List.forall_mem_cons.mpr ⟨rfl, (List.forall_mem_cons.mpr ⟨rfl, zs_nil⟩)⟩)⟩) ?_
    exact zt_X18_begin_J35 hX hr hR hd h
  · rw [if_neg c9] at h
    refine zw_iload_n hX dX18_begin_12 rfl ?_
    refine zw_iconst (v := (-1 : Int32)) hX dX18_begin_13 (by decide) ?_
    refine zw_icmp_eq (tgt := 31) hX dX18_begin_14 (by decide) (fun c14 => ?_) (fun c14 => ?_)
    · rw [if_pos c14] at h
      refine zw_sub (lv' := [(0, .ref a0), (1, .int i1), (2, .int i2)]) (List.forall_mem_cons.mpr ⟨rfl, (List.forall_mem_cons.mpr ⟨rfl, (List.forall_mem_cons.mpr ⟨rfl, zs_nil⟩)⟩)⟩) ?_
      exact zt_X18_begin_J31 hX hr hR hd h
    · rw [if_neg c14] at h
      refine zw_iload_n hX dX18_begin_17 rfl ?_
      refine zw_aload_n hX dX18_begin_18 rfl ?_
      obtain ⟨b10, g, h⟩ := zb_some h
      refine zw_getr hX zl_X18_49 dX18_begin_19 g ?_
      obtain ⟨v11, g, h⟩ := zb_some h
      refine zw_geti hX zl_X18_594 dX18_begin_22 g ?_
      obtain ⟨r13, g, h⟩ := zb_some h
      refine zc_Si (as := [.int i2, .int v11]) hX (zt_X18_isIn (d := d - 1) (by omega) g) zl_X18_207 dX18_begin_25 ⟨rfl, rfl, Nat.le_of_ble_eq_true rfl⟩ ⟨by omega, by omega⟩ ?_
      refine zw_if_eq (tgt := 35) hX dX18_begin_28 (by decide) (fun c28 => ?_) (fun c28 => ?_)
      · rw [if_pos c28] at h
        refine zw_sub (lv' := [(0, .ref a0), (1, .int i1), (2, .int i2)]) (List.forall_mem_cons.mpr ⟨rfl, (List.forall_mem_cons.mpr ⟨rfl, (List.forall_mem_cons.mpr ⟨rfl, zs_nil⟩)⟩)⟩) ?_
        exact zt_X18_begin_J35 hX hr hR hd h
      · rw [if_neg c28] at h
        refine zw_sub (lv' := [(0, .ref a0), (1, .int i1), (2, .int i2)]) (List.forall_mem_cons.mpr ⟨rfl, (List.forall_mem_cons.mpr ⟨rfl, (List.forall_mem_cons.mpr ⟨rfl, zs_nil⟩)⟩)⟩) ?_
        exact zt_X18_begin_J31 hX hr hR hd h
set_option maxHeartbeats 4000000 in
set_option maxRecDepth 100000 in
theorem zt_X18_done {l : Launch} {V : zm_V} {N : Nat} {S : zm_S} {out : (Unit × zm_S)} {d : Nat} {a0 : Nat} {i1 : Int32} (hd : 2 ≤ d) (h : zf_X18_done N a0 i1 S = some out) : zm_Met l zk_E V yX18_done (.code yX18_done cX18_done 2 none) d [.ref a0, .int i1] S 0 0 (zo_v out) zo_x := by
  refine zm_of (by decide +kernel) (Nat.le_of_ble_eq_true rfl) ?_
  intro p e R s m args below meth c hRR hX hr hxt
  have hR : R.frames = d ∧ R.locals = 64 * d := by rw [hRR]; exact ⟨rfl, rfl⟩
  have hX : zm_X p R s m args meth c RX18 "done" cX18_done 2 zk_E V 0 0 := hX
  unfold zf_X18_done at h
  refine zw_sub (lv' := [(0, .ref a0), (1, .int i1)]) (List.forall_mem_cons.mpr ⟨rfl, (List.forall_mem_cons.mpr ⟨rfl, zs_nil⟩)⟩) ?_
  refine zw_aload_n hX dX18_done_0 rfl ?_
  refine zw_aload_n hX dX18_done_1 rfl ?_
  obtain ⟨b1, g, h⟩ := zb_some h
  refine zw_getr hX zl_X18_49 dX18_done_2 g ?_
  refine zw_iload_n hX dX18_done_5 rfl ?_
  obtain ⟨_, gi, h⟩ := zb_some h
  obtain ⟨r3, g, h⟩ := zb_some h
  refine zc_Vi (as := [.int i1]) hX gi (zt_X13_opens (d := d - 1) (by omega) g) zl_X18_620 rfl dX18_done_6 ⟨rfl, rfl, Nat.le_of_ble_eq_true rfl⟩ ⟨by omega, by omega⟩ ?_
  refine zw_aload_n hX dX18_done_9 rfl ?_
  obtain ⟨v4, g, h⟩ := zb_some h
  refine zw_geti hX zl_X18_192 dX18_done_10 g ?_
  obtain ⟨_, gi, h⟩ := zb_some h
  obtain ⟨r6, g, h⟩ := zb_some h
  refine zc_Vi (as := [.int r3.1, .int v4]) hX gi (zt_X18_goes (d := d - 1) (by omega) g) zl_X18_199 rfl dX18_done_13 ⟨rfl, rfl, Nat.le_of_ble_eq_true rfl⟩ ⟨by omega, by omega⟩ ?_
  refine zw_if_eq (tgt := 29) hX dX18_done_16 (by decide) (fun c16 => ?_) (fun c16 => ?_)
  · rw [if_pos c16] at h
    obtain rfl := Option.some.inj h
    exact zw_vret hX hr dX18_done_29 ⟨rfl, rfl⟩
  · rw [if_neg c16] at h
    refine zw_aload_n hX dX18_done_19 rfl ?_
    obtain ⟨b7, g, h⟩ := zb_some h
    refine zw_getr hX zl_X18_49 dX18_done_20 g ?_
    obtain ⟨b8, g, h⟩ := zb_some h
    refine zw_getr hX zl_X18_626 dX18_done_23 g ?_
    refine zw_iload_n hX dX18_done_26 rfl ?_
    refine zw_iconst (v := (0 : Int32)) hX dX18_done_27 (by decide) ?_
    obtain ⟨S9, g, h⟩ := zb_some h
    refine zw_sz hX dX18_done_28 g ?_
    obtain rfl := Option.some.inj h
    exact zw_vret hX hr dX18_done_29 ⟨rfl, rfl⟩
set_option maxHeartbeats 4000000 in
set_option maxRecDepth 100000 in
theorem zt_X18_give_J33 {p : Program} {l : Launch} {e : Env} {R : Room} {s : State} {m : MethodId} {args : Array Value} {below : List Frame} {meth : Method} {c : Code} {V : zm_V} {mc ms d rc rs : Nat} (hX : zm_X p R s m args meth c RX18 "give" cX18_give 1 zk_E V mc ms) (hr : meth.sig.returnType = (some .long)) (hR : R.frames = d ∧ R.locals = 64 * d) (hd : 5 ≤ d) {N : Nat} {a0 : Nat} {t0 : Nat} {t1 : Int32} {out : (Int64 × zm_S)} {S : zm_S} (h : zf_X18_give_J33 N a0 t0 t1 S = some out) : zw p l e R s m args below meth c (vx_MQ below (zm_Qc zk_E V (zo_l out)) (zm_XC zk_E V zo_x) args s mc ms (fun q => V.2.2.2.1 ≤ q)) 1 zk_E V mc ms 33 [(0, .ref a0)] [.int t1, .ref t0] S rc rs := by
  unfold zf_X18_give_J33 at h
  obtain ⟨S8, g, h⟩ := zb_some h
  obtain ⟨gz, g⟩ := zp_z_spec g
  refine zw_putv hX zl_X18_629 zt_13_13 dX18_give_33 (zn_z gz) (zf_z gz) g ?_
  refine zw_aload_n hX dX18_give_36 rfl ?_
  obtain ⟨b9, g, h⟩ := zb_some h
  refine zw_getr hX zl_X18_49 dX18_give_37 g ?_
  obtain ⟨_, gi, h⟩ := zb_some h
  obtain ⟨r11, g, h⟩ := zb_some h
  refine zc_Vl (as := []) hX gi (zt_X13_give (d := d - 1) (by omega) g) zl_X18_632 rfl dX18_give_40 ⟨rfl, rfl, Nat.le_of_ble_eq_true rfl⟩ ⟨by omega, by omega⟩ ?_
  obtain rfl := Option.some.inj h
  exact zw_lret hX hr dX18_give_43 ⟨rfl, rfl⟩
set_option maxHeartbeats 4000000 in
set_option maxRecDepth 100000 in
theorem zt_X18_give {l : Launch} {V : zm_V} {N : Nat} {S : zm_S} {out : (Int64 × zm_S)} {d : Nat} {a0 : Nat} (hd : 5 ≤ d) (h : zf_X18_give N a0 S = some out) : zm_Met l zk_E V yX18_give (.code yX18_give cX18_give 1 (some .long)) d [.ref a0] S 0 0 (zo_l out) zo_x := by
  refine zm_of (by decide +kernel) (Nat.le_of_ble_eq_true rfl) ?_
  intro p e R s m args below meth c hRR hX hr hxt
  have hR : R.frames = d ∧ R.locals = 64 * d := by rw [hRR]; exact ⟨rfl, rfl⟩
  have hX : zm_X p R s m args meth c RX18 "give" cX18_give 1 zk_E V 0 0 := hX
  unfold zf_X18_give at h
  refine zw_sub (lv' := [(0, .ref a0)]) (List.forall_mem_cons.mpr ⟨rfl, zs_nil⟩) ?_
  refine zw_aload_n hX dX18_give_0 rfl ?_
  refine zw_aload_n hX dX18_give_1 rfl ?_
  obtain ⟨v1, g, h⟩ := zb_some h
  refine zw_geti hX zl_X18_192 dX18_give_2 g ?_
  obtain ⟨_, gi, h⟩ := zb_some h
  obtain ⟨r3, g, h⟩ := zb_some h
  refine zc_Vi (as := [.int v1]) hX gi (zt_X18_stays (d := d - 1) (by omega) g) zl_X18_230 rfl dX18_give_5 ⟨rfl, rfl, Nat.le_of_ble_eq_true rfl⟩ ⟨by omega, by omega⟩ ?_
  refine zw_if_ne (tgt := 13) hX dX18_give_8 (by decide) (fun c8 => ?_) (fun c8 => ?_)
  · rw [if_neg c8] at h
    refine zw_aload_n hX dX18_give_13 rfl ?_
    obtain ⟨b4, g, h⟩ := zb_some h
    refine zw_getr hX zl_X18_49 dX18_give_14 g ?_
    refine zw_aload_n hX dX18_give_17 rfl ?_
    obtain ⟨b5, g, h⟩ := zb_some h
    refine zw_getr hX zl_X18_28 dX18_give_18 g ?_
    refine zw_iconst (v := (1 : Int32)) hX dX18_give_21 (by decide) ?_
    obtain ⟨_, gi, h⟩ := zb_some h
    obtain ⟨r7, g, h⟩ := zb_some h
    refine zc_Vi (as := [.int (1 : Int32)]) hX gi (zt_X14_done (d := d - 1) (by omega) g) zl_X18_404 rfl dX18_give_22 ⟨rfl, rfl, Nat.le_of_ble_eq_true rfl⟩ ⟨by omega, by omega⟩ ?_
    refine zw_if_le (tgt := 32) hX dX18_give_25 (by decide) (fun c25 => ?_) (fun c25 => ?_)
    · rw [if_pos c25] at h
      refine zw_iconst (v := (0 : Int32)) hX dX18_give_32 (by decide) ?_
      refine zw_sub (lv' := [(0, .ref a0)]) (List.forall_mem_cons.mpr ⟨rfl, zs_nil⟩) ?_
      exact zt_X18_give_J33 hX hr hR hd h
    · rw [if_neg c25] at h
      refine zw_iconst (v := (1 : Int32)) hX dX18_give_28 (by decide) ?_
      refine zw_goto (tgt := 33) hX dX18_give_29 (by decide) ?_
      refine zw_sub (lv' := [(0, .ref a0)]) (List.forall_mem_cons.mpr ⟨rfl, zs_nil⟩) ?_
      exact zt_X18_give_J33 hX hr hR hd h
  · rw [if_pos c8] at h
    refine zw_lconst (v := (0 : Int64)) hX dX18_give_11 (by decide) ?_
    obtain rfl := Option.some.inj h
    exact zw_lret hX hr dX18_give_12 ⟨rfl, rfl⟩
set_option maxHeartbeats 4000000 in
set_option maxRecDepth 100000 in
theorem zt_X18_given_J28 {p : Program} {l : Launch} {e : Env} {R : Room} {s : State} {m : MethodId} {args : Array Value} {below : List Frame} {meth : Method} {c : Code} {V : zm_V} {mc ms d rc rs : Nat} (hX : zm_X p R s m args meth c RX18 "given" cX18_given 3 zk_E V mc ms) (hr : meth.sig.returnType = (some .int)) (hR : R.frames = d ∧ R.locals = 64 * d) (hd : 2 ≤ d) {N : Nat} {a0 : Nat} {i1 : Int32} {i2 : Int32} {t0 : Nat} {t1 : Int32} {out : (Int32 × zm_S)} {S : zm_S} (h : zf_X18_given_J28 N a0 i1 i2 t0 t1 S = some out) : zw p l e R s m args below meth c (vx_MQ below (zm_Qc zk_E V (zo_i out)) (zm_XC zk_E V zo_x) args s mc ms (fun q => V.2.2.2.1 ≤ q)) 3 zk_E V mc ms 28 [(0, .ref a0), (1, .int i1), (2, .int i2)] [.int t1, .ref t0] S rc rs := by
  unfold zf_X18_given_J28 at h
  refine zw_aload_n hX dX18_given_28 rfl ?_
  obtain ⟨v5, g, h⟩ := zb_some h
  refine zw_geti hX zl_X18_192 dX18_given_29 g ?_
  obtain ⟨_, gi, h⟩ := zb_some h
  obtain ⟨r7, g, h⟩ := zb_some h
  refine zc_Vi (as := [.int t1, .int v5]) hX gi (zt_X18_goes (d := d - 1) (by omega) g) zl_X18_199 rfl dX18_given_32 ⟨rfl, rfl, Nat.le_of_ble_eq_true rfl⟩ ⟨by omega, by omega⟩ ?_
  refine zw_if_eq (tgt := 50) hX dX18_given_35 (by decide) (fun c35 => ?_) (fun c35 => ?_)
  · rw [if_pos c35] at h
    refine zw_iconst (v := (0 : Int32)) hX dX18_given_50 (by decide) ?_
    obtain rfl := Option.some.inj h
    exact zw_iret hX hr dX18_given_51 rfl ⟨rfl, rfl⟩
  · rw [if_neg c35] at h
    refine zw_aload_n hX dX18_given_38 rfl ?_
    obtain ⟨b8, g, h⟩ := zb_some h
    refine zw_getr hX zl_X18_49 dX18_given_39 g ?_
    refine zw_iload_n hX dX18_given_42 rfl ?_
    refine zw_iload_n hX dX18_given_43 rfl ?_
    obtain ⟨_, gi, h⟩ := zb_some h
    obtain ⟨r10, g, h⟩ := zb_some h
    refine zc_Vi (as := [.int i1, .int i2]) hX gi (zt_X13_given (d := d - 1) (by omega) g) zl_X18_636 rfl dX18_given_44 ⟨rfl, rfl, Nat.le_of_ble_eq_true rfl⟩ ⟨by omega, by omega⟩ ?_
    refine zw_goto (tgt := 51) hX dX18_given_47 (by decide) ?_
    obtain rfl := Option.some.inj h
    exact zw_iret hX hr dX18_given_51 rfl ⟨rfl, rfl⟩
set_option maxHeartbeats 4000000 in
set_option maxRecDepth 100000 in
theorem zt_X18_given_J27 {p : Program} {l : Launch} {e : Env} {R : Room} {s : State} {m : MethodId} {args : Array Value} {below : List Frame} {meth : Method} {c : Code} {V : zm_V} {mc ms d rc rs : Nat} (hX : zm_X p R s m args meth c RX18 "given" cX18_given 3 zk_E V mc ms) (hr : meth.sig.returnType = (some .int)) (hR : R.frames = d ∧ R.locals = 64 * d) (hd : 2 ≤ d) {N : Nat} {a0 : Nat} {i1 : Int32} {i2 : Int32} {t0 : Nat} {out : (Int32 × zm_S)} {S : zm_S} (h : zf_X18_given_J27 N a0 i1 i2 t0 S = some out) : zw p l e R s m args below meth c (vx_MQ below (zm_Qc zk_E V (zo_i out)) (zm_XC zk_E V zo_x) args s mc ms (fun q => V.2.2.2.1 ≤ q)) 3 zk_E V mc ms 27 [(0, .ref a0), (1, .int i1), (2, .int i2)] [.ref t0] S rc rs := by
  unfold zf_X18_given_J27 at h
  refine zw_iconst (v := (0 : Int32)) hX dX18_given_27 (by decide) ?_
  refine zw_sub (lv' := [(0, .ref a0), (1, .int i1), (2, .int i2)]) (List.forall_mem_cons.mpr ⟨rfl, (List.forall_mem_cons.mpr ⟨rfl, (List.forall_mem_cons.mpr ⟨rfl, zs_nil⟩)⟩)⟩) ?_
  exact zt_X18_given_J28 hX hr hR hd h
set_option maxHeartbeats 4000000 in
set_option maxRecDepth 100000 in
theorem zt_X18_given {l : Launch} {V : zm_V} {N : Nat} {S : zm_S} {out : (Int32 × zm_S)} {d : Nat} {a0 : Nat} {i1 : Int32} {i2 : Int32} (hd : 2 ≤ d) (h : zf_X18_given N a0 i1 i2 S = some out) : zm_Met l zk_E V yX18_given (.code yX18_given cX18_given 3 (some .int)) d [.ref a0, .int i1, .int i2] S 0 0 (zo_i out) zo_x := by
  refine zm_of (by decide +kernel) (Nat.le_of_ble_eq_true rfl) ?_
  intro p e R s m args below meth c hRR hX hr hxt
  have hR : R.frames = d ∧ R.locals = 64 * d := by rw [hRR]; exact ⟨rfl, rfl⟩
  have hX : zm_X p R s m args meth c RX18 "given" cX18_given 3 zk_E V 0 0 := hX
  unfold zf_X18_given at h
  refine zw_sub (lv' := [(0, .ref a0), (1, .int i1), (2, .int i2)]) (List.forall_mem_cons.mpr ⟨rfl, (List.forall_mem_cons.mpr ⟨rfl, (List.forall_mem_cons.mpr ⟨rfl, zs_nil⟩)⟩)⟩) ?_
  refine zw_aload_n hX dX18_given_0 rfl ?_
  refine zw_iload_n hX dX18_given_1 rfl ?_
  refine zw_aload_n hX dX18_given_2 rfl ?_
  obtain ⟨b1, g, h⟩ := zb_some h
  refine zw_getr hX zl_X18_49 dX18_given_3 g ?_
  obtain ⟨v2, g, h⟩ := zb_some h
  refine zw_geti hX zl_X18_614 dX18_given_6 g ?_
  obtain ⟨r4, g, h⟩ := zb_some h
  refine zc_Si (as := [.int i1, .int v2]) hX (zt_X18_isIn (d := d - 1) (by omega) g) zl_X18_207 dX18_given_9 ⟨rfl, rfl, Nat.le_of_ble_eq_true rfl⟩ ⟨by omega, by omega⟩ ?_
  refine zw_if_eq (tgt := 27) hX dX18_given_12 (by decide) (fun c12 => ?_) (fun c12 => ?_)
  · rw [if_pos c12] at h
    refine zw_sub (lv' := [(0, .ref a0), (1, .int i1), (2, .int i2)]) (List.forall_mem_cons.mpr ⟨rfl, (List.forall_mem_cons.mpr ⟨rfl, (List.forall_mem_cons.mpr ⟨rfl, zs_nil⟩)⟩)⟩) ?_
    exact zt_X18_given_J27 hX hr hR hd h
  · rw [if_neg c12] at h
    refine zw_iload_n hX dX18_given_15 rfl ?_
    refine zw_iconst (v := (4 : Int32)) hX dX18_given_16 (by decide) ?_
    obtain ⟨r12, g, h⟩ := zb_some h
    refine zc_Si (as := [.int i2, .int (4 : Int32)]) hX (zt_X18_isIn (d := d - 1) (by omega) g) zl_X18_207 dX18_given_17 ⟨rfl, rfl, Nat.le_of_ble_eq_true rfl⟩ ⟨by omega, by omega⟩ ?_
    refine zw_if_eq (tgt := 27) hX dX18_given_20 (by decide) (fun c20 => ?_) (fun c20 => ?_)
    · rw [if_pos c20] at h
      refine zw_sub (lv' := [(0, .ref a0), (1, .int i1), (2, .int i2)]) (List.forall_mem_cons.mpr ⟨rfl, (List.forall_mem_cons.mpr ⟨rfl, (List.forall_mem_cons.mpr ⟨rfl, zs_nil⟩)⟩)⟩) ?_
      exact zt_X18_given_J27 hX hr hR hd h
    · rw [if_neg c20] at h
      refine zw_iconst (v := (1 : Int32)) hX dX18_given_23 (by decide) ?_
      refine zw_goto (tgt := 28) hX dX18_given_24 (by decide) ?_
      refine zw_sub (lv' := [(0, .ref a0), (1, .int i1), (2, .int i2)]) (List.forall_mem_cons.mpr ⟨rfl, (List.forall_mem_cons.mpr ⟨rfl, (List.forall_mem_cons.mpr ⟨rfl, zs_nil⟩)⟩)⟩) ?_
      exact zt_X18_given_J28 hX hr hR hd h
set_option maxHeartbeats 4000000 in
set_option maxRecDepth 100000 in
theorem zt_X18_fire_J37 {p : Program} {l : Launch} {e : Env} {R : Room} {s : State} {m : MethodId} {args : Array Value} {below : List Frame} {meth : Method} {c : Code} {V : zm_V} {mc ms d rc rs : Nat} (hX : zm_X p R s m args meth c RX18 "fire" cX18_fire 4 zk_E V mc ms) (hr : meth.sig.returnType = (some .boolean)) (hR : R.frames = d ∧ R.locals = 64 * d) (hd : 3 ≤ d) {N : Nat} {a0 : Nat} {i1 : Int32} {i2 : Int32} {t0 : Int32} {out : (Int32 × zm_S)} {S : zm_S} (h : zf_X18_fire_J37 N a0 i1 i2 t0 S = some out) : zw p l e R s m args below meth c (vx_MQ below (zm_Qc zk_E V (zo_i out)) (zm_XC zk_E V zo_x) args s mc ms (fun q => V.2.2.2.1 ≤ q)) 4 zk_E V mc ms 37 [(0, .ref a0), (1, .int i1), (2, .int i2)] [.int t0] S rc rs := by
  unfold zf_X18_fire_J37 at h
  refine zw_istore_n hX dX18_fire_37 (by decide) ?_
  refine zw_aload_n hX dX18_fire_38 rfl ?_
  obtain ⟨b8, g, h⟩ := zb_some h
  refine zw_getr hX zl_X18_166 dX18_fire_39 g ?_
  refine zw_bipush (v := (24 : Int32)) hX dX18_fire_42 (by decide) ?_
  refine zw_iload_n hX dX18_fire_44 rfl ?_
  refine zw_imul hX dX18_fire_45 ?_
  refine zw_iload_n hX dX18_fire_46 rfl ?_
  refine zw_iadd hX dX18_fire_47 ?_
  refine zw_iconst (v := (1 : Int32)) hX dX18_fire_48 (by decide) ?_
  obtain ⟨S9, g, h⟩ := zb_some h
  refine zw_sz hX dX18_fire_49 g ?_
  refine zw_iload_n hX dX18_fire_50 rfl ?_
  by_cases cz : t0 = 0 ∨ t0 = 1
  · rw [if_pos cz] at h
    obtain rfl := Option.some.inj h
    exact zw_iret hX hr dX18_fire_51 (zn_z cz) ⟨rfl, rfl⟩
  · rw [if_neg cz] at h
    cases h
set_option maxHeartbeats 4000000 in
set_option maxRecDepth 100000 in
theorem zt_X18_fire {l : Launch} {V : zm_V} {N : Nat} {S : zm_S} {out : (Int32 × zm_S)} {d : Nat} {a0 : Nat} {i1 : Int32} {i2 : Int32} (hd : 3 ≤ d) (h : zf_X18_fire N a0 i1 i2 S = some out) : zm_Met l zk_E V yX18_fire (.code yX18_fire cX18_fire 4 (some .boolean)) d [.ref a0, .int i1, .int i2] S 0 0 (zo_i out) zo_x := by
  refine zm_of (by decide +kernel) (Nat.le_of_ble_eq_true rfl) ?_
  intro p e R s m args below meth c hRR hX hr hxt
  have hR : R.frames = d ∧ R.locals = 64 * d := by rw [hRR]; exact ⟨rfl, rfl⟩
  have hX : zm_X p R s m args meth c RX18 "fire" cX18_fire 4 zk_E V 0 0 := hX
  unfold zf_X18_fire at h
  refine zw_sub (lv' := [(0, .ref a0), (1, .int i1), (2, .int i2)]) (List.forall_mem_cons.mpr ⟨rfl, (List.forall_mem_cons.mpr ⟨rfl, (List.forall_mem_cons.mpr ⟨rfl, zs_nil⟩)⟩)⟩) ?_
  refine zw_aload_n hX dX18_fire_0 rfl ?_
  refine zw_iload_n hX dX18_fire_1 rfl ?_
  refine zw_iload_n hX dX18_fire_2 rfl ?_
  obtain ⟨r2, g, h⟩ := zb_some h
  refine zc_Si (as := [.int i1, .int i2]) hX (zt_X18_isCell (d := d - 1) (by omega) g) zl_X18_266 dX18_fire_3 ⟨rfl, rfl, Nat.le_of_ble_eq_true rfl⟩ ⟨by omega, by omega⟩ ?_
  refine zw_aload_n hX dX18_fire_6 rfl ?_
  obtain ⟨v3, g, h⟩ := zb_some h
  refine zw_geti hX zl_X18_192 dX18_fire_7 g ?_
  obtain ⟨_, gi, h⟩ := zb_some h
  obtain ⟨r5, g, h⟩ := zb_some h
  refine zc_Vi (as := [.int r2.1, .int v3]) hX gi (zt_X18_goes (d := d - 1) (by omega) g) zl_X18_199 rfl dX18_fire_10 ⟨rfl, rfl, Nat.le_of_ble_eq_true rfl⟩ ⟨by omega, by omega⟩ ?_
  refine zw_if_ne (tgt := 18) hX dX18_fire_13 (by decide) (fun c13 => ?_) (fun c13 => ?_)
  · rw [if_neg c13] at h
    refine zw_aload_n hX dX18_fire_18 rfl ?_
    obtain ⟨b6, g, h⟩ := zb_some h
    refine zw_getr hX zl_X18_166 dX18_fire_19 g ?_
    refine zw_bipush (v := (24 : Int32)) hX dX18_fire_22 (by decide) ?_
    refine zw_iload_n hX dX18_fire_24 rfl ?_
    refine zw_imul hX dX18_fire_25 ?_
    refine zw_iload_n hX dX18_fire_26 rfl ?_
    refine zw_iadd hX dX18_fire_27 ?_
    obtain ⟨v7, g, h⟩ := zb_some h
    refine zw_xz hX dX18_fire_28 g ?_
    refine zw_if_ne (tgt := 36) hX dX18_fire_29 (by decide) (fun c29 => ?_) (fun c29 => ?_)
    · rw [if_neg c29] at h
      refine zw_iconst (v := (0 : Int32)) hX dX18_fire_36 (by decide) ?_
      refine zw_sub (lv' := [(0, .ref a0), (1, .int i1), (2, .int i2)]) (List.forall_mem_cons.mpr ⟨rfl, (List.forall_mem_cons.mpr ⟨rfl, (List.forall_mem_cons.mpr ⟨rfl, zs_nil⟩)⟩)⟩) ?_
      exact zt_X18_fire_J37 hX hr hR hd h
    · rw [if_pos c29] at h
      refine zw_iconst (v := (1 : Int32)) hX dX18_fire_32 (by decide) ?_
      refine zw_goto (tgt := 37) hX dX18_fire_33 (by decide) ?_
      refine zw_sub (lv' := [(0, .ref a0), (1, .int i1), (2, .int i2)]) (List.forall_mem_cons.mpr ⟨rfl, (List.forall_mem_cons.mpr ⟨rfl, (List.forall_mem_cons.mpr ⟨rfl, zs_nil⟩)⟩)⟩) ?_
      exact zt_X18_fire_J37 hX hr hR hd h
  · rw [if_pos c13] at h
    refine zw_iconst (v := (0 : Int32)) hX dX18_fire_16 (by decide) ?_
    obtain rfl := Option.some.inj h
    exact zw_iret hX hr dX18_fire_17 rfl ⟨rfl, rfl⟩
set_option maxHeartbeats 4000000 in
set_option maxRecDepth 100000 in
theorem zt_X18_cell_J145 {p : Program} {l : Launch} {e : Env} {R : Room} {s : State} {m : MethodId} {args : Array Value} {below : List Frame} {meth : Method} {c : Code} {V : zm_V} {mc ms d rc rs : Nat} (hX : zm_X p R s m args meth c RX18 "cell" cX18_cell 7 zk_E V mc ms) (hr : meth.sig.returnType = (some .int)) (hR : R.frames = d ∧ R.locals = 64 * d) (hd : 3 ≤ d) {N : Nat} {k : Nat → Int32 → Int32 → Int32 → Int32 → zm_S → Option ((Int32 × zm_S) ⊕ ((Int32) × zm_S))} {a0 : Nat} {i1 : Int32} {i2 : Int32} {i6 : Int32} {t0 : Int32} {t1 : Int32} {res : (Int32 × zm_S) ⊕ ((Int32) × zm_S)} {out : (Int32 × zm_S)}   (hf : ∀ o, res = .inl o → o = out) (hk : ∀ (x5 : Int32) (S' : zm_S), res = .inr (x5, S') → zw p l e R s m args below meth c (vx_MQ below (zm_Qc zk_E V (zo_i out)) (zm_XC zk_E V zo_x) args s mc ms (fun q => V.2.2.2.1 ≤ q)) 7 zk_E V mc ms 154 [(5, .int x5)] [] S' rc rs) (hrec : ∀ (i5' : Int32) (i6' : Int32) (S : zm_S), k a0 i1 i2 i5' i6' S = some res → zw p l e R s m args below meth c (vx_MQ below (zm_Qc zk_E V (zo_i out)) (zm_XC zk_E V zo_x) args s mc ms (fun q => V.2.2.2.1 ≤ q)) 7 zk_E V mc ms 97 [(0, .ref a0), (1, .int i1), (2, .int i2), (5, .int i5'), (6, .int i6')] [] S rc rs) {S : zm_S} (h : zf_X18_cell_J145 N k a0 i1 i2 i6 t0 t1 S = some res) : zw p l e R s m args below meth c (vx_MQ below (zm_Qc zk_E V (zo_i out)) (zm_XC zk_E V zo_x) args s mc ms (fun q => V.2.2.2.1 ≤ q)) 7 zk_E V mc ms 145 [(0, .ref a0), (1, .int i1), (2, .int i2), (6, .int i6)] [.int t1, .int t0] S rc rs := by
  unfold zf_X18_cell_J145 at h
  refine zw_iadd hX dX18_cell_145 ?_
  refine zw_istore hX dX18_cell_146 (by decide) ?_
  refine zw_iinc (v := (i6 + (1 : Int32))) hX dX18_cell_148 rfl rfl (by decide) ?_
  refine zw_goto (tgt := 97) hX dX18_cell_151 (by decide) ?_
  refine zw_sub (lv' := [(0, .ref a0), (1, .int i1), (2, .int i2), (5, .int (t0 + t1)), (6, .int (i6 + (1 : Int32)))]) (List.forall_mem_cons.mpr ⟨rfl, (List.forall_mem_cons.mpr ⟨rfl, (List.forall_mem_cons.mpr ⟨rfl, (List.forall_mem_cons.mpr ⟨rfl, (List.forall_mem_cons.mpr ⟨rfl, zs_nil⟩)⟩)⟩)⟩)⟩) ?_
  exact hrec _ _ _ h
set_option maxHeartbeats 4000000 in
set_option maxRecDepth 100000 in
theorem zt_X18_cell_J144 {p : Program} {l : Launch} {e : Env} {R : Room} {s : State} {m : MethodId} {args : Array Value} {below : List Frame} {meth : Method} {c : Code} {V : zm_V} {mc ms d rc rs : Nat} (hX : zm_X p R s m args meth c RX18 "cell" cX18_cell 7 zk_E V mc ms) (hr : meth.sig.returnType = (some .int)) (hR : R.frames = d ∧ R.locals = 64 * d) (hd : 3 ≤ d) {N : Nat} {k : Nat → Int32 → Int32 → Int32 → Int32 → zm_S → Option ((Int32 × zm_S) ⊕ ((Int32) × zm_S))} {a0 : Nat} {i1 : Int32} {i2 : Int32} {i6 : Int32} {t0 : Int32} {res : (Int32 × zm_S) ⊕ ((Int32) × zm_S)} {out : (Int32 × zm_S)}   (hf : ∀ o, res = .inl o → o = out) (hk : ∀ (x5 : Int32) (S' : zm_S), res = .inr (x5, S') → zw p l e R s m args below meth c (vx_MQ below (zm_Qc zk_E V (zo_i out)) (zm_XC zk_E V zo_x) args s mc ms (fun q => V.2.2.2.1 ≤ q)) 7 zk_E V mc ms 154 [(5, .int x5)] [] S' rc rs) (hrec : ∀ (i5' : Int32) (i6' : Int32) (S : zm_S), k a0 i1 i2 i5' i6' S = some res → zw p l e R s m args below meth c (vx_MQ below (zm_Qc zk_E V (zo_i out)) (zm_XC zk_E V zo_x) args s mc ms (fun q => V.2.2.2.1 ≤ q)) 7 zk_E V mc ms 97 [(0, .ref a0), (1, .int i1), (2, .int i2), (5, .int i5'), (6, .int i6')] [] S rc rs) {S : zm_S} (h : zf_X18_cell_J144 N k a0 i1 i2 i6 t0 S = some res) : zw p l e R s m args below meth c (vx_MQ below (zm_Qc zk_E V (zo_i out)) (zm_XC zk_E V zo_x) args s mc ms (fun q => V.2.2.2.1 ≤ q)) 7 zk_E V mc ms 144 [(0, .ref a0), (1, .int i1), (2, .int i2), (6, .int i6)] [.int t0] S rc rs := by
  unfold zf_X18_cell_J144 at h
  refine zw_iconst (v := (0 : Int32)) hX dX18_cell_144 (by decide) ?_
  refine zw_sub (lv' := [(0, .ref a0), (1, .int i1), (2, .int i2), (6, .int i6)]) (List.forall_mem_cons.mpr ⟨rfl, (List.forall_mem_cons.mpr ⟨rfl, (List.forall_mem_cons.mpr ⟨rfl, (List.forall_mem_cons.mpr ⟨rfl, zs_nil⟩)⟩)⟩)⟩) ?_
  exact zt_X18_cell_J145 hX hr hR hd hf hk hrec h
set_option maxHeartbeats 4000000 in
set_option maxRecDepth 100000 in
theorem zt_X18_cell_L97 {p : Program} {l : Launch} {e : Env} {R : Room} {s : State} {m : MethodId} {args : Array Value} {below : List Frame} {meth : Method} {c : Code} {V : zm_V} {mc ms d rc rs : Nat} (hX : zm_X p R s m args meth c RX18 "cell" cX18_cell 7 zk_E V mc ms) (hr : meth.sig.returnType = (some .int)) (hR : R.frames = d ∧ R.locals = 64 * d) (hd : 3 ≤ d) {N : Nat} {res : (Int32 × zm_S) ⊕ ((Int32) × zm_S)} {out : (Int32 × zm_S)} (a0 : Nat) (i1 : Int32) (i2 : Int32) (hf : ∀ o, res = .inl o → o = out) (hk : ∀ (x5 : Int32) (S' : zm_S), res = .inr (x5, S') → zw p l e R s m args below meth c (vx_MQ below (zm_Qc zk_E V (zo_i out)) (zm_XC zk_E V zo_x) args s mc ms (fun q => V.2.2.2.1 ≤ q)) 7 zk_E V mc ms 154 [(5, .int x5)] [] S' rc rs) : ∀ (n : Nat) (i5 : Int32) (i6 : Int32) (S : zm_S), zf_X18_cell_L97 N n a0 i1 i2 i5 i6 S = some res → zw p l e R s m args below meth c (vx_MQ below (zm_Qc zk_E V (zo_i out)) (zm_XC zk_E V zo_x) args s mc ms (fun q => V.2.2.2.1 ≤ q)) 7 zk_E V mc ms 97 [(0, .ref a0), (1, .int i1), (2, .int i2), (5, .int i5), (6, .int i6)] [] S rc rs := by
  intro n
  induction n with
  | zero => intro i5 i6 S h; cases h
  | succ n ih =>
    intro i5 i6 S h
    rw [zf_X18_cell_L97] at h
    refine zw_iload hX dX18_cell_97 rfl ?_
    refine zw_aload_n hX dX18_cell_99 rfl ?_
    obtain ⟨v6, g, h⟩ := zb_some h
    refine zw_geti hX zl_X18_369 dX18_cell_100 g ?_
    refine zw_icmp_ge (tgt := 154) hX dX18_cell_103 (by decide) (fun c103 => ?_) (fun c103 => ?_)
    · rw [if_pos c103] at h
      refine zw_sub (lv' := [(5, .int i5)]) (List.forall_mem_cons.mpr ⟨rfl, zs_nil⟩) ?_
      exact hk _ _ (Option.some.inj h).symm
    · rw [if_neg c103] at h
      refine zw_iload hX dX18_cell_106 rfl ?_
      refine zw_aload_n hX dX18_cell_108 rfl ?_
      obtain ⟨b7, g, h⟩ := zb_some h
      refine zw_getr hX zl_X18_109 dX18_cell_109 g ?_
      refine zw_iload hX dX18_cell_112 rfl ?_
      obtain ⟨v8, g, h⟩ := zb_some h
      refine zw_xi hX dX18_cell_114 g ?_
      refine zw_iload_n hX dX18_cell_115 rfl ?_
      refine zw_icmp_ne (tgt := 144) hX dX18_cell_116 (by decide) (fun c116 => ?_) (fun c116 => ?_)
      · rw [if_neg c116] at h
        refine zw_sub (lv' := [(0, .ref a0), (1, .int i1), (2, .int i2), (6, .int i6)]) (List.forall_mem_cons.mpr ⟨rfl, (List.forall_mem_cons.mpr ⟨rfl, (List.forall_mem_cons.mpr ⟨rfl, (List.forall_mem_cons.mpr ⟨rfl, zs_nil⟩)⟩)⟩)⟩) ?_
        exact zt_X18_cell_J144 hX hr hR hd hf hk ih h
      · rw [if_pos c116] at h
        refine zw_aload_n hX dX18_cell_119 rfl ?_
        obtain ⟨b9, g, h⟩ := zb_some h
        refine zw_getr hX zl_X18_112 dX18_cell_120 g ?_
        refine zw_iload hX dX18_cell_123 rfl ?_
        obtain ⟨v10, g, h⟩ := zb_some h
        refine zw_xi hX dX18_cell_125 g ?_
        refine zw_iload_n hX dX18_cell_126 rfl ?_
        refine zw_icmp_ne (tgt := 144) hX dX18_cell_127 (by decide) (fun c127 => ?_) (fun c127 => ?_)
        · rw [if_neg c127] at h
          refine zw_sub (lv' := [(0, .ref a0), (1, .int i1), (2, .int i2), (6, .int i6)]) (List.forall_mem_cons.mpr ⟨rfl, (List.forall_mem_cons.mpr ⟨rfl, (List.forall_mem_cons.mpr ⟨rfl, (List.forall_mem_cons.mpr ⟨rfl, zs_nil⟩)⟩)⟩)⟩) ?_
          exact zt_X18_cell_J144 hX hr hR hd hf hk ih h
        · rw [if_pos c127] at h
          refine zw_aload_n hX dX18_cell_130 rfl ?_
          obtain ⟨b11, g, h⟩ := zb_some h
          refine zw_getr hX zl_X18_115 dX18_cell_131 g ?_
          refine zw_iload hX dX18_cell_134 rfl ?_
          obtain ⟨v12, g, h⟩ := zb_some h
          refine zw_xi hX dX18_cell_136 g ?_
          refine zw_if_ge (tgt := 144) hX dX18_cell_137 (by decide) (fun c137 => ?_) (fun c137 => ?_)
          · rw [if_pos c137] at h
            refine zw_sub (lv' := [(0, .ref a0), (1, .int i1), (2, .int i2), (6, .int i6)]) (List.forall_mem_cons.mpr ⟨rfl, (List.forall_mem_cons.mpr ⟨rfl, (List.forall_mem_cons.mpr ⟨rfl, (List.forall_mem_cons.mpr ⟨rfl, zs_nil⟩)⟩)⟩)⟩) ?_
            exact zt_X18_cell_J144 hX hr hR hd hf hk ih h
          · rw [if_neg c137] at h
            refine zw_iconst (v := (1 : Int32)) hX dX18_cell_140 (by decide) ?_
            refine zw_goto (tgt := 145) hX dX18_cell_141 (by decide) ?_
            refine zw_sub (lv' := [(0, .ref a0), (1, .int i1), (2, .int i2), (6, .int i6)]) (List.forall_mem_cons.mpr ⟨rfl, (List.forall_mem_cons.mpr ⟨rfl, (List.forall_mem_cons.mpr ⟨rfl, (List.forall_mem_cons.mpr ⟨rfl, zs_nil⟩)⟩)⟩)⟩) ?_
            exact zt_X18_cell_J145 hX hr hR hd hf hk ih h
set_option maxHeartbeats 4000000 in
set_option maxRecDepth 100000 in
theorem zt_X18_cell_J22 {p : Program} {l : Launch} {e : Env} {R : Room} {s : State} {m : MethodId} {args : Array Value} {below : List Frame} {meth : Method} {c : Code} {V : zm_V} {mc ms d rc rs : Nat} (hX : zm_X p R s m args meth c RX18 "cell" cX18_cell 7 zk_E V mc ms) (hr : meth.sig.returnType = (some .int)) (hR : R.frames = d ∧ R.locals = 64 * d) (hd : 3 ≤ d) {N : Nat} {a0 : Nat} {i1 : Int32} {i2 : Int32} {i3 : Int32} {t0 : Nat} {t1 : Int32} {out : (Int32 × zm_S)} {S : zm_S} (h : zf_X18_cell_J22 N a0 i1 i2 i3 t0 t1 S = some out) : zw p l e R s m args below meth c (vx_MQ below (zm_Qc zk_E V (zo_i out)) (zm_XC zk_E V zo_x) args s mc ms (fun q => V.2.2.2.1 ≤ q)) 7 zk_E V mc ms 22 [(0, .ref a0), (1, .int i1), (2, .int i2), (3, .int i3)] [.int t1, .ref t0] S rc rs := by
  unfold zf_X18_cell_J22 at h
  refine zw_aload_n hX dX18_cell_22 rfl ?_
  obtain ⟨v3, g, h⟩ := zb_some h
  refine zw_geti hX zl_X18_192 dX18_cell_23 g ?_
  obtain ⟨_, gi, h⟩ := zb_some h
  obtain ⟨r5, g, h⟩ := zb_some h
  refine zc_Vi (as := [.int t1, .int v3]) hX gi (zt_X18_goes (d := d - 1) (by omega) g) zl_X18_199 rfl dX18_cell_26 ⟨rfl, rfl, Nat.le_of_ble_eq_true rfl⟩ ⟨by omega, by omega⟩ ?_
  refine zw_if_ne (tgt := 34) hX dX18_cell_29 (by decide) (fun c29 => ?_) (fun c29 => ?_)
  · rw [if_neg c29] at h
    refine zw_bipush (v := (24 : Int32)) hX dX18_cell_34 (by decide) ?_
    refine zw_iload_n hX dX18_cell_36 rfl ?_
    refine zw_imul hX dX18_cell_37 ?_
    refine zw_iload_n hX dX18_cell_38 rfl ?_
    refine zw_iadd hX dX18_cell_39 ?_
    refine zw_istore hX dX18_cell_40 (by decide) ?_
    refine zw_iload_n hX dX18_cell_42 rfl ?_
    refine zw_iconst (v := (2 : Int32)) hX dX18_cell_43 (by decide) ?_
    refine zw_icmp_ge (tgt := 91) hX dX18_cell_44 (by decide) (fun c44 => ?_) (fun c44 => ?_)
    · rw [if_pos c44] at h
      refine zw_iconst (v := (0 : Int32)) hX dX18_cell_91 (by decide) ?_
      refine zw_istore hX dX18_cell_92 (by decide) ?_
      refine zw_iconst (v := (0 : Int32)) hX dX18_cell_94 (by decide) ?_
      refine zw_istore hX dX18_cell_95 (by decide) ?_
      obtain ⟨r, g, h⟩ := zb_some h
      refine zw_sub (lv' := [(0, .ref a0), (1, .int i1), (2, .int i2), (5, .int (0 : Int32)), (6, .int (0 : Int32))]) (List.forall_mem_cons.mpr ⟨rfl, (List.forall_mem_cons.mpr ⟨rfl, (List.forall_mem_cons.mpr ⟨rfl, (List.forall_mem_cons.mpr ⟨rfl, (List.forall_mem_cons.mpr ⟨rfl, zs_nil⟩)⟩)⟩)⟩)⟩) ?_
      refine zt_X18_cell_L97 hX hr hR hd (res := r) (out := out) a0 i1 i2 ?_ ?_ N _ _ _ g
      · intro o ho
        subst ho
        exact Option.some.inj h
      · intro v14 S13 hx
        subst hx
        try dsimp only at h
        refine zw_iload hX dX18_cell_154 rfl ?_
        obtain rfl := Option.some.inj h
        exact zw_iret hX hr dX18_cell_156 rfl ⟨rfl, rfl⟩
    · rw [if_neg c44] at h
      refine zw_iload_n hX dX18_cell_47 rfl ?_
      refine zw_if_ne (tgt := 69) hX dX18_cell_48 (by decide) (fun c48 => ?_) (fun c48 => ?_)
      · rw [if_neg c48] at h
        refine zw_aload_n hX dX18_cell_69 rfl ?_
        obtain ⟨b15, g, h⟩ := zb_some h
        refine zw_getr hX zl_X18_172 dX18_cell_70 g ?_
        refine zw_iload hX dX18_cell_73 rfl ?_
        obtain ⟨v16, g, h⟩ := zb_some h
        refine zw_xi hX dX18_cell_75 g ?_
        refine zw_if_ne (tgt := 83) hX dX18_cell_76 (by decide) (fun c76 => ?_) (fun c76 => ?_)
        · rw [if_neg c76] at h
          refine zw_aload_n hX dX18_cell_83 rfl ?_
          obtain ⟨b17, g, h⟩ := zb_some h
          refine zw_getr hX zl_X18_172 dX18_cell_84 g ?_
          refine zw_iload hX dX18_cell_87 rfl ?_
          obtain ⟨v18, g, h⟩ := zb_some h
          refine zw_xi hX dX18_cell_89 g ?_
          obtain rfl := Option.some.inj h
          exact zw_iret hX hr dX18_cell_90 rfl ⟨rfl, rfl⟩
        · rw [if_pos c76] at h
          refine zw_iconst (v := (-1 : Int32)) hX dX18_cell_79 (by decide) ?_
          refine zw_goto (tgt := 90) hX dX18_cell_80 (by decide) ?_
          obtain rfl := Option.some.inj h
          exact zw_iret hX hr dX18_cell_90 rfl ⟨rfl, rfl⟩
      · rw [if_pos c48] at h
        refine zw_aload_n hX dX18_cell_51 rfl ?_
        obtain ⟨b19, g, h⟩ := zb_some h
        refine zw_getr hX zl_X18_166 dX18_cell_52 g ?_
        refine zw_iload hX dX18_cell_55 rfl ?_
        obtain ⟨v20, g, h⟩ := zb_some h
        refine zw_xz hX dX18_cell_57 g ?_
        refine zw_if_eq (tgt := 65) hX dX18_cell_58 (by decide) (fun c58 => ?_) (fun c58 => ?_)
        · rw [if_pos c58] at h
          refine zw_iconst (v := (0 : Int32)) hX dX18_cell_65 (by decide) ?_
          refine zw_goto (tgt := 90) hX dX18_cell_66 (by decide) ?_
          obtain rfl := Option.some.inj h
          exact zw_iret hX hr dX18_cell_90 rfl ⟨rfl, rfl⟩
        · rw [if_neg c58] at h
          refine zw_iconst (v := (1 : Int32)) hX dX18_cell_61 (by decide) ?_
          refine zw_goto (tgt := 90) hX dX18_cell_62 (by decide) ?_
          obtain rfl := Option.some.inj h
          exact zw_iret hX hr dX18_cell_90 rfl ⟨rfl, rfl⟩
  · rw [if_pos c29] at h
    refine zw_iconst (v := (0 : Int32)) hX dX18_cell_32 (by decide) ?_
    obtain rfl := Option.some.inj h
    exact zw_iret hX hr dX18_cell_33 rfl ⟨rfl, rfl⟩
set_option maxHeartbeats 4000000 in
set_option maxRecDepth 100000 in
theorem zt_X18_cell_J21 {p : Program} {l : Launch} {e : Env} {R : Room} {s : State} {m : MethodId} {args : Array Value} {below : List Frame} {meth : Method} {c : Code} {V : zm_V} {mc ms d rc rs : Nat} (hX : zm_X p R s m args meth c RX18 "cell" cX18_cell 7 zk_E V mc ms) (hr : meth.sig.returnType = (some .int)) (hR : R.frames = d ∧ R.locals = 64 * d) (hd : 3 ≤ d) {N : Nat} {a0 : Nat} {i1 : Int32} {i2 : Int32} {i3 : Int32} {t0 : Nat} {out : (Int32 × zm_S)} {S : zm_S} (h : zf_X18_cell_J21 N a0 i1 i2 i3 t0 S = some out) : zw p l e R s m args below meth c (vx_MQ below (zm_Qc zk_E V (zo_i out)) (zm_XC zk_E V zo_x) args s mc ms (fun q => V.2.2.2.1 ≤ q)) 7 zk_E V mc ms 21 [(0, .ref a0), (1, .int i1), (2, .int i2), (3, .int i3)] [.ref t0] S rc rs := by
  unfold zf_X18_cell_J21 at h
  refine zw_iconst (v := (0 : Int32)) hX dX18_cell_21 (by decide) ?_
  refine zw_sub (lv' := [(0, .ref a0), (1, .int i1), (2, .int i2), (3, .int i3)]) (List.forall_mem_cons.mpr ⟨rfl, (List.forall_mem_cons.mpr ⟨rfl, (List.forall_mem_cons.mpr ⟨rfl, (List.forall_mem_cons.mpr ⟨rfl, zs_nil⟩)⟩)⟩)⟩) ?_
  exact zt_X18_cell_J22 hX hr hR hd h
set_option maxHeartbeats 4000000 in
set_option maxRecDepth 100000 in
theorem zt_X18_cell {l : Launch} {V : zm_V} {N : Nat} {S : zm_S} {out : (Int32 × zm_S)} {d : Nat} {a0 : Nat} {i1 : Int32} {i2 : Int32} {i3 : Int32} (hd : 3 ≤ d) (h : zf_X18_cell N a0 i1 i2 i3 S = some out) : zm_Met l zk_E V yX18_cell (.code yX18_cell cX18_cell 7 (some .int)) d [.ref a0, .int i1, .int i2, .int i3] S 0 0 (zo_i out) zo_x := by
  refine zm_of (by decide +kernel) (Nat.le_of_ble_eq_true rfl) ?_
  intro p e R s m args below meth c hRR hX hr hxt
  have hR : R.frames = d ∧ R.locals = 64 * d := by rw [hRR]; exact ⟨rfl, rfl⟩
  have hX : zm_X p R s m args meth c RX18 "cell" cX18_cell 7 zk_E V 0 0 := hX
  unfold zf_X18_cell at h
  refine zw_sub (lv' := [(0, .ref a0), (1, .int i1), (2, .int i2), (3, .int i3)]) (List.forall_mem_cons.mpr ⟨rfl, (List.forall_mem_cons.mpr ⟨rfl, (List.forall_mem_cons.mpr ⟨rfl, (List.forall_mem_cons.mpr ⟨rfl, zs_nil⟩)⟩)⟩)⟩) ?_
  refine zw_aload_n hX dX18_cell_0 rfl ?_
  refine zw_iload_n hX dX18_cell_1 rfl ?_
  refine zw_iload_n hX dX18_cell_2 rfl ?_
  obtain ⟨r2, g, h⟩ := zb_some h
  refine zc_Si (as := [.int i1, .int i2]) hX (zt_X18_isCell (d := d - 1) (by omega) g) zl_X18_266 dX18_cell_3 ⟨rfl, rfl, Nat.le_of_ble_eq_true rfl⟩ ⟨by omega, by omega⟩ ?_
  refine zw_if_eq (tgt := 21) hX dX18_cell_6 (by decide) (fun c6 => ?_) (fun c6 => ?_)
  · rw [if_pos c6] at h
    refine zw_sub (lv' := [(0, .ref a0), (1, .int i1), (2, .int i2), (3, .int i3)]) (List.forall_mem_cons.mpr ⟨rfl, (List.forall_mem_cons.mpr ⟨rfl, (List.forall_mem_cons.mpr ⟨rfl, (List.forall_mem_cons.mpr ⟨rfl, zs_nil⟩)⟩)⟩)⟩) ?_
    exact zt_X18_cell_J21 hX hr hR hd h
  · rw [if_neg c6] at h
    refine zw_iload_n hX dX18_cell_9 rfl ?_
    refine zw_iconst (v := (3 : Int32)) hX dX18_cell_10 (by decide) ?_
    obtain ⟨r22, g, h⟩ := zb_some h
    refine zc_Si (as := [.int i3, .int (3 : Int32)]) hX (zt_X18_isIn (d := d - 1) (by omega) g) zl_X18_207 dX18_cell_11 ⟨rfl, rfl, Nat.le_of_ble_eq_true rfl⟩ ⟨by omega, by omega⟩ ?_
    refine zw_if_eq (tgt := 21) hX dX18_cell_14 (by decide) (fun c14 => ?_) (fun c14 => ?_)
    · rw [if_pos c14] at h
      refine zw_sub (lv' := [(0, .ref a0), (1, .int i1), (2, .int i2), (3, .int i3)]) (List.forall_mem_cons.mpr ⟨rfl, (List.forall_mem_cons.mpr ⟨rfl, (List.forall_mem_cons.mpr ⟨rfl, (List.forall_mem_cons.mpr ⟨rfl, zs_nil⟩)⟩)⟩)⟩) ?_
      exact zt_X18_cell_J21 hX hr hR hd h
    · rw [if_neg c14] at h
      refine zw_iconst (v := (1 : Int32)) hX dX18_cell_17 (by decide) ?_
      refine zw_goto (tgt := 22) hX dX18_cell_18 (by decide) ?_
      refine zw_sub (lv' := [(0, .ref a0), (1, .int i1), (2, .int i2), (3, .int i3)]) (List.forall_mem_cons.mpr ⟨rfl, (List.forall_mem_cons.mpr ⟨rfl, (List.forall_mem_cons.mpr ⟨rfl, (List.forall_mem_cons.mpr ⟨rfl, zs_nil⟩)⟩)⟩)⟩) ?_
      exact zt_X18_cell_J22 hX hr hR hd h
set_option maxHeartbeats 4000000 in
set_option maxRecDepth 100000 in
theorem zt_X18_spread_J101 {p : Program} {l : Launch} {e : Env} {R : Room} {s : State} {m : MethodId} {args : Array Value} {below : List Frame} {meth : Method} {c : Code} {V : zm_V} {mc ms d rc rs : Nat} (hX : zm_X p R s m args meth c RX18 "spread" cX18_spread 5 zk_E V mc ms) (hr : meth.sig.returnType = none) (hR : R.frames = d ∧ R.locals = 64 * d) (hd : 4 ≤ d) {N : Nat} {k : Nat → Int32 → Int32 → zm_S → Option ((Unit × zm_S) ⊕ ((Unit) × zm_S))} {a0 : Nat} {i1 : Int32} {i2 : Int32} {t0 : Nat} {t1 : Int32} {res : (Unit × zm_S) ⊕ ((Unit) × zm_S)} {out : (Unit × zm_S)}   (hf : ∀ o, res = .inl o → o = out) (hk : ∀ (S' : zm_S), res = .inr ((), S') → zw p l e R s m args below meth c (vx_MQ below (zm_Qc zk_E V (zo_v out)) (zm_XC zk_E V zo_x) args s mc ms (fun q => V.2.2.2.1 ≤ q)) 5 zk_E V mc ms 113 [(0, .ref a0), (1, .int i1)] [] S' rc rs) (hrec : ∀ (i2' : Int32) (S : zm_S), k a0 i1 i2' S = some res → zw p l e R s m args below meth c (vx_MQ below (zm_Qc zk_E V (zo_v out)) (zm_XC zk_E V zo_x) args s mc ms (fun q => V.2.2.2.1 ≤ q)) 5 zk_E V mc ms 23 [(0, .ref a0), (1, .int i1), (2, .int i2')] [] S rc rs) {S : zm_S} (h : zf_X18_spread_J101 N k a0 i1 i2 t0 t1 S = some res) : zw p l e R s m args below meth c (vx_MQ below (zm_Qc zk_E V (zo_v out)) (zm_XC zk_E V zo_x) args s mc ms (fun q => V.2.2.2.1 ≤ q)) 5 zk_E V mc ms 101 [(0, .ref a0), (1, .int i1), (2, .int i2)] [.int t1, .ref t0] S rc rs := by
  unfold zf_X18_spread_J101 at h
  refine zw_iconst (v := (1 : Int32)) hX dX18_spread_101 (by decide) ?_
  refine zw_goto (tgt := 106) hX dX18_spread_102 (by decide) ?_
  obtain ⟨S12, g, h⟩ := zb_some h
  refine zw_sz hX dX18_spread_106 g ?_
  refine zw_iinc (v := (i2 + (1 : Int32))) hX dX18_spread_107 rfl rfl (by decide) ?_
  refine zw_goto (tgt := 23) hX dX18_spread_110 (by decide) ?_
  refine zw_sub (lv' := [(0, .ref a0), (1, .int i1), (2, .int (i2 + (1 : Int32)))]) (List.forall_mem_cons.mpr ⟨rfl, (List.forall_mem_cons.mpr ⟨rfl, (List.forall_mem_cons.mpr ⟨rfl, zs_nil⟩)⟩)⟩) ?_
  exact hrec _ _ h
set_option maxHeartbeats 4000000 in
set_option maxRecDepth 100000 in
theorem zt_X18_spread_J105 {p : Program} {l : Launch} {e : Env} {R : Room} {s : State} {m : MethodId} {args : Array Value} {below : List Frame} {meth : Method} {c : Code} {V : zm_V} {mc ms d rc rs : Nat} (hX : zm_X p R s m args meth c RX18 "spread" cX18_spread 5 zk_E V mc ms) (hr : meth.sig.returnType = none) (hR : R.frames = d ∧ R.locals = 64 * d) (hd : 4 ≤ d) {N : Nat} {k : Nat → Int32 → Int32 → zm_S → Option ((Unit × zm_S) ⊕ ((Unit) × zm_S))} {a0 : Nat} {i1 : Int32} {i2 : Int32} {t0 : Nat} {t1 : Int32} {res : (Unit × zm_S) ⊕ ((Unit) × zm_S)} {out : (Unit × zm_S)}   (hf : ∀ o, res = .inl o → o = out) (hk : ∀ (S' : zm_S), res = .inr ((), S') → zw p l e R s m args below meth c (vx_MQ below (zm_Qc zk_E V (zo_v out)) (zm_XC zk_E V zo_x) args s mc ms (fun q => V.2.2.2.1 ≤ q)) 5 zk_E V mc ms 113 [(0, .ref a0), (1, .int i1)] [] S' rc rs) (hrec : ∀ (i2' : Int32) (S : zm_S), k a0 i1 i2' S = some res → zw p l e R s m args below meth c (vx_MQ below (zm_Qc zk_E V (zo_v out)) (zm_XC zk_E V zo_x) args s mc ms (fun q => V.2.2.2.1 ≤ q)) 5 zk_E V mc ms 23 [(0, .ref a0), (1, .int i1), (2, .int i2')] [] S rc rs) {S : zm_S} (h : zf_X18_spread_J105 N k a0 i1 i2 t0 t1 S = some res) : zw p l e R s m args below meth c (vx_MQ below (zm_Qc zk_E V (zo_v out)) (zm_XC zk_E V zo_x) args s mc ms (fun q => V.2.2.2.1 ≤ q)) 5 zk_E V mc ms 105 [(0, .ref a0), (1, .int i1), (2, .int i2)] [.int t1, .ref t0] S rc rs := by
  unfold zf_X18_spread_J105 at h
  refine zw_iconst (v := (0 : Int32)) hX dX18_spread_105 (by decide) ?_
  obtain ⟨S15, g, h⟩ := zb_some h
  refine zw_sz hX dX18_spread_106 g ?_
  refine zw_iinc (v := (i2 + (1 : Int32))) hX dX18_spread_107 rfl rfl (by decide) ?_
  refine zw_goto (tgt := 23) hX dX18_spread_110 (by decide) ?_
  refine zw_sub (lv' := [(0, .ref a0), (1, .int i1), (2, .int (i2 + (1 : Int32)))]) (List.forall_mem_cons.mpr ⟨rfl, (List.forall_mem_cons.mpr ⟨rfl, (List.forall_mem_cons.mpr ⟨rfl, zs_nil⟩)⟩)⟩) ?_
  exact hrec _ _ h
set_option maxHeartbeats 4000000 in
set_option maxRecDepth 100000 in
theorem zt_X18_spread_L23 {p : Program} {l : Launch} {e : Env} {R : Room} {s : State} {m : MethodId} {args : Array Value} {below : List Frame} {meth : Method} {c : Code} {V : zm_V} {mc ms d rc rs : Nat} (hX : zm_X p R s m args meth c RX18 "spread" cX18_spread 5 zk_E V mc ms) (hr : meth.sig.returnType = none) (hR : R.frames = d ∧ R.locals = 64 * d) (hd : 4 ≤ d) {N : Nat} {res : (Unit × zm_S) ⊕ ((Unit) × zm_S)} {out : (Unit × zm_S)} (a0 : Nat) (i1 : Int32) (hf : ∀ o, res = .inl o → o = out) (hk : ∀ (S' : zm_S), res = .inr ((), S') → zw p l e R s m args below meth c (vx_MQ below (zm_Qc zk_E V (zo_v out)) (zm_XC zk_E V zo_x) args s mc ms (fun q => V.2.2.2.1 ≤ q)) 5 zk_E V mc ms 113 [(0, .ref a0), (1, .int i1)] [] S' rc rs) : ∀ (n : Nat) (i2 : Int32) (S : zm_S), zf_X18_spread_L23 N n a0 i1 i2 S = some res → zw p l e R s m args below meth c (vx_MQ below (zm_Qc zk_E V (zo_v out)) (zm_XC zk_E V zo_x) args s mc ms (fun q => V.2.2.2.1 ≤ q)) 5 zk_E V mc ms 23 [(0, .ref a0), (1, .int i1), (2, .int i2)] [] S rc rs := by
  intro n
  induction n with
  | zero => intro i2 S h; cases h
  | succ n ih =>
    intro i2 S h
    rw [zf_X18_spread_L23] at h
    refine zw_iload_n hX dX18_spread_23 rfl ?_
    refine zw_iconst (v := (4 : Int32)) hX dX18_spread_24 (by decide) ?_
    refine zw_icmp_ge (tgt := 113) hX dX18_spread_25 (by decide) (fun c25 => ?_) (fun c25 => ?_)
    · rw [if_pos c25] at h
      refine zw_sub (lv' := [(0, .ref a0), (1, .int i1)]) (List.forall_mem_cons.mpr ⟨rfl, (List.forall_mem_cons.mpr ⟨rfl, zs_nil⟩)⟩) ?_
      exact hk  _ (Option.some.inj h).symm
    · rw [if_neg c25] at h
      refine zw_iload_n hX dX18_spread_28 rfl ?_
      refine zw_bipush (v := (24 : Int32)) hX dX18_spread_29 (by decide) ?_
      refine zw_irem hX dX18_spread_31 (by decide) ?_
      refine zw_iload_n hX dX18_spread_32 rfl ?_
      obtain ⟨r6, g, h⟩ := zb_some h
      refine zc_Si (as := [.int (i1 - i1 / (24 : Int32) * (24 : Int32)), .int i2]) hX (zt_X18_nextX (d := d - 1) (by omega) g) zl_X18_648 dX18_spread_33 ⟨rfl, rfl, Nat.le_of_ble_eq_true rfl⟩ ⟨by omega, by omega⟩ ?_
      refine zw_istore_n hX dX18_spread_36 (by decide) ?_
      refine zw_iload_n hX dX18_spread_37 rfl ?_
      refine zw_bipush (v := (24 : Int32)) hX dX18_spread_38 (by decide) ?_
      refine zw_idiv hX dX18_spread_40 (by decide) ?_
      refine zw_iload_n hX dX18_spread_41 rfl ?_
      obtain ⟨r8, g, h⟩ := zb_some h
      refine zc_Si (as := [.int (i1 / (24 : Int32)), .int i2]) hX (zt_X18_nextY (d := d - 1) (by omega) g) zl_X18_651 dX18_spread_42 ⟨rfl, rfl, Nat.le_of_ble_eq_true rfl⟩ ⟨by omega, by omega⟩ ?_
      refine zw_istore hX dX18_spread_45 (by decide) ?_
      refine zw_aload_n hX dX18_spread_47 rfl ?_
      obtain ⟨b9, g, h⟩ := zb_some h
      refine zw_getr hX zl_X18_169 dX18_spread_48 g ?_
      refine zw_iload_n hX dX18_spread_51 rfl ?_
      refine zw_aload_n hX dX18_spread_52 rfl ?_
      obtain ⟨b10, g, h⟩ := zb_some h
      refine zw_getr hX zl_X18_169 dX18_spread_53 g ?_
      refine zw_iload_n hX dX18_spread_56 rfl ?_
      obtain ⟨v11, g, h⟩ := zb_some h
      refine zw_xz hX dX18_spread_57 g ?_
      refine zw_if_ne (tgt := 101) hX dX18_spread_58 (by decide) (fun c58 => ?_) (fun c58 => ?_)
      · rw [if_neg c58] at h
        refine zw_sub (lv' := [(0, .ref a0), (1, .int i1), (2, .int i2)]) (List.forall_mem_cons.mpr ⟨rfl, (List.forall_mem_cons.mpr ⟨rfl, (List.forall_mem_cons.mpr ⟨rfl, zs_nil⟩)⟩)⟩) ?_
        exact zt_X18_spread_J101 hX hr hR hd hf hk ih h
      · rw [if_pos c58] at h
        refine zw_iload_n hX dX18_spread_61 rfl ?_
        refine zw_iload hX dX18_spread_62 rfl ?_
        obtain ⟨r14, g, h⟩ := zb_some h
        refine zc_Si (as := [.int r6.1, .int r8.1]) hX (zt_X18_isCell (d := d - 1) (by omega) g) zl_X18_266 dX18_spread_64 ⟨rfl, rfl, Nat.le_of_ble_eq_true rfl⟩ ⟨by omega, by omega⟩ ?_
        refine zw_if_eq (tgt := 105) hX dX18_spread_67 (by decide) (fun c67 => ?_) (fun c67 => ?_)
        · rw [if_pos c67] at h
          refine zw_sub (lv' := [(0, .ref a0), (1, .int i1), (2, .int i2)]) (List.forall_mem_cons.mpr ⟨rfl, (List.forall_mem_cons.mpr ⟨rfl, (List.forall_mem_cons.mpr ⟨rfl, zs_nil⟩)⟩)⟩) ?_
          exact zt_X18_spread_J105 hX hr hR hd hf hk ih h
        · rw [if_neg c67] at h
          refine zw_aload_n hX dX18_spread_70 rfl ?_
          obtain ⟨b16, g, h⟩ := zb_some h
          refine zw_getr hX zl_X18_166 dX18_spread_71 g ?_
          refine zw_bipush (v := (24 : Int32)) hX dX18_spread_74 (by decide) ?_
          refine zw_iload hX dX18_spread_76 rfl ?_
          refine zw_imul hX dX18_spread_78 ?_
          refine zw_iload_n hX dX18_spread_79 rfl ?_
          refine zw_iadd hX dX18_spread_80 ?_
          obtain ⟨v17, g, h⟩ := zb_some h
          refine zw_xz hX dX18_spread_81 g ?_
          refine zw_if_eq (tgt := 105) hX dX18_spread_82 (by decide) (fun c82 => ?_) (fun c82 => ?_)
          · rw [if_pos c82] at h
            refine zw_sub (lv' := [(0, .ref a0), (1, .int i1), (2, .int i2)]) (List.forall_mem_cons.mpr ⟨rfl, (List.forall_mem_cons.mpr ⟨rfl, (List.forall_mem_cons.mpr ⟨rfl, zs_nil⟩)⟩)⟩) ?_
            exact zt_X18_spread_J105 hX hr hR hd hf hk ih h
          · rw [if_neg c82] at h
            refine zw_aload_n hX dX18_spread_85 rfl ?_
            refine zw_iload_n hX dX18_spread_86 rfl ?_
            refine zw_bipush (v := (24 : Int32)) hX dX18_spread_87 (by decide) ?_
            refine zw_irem hX dX18_spread_89 (by decide) ?_
            refine zw_iload_n hX dX18_spread_90 rfl ?_
            refine zw_bipush (v := (24 : Int32)) hX dX18_spread_91 (by decide) ?_
            refine zw_idiv hX dX18_spread_93 (by decide) ?_
            refine zw_iload_n hX dX18_spread_94 rfl ?_
            obtain ⟨_, gi, h⟩ := zb_some h
            obtain ⟨r19, g, h⟩ := zb_some h
            refine zc_Vi (as := [.int (i1 - i1 / (24 : Int32) * (24 : Int32)), .int (i1 / (24 : Int32)), .int i2]) hX gi (zt_X18_passes (d := d - 1) (by omega) g) zl_X18_654 rfl dX18_spread_95 ⟨rfl, rfl, Nat.le_of_ble_eq_true rfl⟩ ⟨by omega, by omega⟩ ?_
            refine zw_if_eq (tgt := 105) hX dX18_spread_98 (by decide) (fun c98 => ?_) (fun c98 => ?_)
            · rw [if_pos c98] at h
              refine zw_sub (lv' := [(0, .ref a0), (1, .int i1), (2, .int i2)]) (List.forall_mem_cons.mpr ⟨rfl, (List.forall_mem_cons.mpr ⟨rfl, (List.forall_mem_cons.mpr ⟨rfl, zs_nil⟩)⟩)⟩) ?_
              exact zt_X18_spread_J105 hX hr hR hd hf hk ih h
            · rw [if_neg c98] at h
              refine zw_sub (lv' := [(0, .ref a0), (1, .int i1), (2, .int i2)]) (List.forall_mem_cons.mpr ⟨rfl, (List.forall_mem_cons.mpr ⟨rfl, (List.forall_mem_cons.mpr ⟨rfl, zs_nil⟩)⟩)⟩) ?_
              exact zt_X18_spread_J101 hX hr hR hd hf hk ih h
set_option maxHeartbeats 4000000 in
set_option maxRecDepth 100000 in
theorem zt_X18_spread_L2 {p : Program} {l : Launch} {e : Env} {R : Room} {s : State} {m : MethodId} {args : Array Value} {below : List Frame} {meth : Method} {c : Code} {V : zm_V} {mc ms d rc rs : Nat} (hX : zm_X p R s m args meth c RX18 "spread" cX18_spread 5 zk_E V mc ms) (hr : meth.sig.returnType = none) (hR : R.frames = d ∧ R.locals = 64 * d) (hd : 4 ≤ d) {N : Nat} {res : (Unit × zm_S) ⊕ ((Unit) × zm_S)} {out : (Unit × zm_S)} (a0 : Nat) (hf : ∀ o, res = .inl o → o = out) (hk : ∀ (S' : zm_S), res = .inr ((), S') → zw p l e R s m args below meth c (vx_MQ below (zm_Qc zk_E V (zo_v out)) (zm_XC zk_E V zo_x) args s mc ms (fun q => V.2.2.2.1 ≤ q)) 5 zk_E V mc ms 119 [(0, .ref a0)] [] S' rc rs) : ∀ (n : Nat) (i1 : Int32) (S : zm_S), zf_X18_spread_L2 N n a0 i1 S = some res → zw p l e R s m args below meth c (vx_MQ below (zm_Qc zk_E V (zo_v out)) (zm_XC zk_E V zo_x) args s mc ms (fun q => V.2.2.2.1 ≤ q)) 5 zk_E V mc ms 2 [(0, .ref a0), (1, .int i1)] [] S rc rs := by
  intro n
  induction n with
  | zero => intro i1 S h; cases h
  | succ n ih =>
    intro i1 S h
    rw [zf_X18_spread_L2] at h
    refine zw_iload_n hX dX18_spread_2 rfl ?_
    refine zw_sipush (v := (576 : Int32)) hX dX18_spread_3 (by decide) ?_
    refine zw_icmp_ge (tgt := 119) hX dX18_spread_6 (by decide) (fun c6 => ?_) (fun c6 => ?_)
    · rw [if_pos c6] at h
      refine zw_sub (lv' := [(0, .ref a0)]) (List.forall_mem_cons.mpr ⟨rfl, zs_nil⟩) ?_
      exact hk  _ (Option.some.inj h).symm
    · rw [if_neg c6] at h
      refine zw_aload_n hX dX18_spread_9 rfl ?_
      obtain ⟨b1, g, h⟩ := zb_some h
      refine zw_getr hX zl_X18_169 dX18_spread_10 g ?_
      refine zw_iload_n hX dX18_spread_13 rfl ?_
      refine zw_aload_n hX dX18_spread_14 rfl ?_
      obtain ⟨b2, g, h⟩ := zb_some h
      refine zw_getr hX zl_X18_166 dX18_spread_15 g ?_
      refine zw_iload_n hX dX18_spread_18 rfl ?_
      obtain ⟨v3, g, h⟩ := zb_some h
      refine zw_xz hX dX18_spread_19 g ?_
      obtain ⟨S4, g, h⟩ := zb_some h
      refine zw_sz hX dX18_spread_20 g ?_
      refine zw_iconst (v := (0 : Int32)) hX dX18_spread_21 (by decide) ?_
      refine zw_istore_n hX dX18_spread_22 (by decide) ?_
      obtain ⟨r, g, h⟩ := zb_some h
      refine zw_sub (lv' := [(0, .ref a0), (1, .int i1), (2, .int (0 : Int32))]) (List.forall_mem_cons.mpr ⟨rfl, (List.forall_mem_cons.mpr ⟨rfl, (List.forall_mem_cons.mpr ⟨rfl, zs_nil⟩)⟩)⟩) ?_
      refine zt_X18_spread_L23 hX hr hR hd (res := r) (out := out) a0 i1 ?_ ?_ N _ _ g
      · intro o ho
        subst ho
        exact hf _ (Option.some.inj h).symm
      · intro  S20 hx
        subst hx
        try dsimp only at h
        refine zw_iinc (v := (i1 + (1 : Int32))) hX dX18_spread_113 rfl rfl (by decide) ?_
        refine zw_goto (tgt := 2) hX dX18_spread_116 (by decide) ?_
        refine zw_sub (lv' := [(0, .ref a0), (1, .int (i1 + (1 : Int32)))]) (List.forall_mem_cons.mpr ⟨rfl, (List.forall_mem_cons.mpr ⟨rfl, zs_nil⟩)⟩) ?_
        exact ih _ _ h
set_option maxHeartbeats 4000000 in
set_option maxRecDepth 100000 in
theorem zt_X18_spread_L121 {p : Program} {l : Launch} {e : Env} {R : Room} {s : State} {m : MethodId} {args : Array Value} {below : List Frame} {meth : Method} {c : Code} {V : zm_V} {mc ms d rc rs : Nat} (hX : zm_X p R s m args meth c RX18 "spread" cX18_spread 5 zk_E V mc ms) (hr : meth.sig.returnType = none) (hR : R.frames = d ∧ R.locals = 64 * d) (hd : 4 ≤ d) {N : Nat} {res : (Unit × zm_S) ⊕ ((Unit) × zm_S)} {out : (Unit × zm_S)} (a0 : Nat) (hf : ∀ o, res = .inl o → o = out) (hk : ∀ (S' : zm_S), res = .inr ((), S') → zw p l e R s m args below meth c (vx_MQ below (zm_Qc zk_E V (zo_v out)) (zm_XC zk_E V zo_x) args s mc ms (fun q => V.2.2.2.1 ≤ q)) 5 zk_E V mc ms 146 [] [] S' rc rs) : ∀ (n : Nat) (i1 : Int32) (S : zm_S), zf_X18_spread_L121 N n a0 i1 S = some res → zw p l e R s m args below meth c (vx_MQ below (zm_Qc zk_E V (zo_v out)) (zm_XC zk_E V zo_x) args s mc ms (fun q => V.2.2.2.1 ≤ q)) 5 zk_E V mc ms 121 [(0, .ref a0), (1, .int i1)] [] S rc rs := by
  intro n
  induction n with
  | zero => intro i1 S h; cases h
  | succ n ih =>
    intro i1 S h
    rw [zf_X18_spread_L121] at h
    refine zw_iload_n hX dX18_spread_121 rfl ?_
    refine zw_sipush (v := (576 : Int32)) hX dX18_spread_122 (by decide) ?_
    refine zw_icmp_ge (tgt := 146) hX dX18_spread_125 (by decide) (fun c125 => ?_) (fun c125 => ?_)
    · rw [if_pos c125] at h
      refine zw_sub (lv' := []) zs_nil ?_
      exact hk  _ (Option.some.inj h).symm
    · rw [if_neg c125] at h
      refine zw_aload_n hX dX18_spread_128 rfl ?_
      obtain ⟨b22, g, h⟩ := zb_some h
      refine zw_getr hX zl_X18_166 dX18_spread_129 g ?_
      refine zw_iload_n hX dX18_spread_132 rfl ?_
      refine zw_aload_n hX dX18_spread_133 rfl ?_
      obtain ⟨b23, g, h⟩ := zb_some h
      refine zw_getr hX zl_X18_169 dX18_spread_134 g ?_
      refine zw_iload_n hX dX18_spread_137 rfl ?_
      obtain ⟨v24, g, h⟩ := zb_some h
      refine zw_xz hX dX18_spread_138 g ?_
      obtain ⟨S25, g, h⟩ := zb_some h
      refine zw_sz hX dX18_spread_139 g ?_
      refine zw_iinc (v := (i1 + (1 : Int32))) hX dX18_spread_140 rfl rfl (by decide) ?_
      refine zw_goto (tgt := 121) hX dX18_spread_143 (by decide) ?_
      refine zw_sub (lv' := [(0, .ref a0), (1, .int (i1 + (1 : Int32)))]) (List.forall_mem_cons.mpr ⟨rfl, (List.forall_mem_cons.mpr ⟨rfl, zs_nil⟩)⟩) ?_
      exact ih _ _ h
set_option maxHeartbeats 4000000 in
set_option maxRecDepth 100000 in
theorem zt_X18_spread {l : Launch} {V : zm_V} {N : Nat} {S : zm_S} {out : (Unit × zm_S)} {d : Nat} {a0 : Nat} (hd : 4 ≤ d) (h : zf_X18_spread N a0 S = some out) : zm_Met l zk_E V yX18_spread (.code yX18_spread cX18_spread 5 none) d [.ref a0] S 0 0 (zo_v out) zo_x := by
  refine zm_of (by decide +kernel) (Nat.le_of_ble_eq_true rfl) ?_
  intro p e R s m args below meth c hRR hX hr hxt
  have hR : R.frames = d ∧ R.locals = 64 * d := by rw [hRR]; exact ⟨rfl, rfl⟩
  have hX : zm_X p R s m args meth c RX18 "spread" cX18_spread 5 zk_E V 0 0 := hX
  unfold zf_X18_spread at h
  refine zw_sub (lv' := [(0, .ref a0)]) (List.forall_mem_cons.mpr ⟨rfl, zs_nil⟩) ?_
  refine zw_iconst (v := (0 : Int32)) hX dX18_spread_0 (by decide) ?_
  refine zw_istore_n hX dX18_spread_1 (by decide) ?_
  obtain ⟨r, g, h⟩ := zb_some h
  refine zw_sub (lv' := [(0, .ref a0), (1, .int (0 : Int32))]) (List.forall_mem_cons.mpr ⟨rfl, (List.forall_mem_cons.mpr ⟨rfl, zs_nil⟩)⟩) ?_
  refine zt_X18_spread_L2 hX hr hR hd (res := r) (out := out) a0 ?_ ?_ N _ _ g
  · intro o ho
    subst ho
    exact Option.some.inj h
  · intro  S21 hx
    subst hx
    try dsimp only at h
    refine zw_iconst (v := (0 : Int32)) hX dX18_spread_119 (by decide) ?_
    refine zw_istore_n hX dX18_spread_120 (by decide) ?_
    obtain ⟨r, g, h⟩ := zb_some h
    refine zw_sub (lv' := [(0, .ref a0), (1, .int (0 : Int32))]) (List.forall_mem_cons.mpr ⟨rfl, (List.forall_mem_cons.mpr ⟨rfl, zs_nil⟩)⟩) ?_
    refine zt_X18_spread_L121 hX hr hR hd (res := r) (out := out) a0 ?_ ?_ N _ _ g
    · intro o ho
      subst ho
      exact Option.some.inj h
    · intro  S26 hx
      subst hx
      try dsimp only at h
      obtain rfl := Option.some.inj h
      exact zw_vret hX hr dX18_spread_146 ⟨rfl, rfl⟩
set_option maxHeartbeats 4000000 in
set_option maxRecDepth 100000 in
theorem zt_X18_smokes_J40 {p : Program} {l : Launch} {e : Env} {R : Room} {s : State} {m : MethodId} {args : Array Value} {below : List Frame} {meth : Method} {c : Code} {V : zm_V} {mc ms d rc rs : Nat} (hX : zm_X p R s m args meth c RX18 "smokes" cX18_smokes 4 zk_E V mc ms) (hr : meth.sig.returnType = (some .int)) (hR : R.frames = d ∧ R.locals = 64 * d) (hd : 1 ≤ d) {N : Nat} {k : Nat → Int32 → Int32 → Int32 → zm_S → Option ((Int32 × zm_S) ⊕ ((Int32) × zm_S))} {a0 : Nat} {i1 : Int32} {i3 : Int32} {t0 : Int32} {t1 : Int32} {res : (Int32 × zm_S) ⊕ ((Int32) × zm_S)} {out : (Int32 × zm_S)}   (hf : ∀ o, res = .inl o → o = out) (hk : ∀ (x2 : Int32) (S' : zm_S), res = .inr (x2, S') → zw p l e R s m args below meth c (vx_MQ below (zm_Qc zk_E V (zo_i out)) (zm_XC zk_E V zo_x) args s mc ms (fun q => V.2.2.2.1 ≤ q)) 4 zk_E V mc ms 48 [(2, .int x2)] [] S' rc rs) (hrec : ∀ (i2' : Int32) (i3' : Int32) (S : zm_S), k a0 i1 i2' i3' S = some res → zw p l e R s m args below meth c (vx_MQ below (zm_Qc zk_E V (zo_i out)) (zm_XC zk_E V zo_x) args s mc ms (fun q => V.2.2.2.1 ≤ q)) 4 zk_E V mc ms 4 [(0, .ref a0), (1, .int i1), (2, .int i2'), (3, .int i3')] [] S rc rs) {S : zm_S} (h : zf_X18_smokes_J40 N k a0 i1 i3 t0 t1 S = some res) : zw p l e R s m args below meth c (vx_MQ below (zm_Qc zk_E V (zo_i out)) (zm_XC zk_E V zo_x) args s mc ms (fun q => V.2.2.2.1 ≤ q)) 4 zk_E V mc ms 40 [(0, .ref a0), (1, .int i1), (3, .int i3)] [.int t1, .int t0] S rc rs := by
  unfold zf_X18_smokes_J40 at h
  refine zw_iadd hX dX18_smokes_40 ?_
  refine zw_istore_n hX dX18_smokes_41 (by decide) ?_
  refine zw_iinc (v := (i3 + (1 : Int32))) hX dX18_smokes_42 rfl rfl (by decide) ?_
  refine zw_goto (tgt := 4) hX dX18_smokes_45 (by decide) ?_
  refine zw_sub (lv' := [(0, .ref a0), (1, .int i1), (2, .int (t0 + t1)), (3, .int (i3 + (1 : Int32)))]) (List.forall_mem_cons.mpr ⟨rfl, (List.forall_mem_cons.mpr ⟨rfl, (List.forall_mem_cons.mpr ⟨rfl, (List.forall_mem_cons.mpr ⟨rfl, zs_nil⟩)⟩)⟩)⟩) ?_
  exact hrec _ _ _ h
set_option maxHeartbeats 4000000 in
set_option maxRecDepth 100000 in
theorem zt_X18_smokes_J39 {p : Program} {l : Launch} {e : Env} {R : Room} {s : State} {m : MethodId} {args : Array Value} {below : List Frame} {meth : Method} {c : Code} {V : zm_V} {mc ms d rc rs : Nat} (hX : zm_X p R s m args meth c RX18 "smokes" cX18_smokes 4 zk_E V mc ms) (hr : meth.sig.returnType = (some .int)) (hR : R.frames = d ∧ R.locals = 64 * d) (hd : 1 ≤ d) {N : Nat} {k : Nat → Int32 → Int32 → Int32 → zm_S → Option ((Int32 × zm_S) ⊕ ((Int32) × zm_S))} {a0 : Nat} {i1 : Int32} {i3 : Int32} {t0 : Int32} {res : (Int32 × zm_S) ⊕ ((Int32) × zm_S)} {out : (Int32 × zm_S)}   (hf : ∀ o, res = .inl o → o = out) (hk : ∀ (x2 : Int32) (S' : zm_S), res = .inr (x2, S') → zw p l e R s m args below meth c (vx_MQ below (zm_Qc zk_E V (zo_i out)) (zm_XC zk_E V zo_x) args s mc ms (fun q => V.2.2.2.1 ≤ q)) 4 zk_E V mc ms 48 [(2, .int x2)] [] S' rc rs) (hrec : ∀ (i2' : Int32) (i3' : Int32) (S : zm_S), k a0 i1 i2' i3' S = some res → zw p l e R s m args below meth c (vx_MQ below (zm_Qc zk_E V (zo_i out)) (zm_XC zk_E V zo_x) args s mc ms (fun q => V.2.2.2.1 ≤ q)) 4 zk_E V mc ms 4 [(0, .ref a0), (1, .int i1), (2, .int i2'), (3, .int i3')] [] S rc rs) {S : zm_S} (h : zf_X18_smokes_J39 N k a0 i1 i3 t0 S = some res) : zw p l e R s m args below meth c (vx_MQ below (zm_Qc zk_E V (zo_i out)) (zm_XC zk_E V zo_x) args s mc ms (fun q => V.2.2.2.1 ≤ q)) 4 zk_E V mc ms 39 [(0, .ref a0), (1, .int i1), (3, .int i3)] [.int t0] S rc rs := by
  unfold zf_X18_smokes_J39 at h
  refine zw_iconst (v := (0 : Int32)) hX dX18_smokes_39 (by decide) ?_
  refine zw_sub (lv' := [(0, .ref a0), (1, .int i1), (3, .int i3)]) (List.forall_mem_cons.mpr ⟨rfl, (List.forall_mem_cons.mpr ⟨rfl, (List.forall_mem_cons.mpr ⟨rfl, zs_nil⟩)⟩)⟩) ?_
  exact zt_X18_smokes_J40 hX hr hR hd hf hk hrec h
set_option maxHeartbeats 4000000 in
set_option maxRecDepth 100000 in
theorem zt_X18_smokes_J35 {p : Program} {l : Launch} {e : Env} {R : Room} {s : State} {m : MethodId} {args : Array Value} {below : List Frame} {meth : Method} {c : Code} {V : zm_V} {mc ms d rc rs : Nat} (hX : zm_X p R s m args meth c RX18 "smokes" cX18_smokes 4 zk_E V mc ms) (hr : meth.sig.returnType = (some .int)) (hR : R.frames = d ∧ R.locals = 64 * d) (hd : 1 ≤ d) {N : Nat} {k : Nat → Int32 → Int32 → Int32 → zm_S → Option ((Int32 × zm_S) ⊕ ((Int32) × zm_S))} {a0 : Nat} {i1 : Int32} {i3 : Int32} {t0 : Int32} {res : (Int32 × zm_S) ⊕ ((Int32) × zm_S)} {out : (Int32 × zm_S)}   (hf : ∀ o, res = .inl o → o = out) (hk : ∀ (x2 : Int32) (S' : zm_S), res = .inr (x2, S') → zw p l e R s m args below meth c (vx_MQ below (zm_Qc zk_E V (zo_i out)) (zm_XC zk_E V zo_x) args s mc ms (fun q => V.2.2.2.1 ≤ q)) 4 zk_E V mc ms 48 [(2, .int x2)] [] S' rc rs) (hrec : ∀ (i2' : Int32) (i3' : Int32) (S : zm_S), k a0 i1 i2' i3' S = some res → zw p l e R s m args below meth c (vx_MQ below (zm_Qc zk_E V (zo_i out)) (zm_XC zk_E V zo_x) args s mc ms (fun q => V.2.2.2.1 ≤ q)) 4 zk_E V mc ms 4 [(0, .ref a0), (1, .int i1), (2, .int i2'), (3, .int i3')] [] S rc rs) {S : zm_S} (h : zf_X18_smokes_J35 N k a0 i1 i3 t0 S = some res) : zw p l e R s m args below meth c (vx_MQ below (zm_Qc zk_E V (zo_i out)) (zm_XC zk_E V zo_x) args s mc ms (fun q => V.2.2.2.1 ≤ q)) 4 zk_E V mc ms 35 [(0, .ref a0), (1, .int i1), (3, .int i3)] [.int t0] S rc rs := by
  unfold zf_X18_smokes_J35 at h
  refine zw_iconst (v := (1 : Int32)) hX dX18_smokes_35 (by decide) ?_
  refine zw_goto (tgt := 40) hX dX18_smokes_36 (by decide) ?_
  refine zw_sub (lv' := [(0, .ref a0), (1, .int i1), (3, .int i3)]) (List.forall_mem_cons.mpr ⟨rfl, (List.forall_mem_cons.mpr ⟨rfl, (List.forall_mem_cons.mpr ⟨rfl, zs_nil⟩)⟩)⟩) ?_
  exact zt_X18_smokes_J40 hX hr hR hd hf hk hrec h
set_option maxHeartbeats 4000000 in
set_option maxRecDepth 100000 in
theorem zt_X18_smokes_L4 {p : Program} {l : Launch} {e : Env} {R : Room} {s : State} {m : MethodId} {args : Array Value} {below : List Frame} {meth : Method} {c : Code} {V : zm_V} {mc ms d rc rs : Nat} (hX : zm_X p R s m args meth c RX18 "smokes" cX18_smokes 4 zk_E V mc ms) (hr : meth.sig.returnType = (some .int)) (hR : R.frames = d ∧ R.locals = 64 * d) (hd : 1 ≤ d) {N : Nat} {res : (Int32 × zm_S) ⊕ ((Int32) × zm_S)} {out : (Int32 × zm_S)} (a0 : Nat) (i1 : Int32) (hf : ∀ o, res = .inl o → o = out) (hk : ∀ (x2 : Int32) (S' : zm_S), res = .inr (x2, S') → zw p l e R s m args below meth c (vx_MQ below (zm_Qc zk_E V (zo_i out)) (zm_XC zk_E V zo_x) args s mc ms (fun q => V.2.2.2.1 ≤ q)) 4 zk_E V mc ms 48 [(2, .int x2)] [] S' rc rs) : ∀ (n : Nat) (i2 : Int32) (i3 : Int32) (S : zm_S), zf_X18_smokes_L4 N n a0 i1 i2 i3 S = some res → zw p l e R s m args below meth c (vx_MQ below (zm_Qc zk_E V (zo_i out)) (zm_XC zk_E V zo_x) args s mc ms (fun q => V.2.2.2.1 ≤ q)) 4 zk_E V mc ms 4 [(0, .ref a0), (1, .int i1), (2, .int i2), (3, .int i3)] [] S rc rs := by
  intro n
  induction n with
  | zero => intro i2 i3 S h; cases h
  | succ n ih =>
    intro i2 i3 S h
    rw [zf_X18_smokes_L4] at h
    refine zw_iload_n hX dX18_smokes_4 rfl ?_
    refine zw_sipush (v := (576 : Int32)) hX dX18_smokes_5 (by decide) ?_
    refine zw_icmp_ge (tgt := 48) hX dX18_smokes_8 (by decide) (fun c8 => ?_) (fun c8 => ?_)
    · rw [if_pos c8] at h
      refine zw_sub (lv' := [(2, .int i2)]) (List.forall_mem_cons.mpr ⟨rfl, zs_nil⟩) ?_
      exact hk _ _ (Option.some.inj h).symm
    · rw [if_neg c8] at h
      refine zw_iload_n hX dX18_smokes_11 rfl ?_
      refine zw_aload_n hX dX18_smokes_12 rfl ?_
      obtain ⟨b1, g, h⟩ := zb_some h
      refine zw_getr hX zl_X18_166 dX18_smokes_13 g ?_
      refine zw_iload_n hX dX18_smokes_16 rfl ?_
      obtain ⟨v2, g, h⟩ := zb_some h
      refine zw_xz hX dX18_smokes_17 g ?_
      refine zw_if_eq (tgt := 39) hX dX18_smokes_18 (by decide) (fun c18 => ?_) (fun c18 => ?_)
      · rw [if_pos c18] at h
        refine zw_sub (lv' := [(0, .ref a0), (1, .int i1), (3, .int i3)]) (List.forall_mem_cons.mpr ⟨rfl, (List.forall_mem_cons.mpr ⟨rfl, (List.forall_mem_cons.mpr ⟨rfl, zs_nil⟩)⟩)⟩) ?_
        exact zt_X18_smokes_J39 hX hr hR hd hf hk ih h
      · rw [if_neg c18] at h
        refine zw_iload_n hX dX18_smokes_21 rfl ?_
        refine zw_if_lt (tgt := 35) hX dX18_smokes_22 (by decide) (fun c22 => ?_) (fun c22 => ?_)
        · rw [if_pos c22] at h
          refine zw_sub (lv' := [(0, .ref a0), (1, .int i1), (3, .int i3)]) (List.forall_mem_cons.mpr ⟨rfl, (List.forall_mem_cons.mpr ⟨rfl, (List.forall_mem_cons.mpr ⟨rfl, zs_nil⟩)⟩)⟩) ?_
          exact zt_X18_smokes_J35 hX hr hR hd hf hk ih h
        · rw [if_neg c22] at h
          refine zw_aload_n hX dX18_smokes_25 rfl ?_
          obtain ⟨b3, g, h⟩ := zb_some h
          refine zw_getr hX zl_X18_175 dX18_smokes_26 g ?_
          refine zw_iload_n hX dX18_smokes_29 rfl ?_
          obtain ⟨v4, g, h⟩ := zb_some h
          refine zw_xi hX dX18_smokes_30 g ?_
          refine zw_iload_n hX dX18_smokes_31 rfl ?_
          refine zw_icmp_ne (tgt := 39) hX dX18_smokes_32 (by decide) (fun c32 => ?_) (fun c32 => ?_)
          · rw [if_neg c32] at h
            refine zw_sub (lv' := [(0, .ref a0), (1, .int i1), (3, .int i3)]) (List.forall_mem_cons.mpr ⟨rfl, (List.forall_mem_cons.mpr ⟨rfl, (List.forall_mem_cons.mpr ⟨rfl, zs_nil⟩)⟩)⟩) ?_
            exact zt_X18_smokes_J39 hX hr hR hd hf hk ih h
          · rw [if_pos c32] at h
            refine zw_sub (lv' := [(0, .ref a0), (1, .int i1), (3, .int i3)]) (List.forall_mem_cons.mpr ⟨rfl, (List.forall_mem_cons.mpr ⟨rfl, (List.forall_mem_cons.mpr ⟨rfl, zs_nil⟩)⟩)⟩) ?_
            exact zt_X18_smokes_J35 hX hr hR hd hf hk ih h
set_option maxHeartbeats 4000000 in
set_option maxRecDepth 100000 in
theorem zt_X18_smokes {l : Launch} {V : zm_V} {N : Nat} {S : zm_S} {out : (Int32 × zm_S)} {d : Nat} {a0 : Nat} {i1 : Int32} (hd : 1 ≤ d) (h : zf_X18_smokes N a0 i1 S = some out) : zm_Met l zk_E V yX18_smokes (.code yX18_smokes cX18_smokes 4 (some .int)) d [.ref a0, .int i1] S 0 0 (zo_i out) zo_x := by
  refine zm_of (by decide +kernel) (Nat.le_of_ble_eq_true rfl) ?_
  intro p e R s m args below meth c hRR hX hr hxt
  have hR : R.frames = d ∧ R.locals = 64 * d := by rw [hRR]; exact ⟨rfl, rfl⟩
  have hX : zm_X p R s m args meth c RX18 "smokes" cX18_smokes 4 zk_E V 0 0 := hX
  unfold zf_X18_smokes at h
  refine zw_sub (lv' := [(0, .ref a0), (1, .int i1)]) (List.forall_mem_cons.mpr ⟨rfl, (List.forall_mem_cons.mpr ⟨rfl, zs_nil⟩)⟩) ?_
  refine zw_iconst (v := (0 : Int32)) hX dX18_smokes_0 (by decide) ?_
  refine zw_istore_n hX dX18_smokes_1 (by decide) ?_
  refine zw_iconst (v := (0 : Int32)) hX dX18_smokes_2 (by decide) ?_
  refine zw_istore_n hX dX18_smokes_3 (by decide) ?_
  obtain ⟨r, g, h⟩ := zb_some h
  refine zw_sub (lv' := [(0, .ref a0), (1, .int i1), (2, .int (0 : Int32)), (3, .int (0 : Int32))]) (List.forall_mem_cons.mpr ⟨rfl, (List.forall_mem_cons.mpr ⟨rfl, (List.forall_mem_cons.mpr ⟨rfl, (List.forall_mem_cons.mpr ⟨rfl, zs_nil⟩)⟩)⟩)⟩) ?_
  refine zt_X18_smokes_L4 hX hr hR hd (res := r) (out := out) a0 i1 ?_ ?_ N _ _ _ g
  · intro o ho
    subst ho
    exact Option.some.inj h
  · intro v6 S5 hx
    subst hx
    try dsimp only at h
    refine zw_iload_n hX dX18_smokes_48 rfl ?_
    obtain rfl := Option.some.inj h
    exact zw_iret hX hr dX18_smokes_49 rfl ⟨rfl, rfl⟩
set_option maxHeartbeats 4000000 in
set_option maxRecDepth 100000 in
theorem zt_X18_inSpaces_J40 {p : Program} {l : Launch} {e : Env} {R : Room} {s : State} {m : MethodId} {args : Array Value} {below : List Frame} {meth : Method} {c : Code} {V : zm_V} {mc ms d rc rs : Nat} (hX : zm_X p R s m args meth c RX18 "inSpaces" cX18_inSpaces 3 zk_E V mc ms) (hr : meth.sig.returnType = (some .int)) (hR : R.frames = d ∧ R.locals = 64 * d) (hd : 1 ≤ d) {N : Nat} {k : Nat → Int32 → Int32 → zm_S → Option ((Int32 × zm_S) ⊕ ((Int32) × zm_S))} {a0 : Nat} {i2 : Int32} {t0 : Int32} {t1 : Int32} {res : (Int32 × zm_S) ⊕ ((Int32) × zm_S)} {out : (Int32 × zm_S)}   (hf : ∀ o, res = .inl o → o = out) (hk : ∀ (x1 : Int32) (S' : zm_S), res = .inr (x1, S') → zw p l e R s m args below meth c (vx_MQ below (zm_Qc zk_E V (zo_i out)) (zm_XC zk_E V zo_x) args s mc ms (fun q => V.2.2.2.1 ≤ q)) 3 zk_E V mc ms 48 [(1, .int x1)] [] S' rc rs) (hrec : ∀ (i1' : Int32) (i2' : Int32) (S : zm_S), k a0 i1' i2' S = some res → zw p l e R s m args below meth c (vx_MQ below (zm_Qc zk_E V (zo_i out)) (zm_XC zk_E V zo_x) args s mc ms (fun q => V.2.2.2.1 ≤ q)) 3 zk_E V mc ms 4 [(0, .ref a0), (1, .int i1'), (2, .int i2')] [] S rc rs) {S : zm_S} (h : zf_X18_inSpaces_J40 N k a0 i2 t0 t1 S = some res) : zw p l e R s m args below meth c (vx_MQ below (zm_Qc zk_E V (zo_i out)) (zm_XC zk_E V zo_x) args s mc ms (fun q => V.2.2.2.1 ≤ q)) 3 zk_E V mc ms 40 [(0, .ref a0), (2, .int i2)] [.int t1, .int t0] S rc rs := by
  unfold zf_X18_inSpaces_J40 at h
  refine zw_iadd hX dX18_inSpaces_40 ?_
  refine zw_istore_n hX dX18_inSpaces_41 (by decide) ?_
  refine zw_iinc (v := (i2 + (1 : Int32))) hX dX18_inSpaces_42 rfl rfl (by decide) ?_
  refine zw_goto (tgt := 4) hX dX18_inSpaces_45 (by decide) ?_
  refine zw_sub (lv' := [(0, .ref a0), (1, .int (t0 + t1)), (2, .int (i2 + (1 : Int32)))]) (List.forall_mem_cons.mpr ⟨rfl, (List.forall_mem_cons.mpr ⟨rfl, (List.forall_mem_cons.mpr ⟨rfl, zs_nil⟩)⟩)⟩) ?_
  exact hrec _ _ _ h
set_option maxHeartbeats 4000000 in
set_option maxRecDepth 100000 in
theorem zt_X18_inSpaces_J39 {p : Program} {l : Launch} {e : Env} {R : Room} {s : State} {m : MethodId} {args : Array Value} {below : List Frame} {meth : Method} {c : Code} {V : zm_V} {mc ms d rc rs : Nat} (hX : zm_X p R s m args meth c RX18 "inSpaces" cX18_inSpaces 3 zk_E V mc ms) (hr : meth.sig.returnType = (some .int)) (hR : R.frames = d ∧ R.locals = 64 * d) (hd : 1 ≤ d) {N : Nat} {k : Nat → Int32 → Int32 → zm_S → Option ((Int32 × zm_S) ⊕ ((Int32) × zm_S))} {a0 : Nat} {i2 : Int32} {t0 : Int32} {res : (Int32 × zm_S) ⊕ ((Int32) × zm_S)} {out : (Int32 × zm_S)}   (hf : ∀ o, res = .inl o → o = out) (hk : ∀ (x1 : Int32) (S' : zm_S), res = .inr (x1, S') → zw p l e R s m args below meth c (vx_MQ below (zm_Qc zk_E V (zo_i out)) (zm_XC zk_E V zo_x) args s mc ms (fun q => V.2.2.2.1 ≤ q)) 3 zk_E V mc ms 48 [(1, .int x1)] [] S' rc rs) (hrec : ∀ (i1' : Int32) (i2' : Int32) (S : zm_S), k a0 i1' i2' S = some res → zw p l e R s m args below meth c (vx_MQ below (zm_Qc zk_E V (zo_i out)) (zm_XC zk_E V zo_x) args s mc ms (fun q => V.2.2.2.1 ≤ q)) 3 zk_E V mc ms 4 [(0, .ref a0), (1, .int i1'), (2, .int i2')] [] S rc rs) {S : zm_S} (h : zf_X18_inSpaces_J39 N k a0 i2 t0 S = some res) : zw p l e R s m args below meth c (vx_MQ below (zm_Qc zk_E V (zo_i out)) (zm_XC zk_E V zo_x) args s mc ms (fun q => V.2.2.2.1 ≤ q)) 3 zk_E V mc ms 39 [(0, .ref a0), (2, .int i2)] [.int t0] S rc rs := by
  unfold zf_X18_inSpaces_J39 at h
  refine zw_iconst (v := (0 : Int32)) hX dX18_inSpaces_39 (by decide) ?_
  refine zw_sub (lv' := [(0, .ref a0), (2, .int i2)]) (List.forall_mem_cons.mpr ⟨rfl, (List.forall_mem_cons.mpr ⟨rfl, zs_nil⟩)⟩) ?_
  exact zt_X18_inSpaces_J40 hX hr hR hd hf hk hrec h
set_option maxHeartbeats 4000000 in
set_option maxRecDepth 100000 in
theorem zt_X18_inSpaces_L4 {p : Program} {l : Launch} {e : Env} {R : Room} {s : State} {m : MethodId} {args : Array Value} {below : List Frame} {meth : Method} {c : Code} {V : zm_V} {mc ms d rc rs : Nat} (hX : zm_X p R s m args meth c RX18 "inSpaces" cX18_inSpaces 3 zk_E V mc ms) (hr : meth.sig.returnType = (some .int)) (hR : R.frames = d ∧ R.locals = 64 * d) (hd : 1 ≤ d) {N : Nat} {res : (Int32 × zm_S) ⊕ ((Int32) × zm_S)} {out : (Int32 × zm_S)} (a0 : Nat) (hf : ∀ o, res = .inl o → o = out) (hk : ∀ (x1 : Int32) (S' : zm_S), res = .inr (x1, S') → zw p l e R s m args below meth c (vx_MQ below (zm_Qc zk_E V (zo_i out)) (zm_XC zk_E V zo_x) args s mc ms (fun q => V.2.2.2.1 ≤ q)) 3 zk_E V mc ms 48 [(1, .int x1)] [] S' rc rs) : ∀ (n : Nat) (i1 : Int32) (i2 : Int32) (S : zm_S), zf_X18_inSpaces_L4 N n a0 i1 i2 S = some res → zw p l e R s m args below meth c (vx_MQ below (zm_Qc zk_E V (zo_i out)) (zm_XC zk_E V zo_x) args s mc ms (fun q => V.2.2.2.1 ≤ q)) 3 zk_E V mc ms 4 [(0, .ref a0), (1, .int i1), (2, .int i2)] [] S rc rs := by
  intro n
  induction n with
  | zero => intro i1 i2 S h; cases h
  | succ n ih =>
    intro i1 i2 S h
    rw [zf_X18_inSpaces_L4] at h
    refine zw_iload_n hX dX18_inSpaces_4 rfl ?_
    refine zw_aload_n hX dX18_inSpaces_5 rfl ?_
    obtain ⟨v1, g, h⟩ := zb_some h
    refine zw_geti hX zl_X18_369 dX18_inSpaces_6 g ?_
    refine zw_icmp_ge (tgt := 48) hX dX18_inSpaces_9 (by decide) (fun c9 => ?_) (fun c9 => ?_)
    · rw [if_pos c9] at h
      refine zw_sub (lv' := [(1, .int i1)]) (List.forall_mem_cons.mpr ⟨rfl, zs_nil⟩) ?_
      exact hk _ _ (Option.some.inj h).symm
    · rw [if_neg c9] at h
      refine zw_iload_n hX dX18_inSpaces_12 rfl ?_
      refine zw_aload_n hX dX18_inSpaces_13 rfl ?_
      obtain ⟨b2, g, h⟩ := zb_some h
      refine zw_getr hX zl_X18_106 dX18_inSpaces_14 g ?_
      refine zw_iload_n hX dX18_inSpaces_17 rfl ?_
      obtain ⟨v3, g, h⟩ := zb_some h
      refine zw_xi hX dX18_inSpaces_18 g ?_
      refine zw_aload_n hX dX18_inSpaces_19 rfl ?_
      obtain ⟨v4, g, h⟩ := zb_some h
      refine zw_geti hX zl_X18_338 dX18_inSpaces_20 g ?_
      refine zw_icmp_ge (tgt := 39) hX dX18_inSpaces_23 (by decide) (fun c23 => ?_) (fun c23 => ?_)
      · rw [if_pos c23] at h
        refine zw_sub (lv' := [(0, .ref a0), (2, .int i2)]) (List.forall_mem_cons.mpr ⟨rfl, (List.forall_mem_cons.mpr ⟨rfl, zs_nil⟩)⟩) ?_
        exact zt_X18_inSpaces_J39 hX hr hR hd hf hk ih h
      · rw [if_neg c23] at h
        refine zw_aload_n hX dX18_inSpaces_26 rfl ?_
        obtain ⟨b5, g, h⟩ := zb_some h
        refine zw_getr hX zl_X18_115 dX18_inSpaces_27 g ?_
        refine zw_iload_n hX dX18_inSpaces_30 rfl ?_
        obtain ⟨v6, g, h⟩ := zb_some h
        refine zw_xi hX dX18_inSpaces_31 g ?_
        refine zw_if_ge (tgt := 39) hX dX18_inSpaces_32 (by decide) (fun c32 => ?_) (fun c32 => ?_)
        · rw [if_pos c32] at h
          refine zw_sub (lv' := [(0, .ref a0), (2, .int i2)]) (List.forall_mem_cons.mpr ⟨rfl, (List.forall_mem_cons.mpr ⟨rfl, zs_nil⟩)⟩) ?_
          exact zt_X18_inSpaces_J39 hX hr hR hd hf hk ih h
        · rw [if_neg c32] at h
          refine zw_iconst (v := (1 : Int32)) hX dX18_inSpaces_35 (by decide) ?_
          refine zw_goto (tgt := 40) hX dX18_inSpaces_36 (by decide) ?_
          refine zw_sub (lv' := [(0, .ref a0), (2, .int i2)]) (List.forall_mem_cons.mpr ⟨rfl, (List.forall_mem_cons.mpr ⟨rfl, zs_nil⟩)⟩) ?_
          exact zt_X18_inSpaces_J40 hX hr hR hd hf hk ih h
set_option maxHeartbeats 4000000 in
set_option maxRecDepth 100000 in
theorem zt_X18_inSpaces {l : Launch} {V : zm_V} {N : Nat} {S : zm_S} {out : (Int32 × zm_S)} {d : Nat} {a0 : Nat} (hd : 1 ≤ d) (h : zf_X18_inSpaces N a0 S = some out) : zm_Met l zk_E V yX18_inSpaces (.code yX18_inSpaces cX18_inSpaces 3 (some .int)) d [.ref a0] S 0 0 (zo_i out) zo_x := by
  refine zm_of (by decide +kernel) (Nat.le_of_ble_eq_true rfl) ?_
  intro p e R s m args below meth c hRR hX hr hxt
  have hR : R.frames = d ∧ R.locals = 64 * d := by rw [hRR]; exact ⟨rfl, rfl⟩
  have hX : zm_X p R s m args meth c RX18 "inSpaces" cX18_inSpaces 3 zk_E V 0 0 := hX
  unfold zf_X18_inSpaces at h
  refine zw_sub (lv' := [(0, .ref a0)]) (List.forall_mem_cons.mpr ⟨rfl, zs_nil⟩) ?_
  refine zw_iconst (v := (0 : Int32)) hX dX18_inSpaces_0 (by decide) ?_
  refine zw_istore_n hX dX18_inSpaces_1 (by decide) ?_
  refine zw_iconst (v := (0 : Int32)) hX dX18_inSpaces_2 (by decide) ?_
  refine zw_istore_n hX dX18_inSpaces_3 (by decide) ?_
  obtain ⟨r, g, h⟩ := zb_some h
  refine zw_sub (lv' := [(0, .ref a0), (1, .int (0 : Int32)), (2, .int (0 : Int32))]) (List.forall_mem_cons.mpr ⟨rfl, (List.forall_mem_cons.mpr ⟨rfl, (List.forall_mem_cons.mpr ⟨rfl, zs_nil⟩)⟩)⟩) ?_
  refine zt_X18_inSpaces_L4 hX hr hR hd (res := r) (out := out) a0 ?_ ?_ N _ _ _ g
  · intro o ho
    subst ho
    exact Option.some.inj h
  · intro v8 S7 hx
    subst hx
    try dsimp only at h
    refine zw_iload_n hX dX18_inSpaces_48 rfl ?_
    obtain rfl := Option.some.inj h
    exact zw_iret hX hr dX18_inSpaces_49 rfl ⟨rfl, rfl⟩
set_option maxHeartbeats 4000000 in
set_option maxRecDepth 100000 in
theorem zt_X18_detect_L2 {p : Program} {l : Launch} {e : Env} {R : Room} {s : State} {m : MethodId} {args : Array Value} {below : List Frame} {meth : Method} {c : Code} {V : zm_V} {mc ms d rc rs : Nat} (hX : zm_X p R s m args meth c RX18 "detect" cX18_detect 3 zk_E V mc ms) (hr : meth.sig.returnType = none) (hR : R.frames = d ∧ R.locals = 64 * d) (hd : 2 ≤ d) {N : Nat} {res : (Unit × zm_S) ⊕ ((Unit) × zm_S)} {out : (Unit × zm_S)} (a0 : Nat) (hf : ∀ o, res = .inl o → o = out) (hk : ∀ (S' : zm_S), res = .inr ((), S') → zw p l e R s m args below meth c (vx_MQ below (zm_Qc zk_E V (zo_v out)) (zm_XC zk_E V zo_x) args s mc ms (fun q => V.2.2.2.1 ≤ q)) 3 zk_E V mc ms 46 [(0, .ref a0)] [] S' rc rs) : ∀ (n : Nat) (i1 : Int32) (S : zm_S), zf_X18_detect_L2 N n a0 i1 S = some res → zw p l e R s m args below meth c (vx_MQ below (zm_Qc zk_E V (zo_v out)) (zm_XC zk_E V zo_x) args s mc ms (fun q => V.2.2.2.1 ≤ q)) 3 zk_E V mc ms 2 [(0, .ref a0), (1, .int i1)] [] S rc rs := by
  intro n
  induction n with
  | zero => intro i1 S h; cases h
  | succ n ih =>
    intro i1 S h
    rw [zf_X18_detect_L2] at h
    refine zw_iload_n hX dX18_detect_2 rfl ?_
    refine zw_aload_n hX dX18_detect_3 rfl ?_
    obtain ⟨v1, g, h⟩ := zb_some h
    refine zw_geti hX zl_X18_338 dX18_detect_4 g ?_
    refine zw_icmp_ge (tgt := 46) hX dX18_detect_7 (by decide) (fun c7 => ?_) (fun c7 => ?_)
    · rw [if_pos c7] at h
      refine zw_sub (lv' := [(0, .ref a0)]) (List.forall_mem_cons.mpr ⟨rfl, zs_nil⟩) ?_
      exact hk  _ (Option.some.inj h).symm
    · rw [if_neg c7] at h
      refine zw_bipush (v := (10 : Int32)) hX dX18_detect_10 (by decide) ?_
      refine zw_aload_n hX dX18_detect_12 rfl ?_
      refine zw_iload_n hX dX18_detect_13 rfl ?_
      obtain ⟨_, gi, h⟩ := zb_some h
      obtain ⟨r3, g, h⟩ := zb_some h
      refine zc_Vi (as := [.int i1]) hX gi (zt_X18_smokes (d := d - 1) (by omega) g) zl_X18_657 rfl dX18_detect_14 ⟨rfl, rfl, Nat.le_of_ble_eq_true rfl⟩ ⟨by omega, by omega⟩ ?_
      refine zw_imul hX dX18_detect_17 ?_
      refine zw_istore_n hX dX18_detect_18 (by decide) ?_
      refine zw_aload_n hX dX18_detect_19 rfl ?_
      obtain ⟨b4, g, h⟩ := zb_some h
      refine zw_getr hX zl_X18_28 dX18_detect_20 g ?_
      obtain ⟨b5, g, h⟩ := zb_some h
      refine zw_getr hX zl_X18_454 dX18_detect_23 g ?_
      refine zw_iload_n hX dX18_detect_26 rfl ?_
      refine zw_iload_n hX dX18_detect_27 rfl ?_
      refine zw_bipush (v := (100 : Int32)) hX dX18_detect_28 (by decide) ?_
      refine zw_icmp_le (tgt := 38) hX dX18_detect_30 (by decide) (fun c30 => ?_) (fun c30 => ?_)
      · rw [if_pos c30] at h
        refine zw_iload_n hX dX18_detect_38 rfl ?_
        obtain ⟨S6, g, h⟩ := zb_some h
        refine zw_si hX dX18_detect_39 g ?_
        refine zw_iinc (v := (i1 + (1 : Int32))) hX dX18_detect_40 rfl rfl (by decide) ?_
        refine zw_goto (tgt := 2) hX dX18_detect_43 (by decide) ?_
        refine zw_sub (lv' := [(0, .ref a0), (1, .int (i1 + (1 : Int32)))]) (List.forall_mem_cons.mpr ⟨rfl, (List.forall_mem_cons.mpr ⟨rfl, zs_nil⟩)⟩) ?_
        exact ih _ _ h
      · rw [if_neg c30] at h
        refine zw_bipush (v := (100 : Int32)) hX dX18_detect_33 (by decide) ?_
        refine zw_goto (tgt := 39) hX dX18_detect_35 (by decide) ?_
        obtain ⟨S7, g, h⟩ := zb_some h
        refine zw_si hX dX18_detect_39 g ?_
        refine zw_iinc (v := (i1 + (1 : Int32))) hX dX18_detect_40 rfl rfl (by decide) ?_
        refine zw_goto (tgt := 2) hX dX18_detect_43 (by decide) ?_
        refine zw_sub (lv' := [(0, .ref a0), (1, .int (i1 + (1 : Int32)))]) (List.forall_mem_cons.mpr ⟨rfl, (List.forall_mem_cons.mpr ⟨rfl, zs_nil⟩)⟩) ?_
        exact ih _ _ h
set_option maxHeartbeats 4000000 in
set_option maxRecDepth 100000 in
theorem zt_X18_detect_L48 {p : Program} {l : Launch} {e : Env} {R : Room} {s : State} {m : MethodId} {args : Array Value} {below : List Frame} {meth : Method} {c : Code} {V : zm_V} {mc ms d rc rs : Nat} (hX : zm_X p R s m args meth c RX18 "detect" cX18_detect 3 zk_E V mc ms) (hr : meth.sig.returnType = none) (hR : R.frames = d ∧ R.locals = 64 * d) (hd : 2 ≤ d) {N : Nat} {res : (Unit × zm_S) ⊕ ((Unit) × zm_S)} {out : (Unit × zm_S)} (a0 : Nat) (hf : ∀ o, res = .inl o → o = out) (hk : ∀ (S' : zm_S), res = .inr ((), S') → zw p l e R s m args below meth c (vx_MQ below (zm_Qc zk_E V (zo_v out)) (zm_XC zk_E V zo_x) args s mc ms (fun q => V.2.2.2.1 ≤ q)) 3 zk_E V mc ms 131 [] [] S' rc rs) : ∀ (n : Nat) (i1 : Int32) (S : zm_S), zf_X18_detect_L48 N n a0 i1 S = some res → zw p l e R s m args below meth c (vx_MQ below (zm_Qc zk_E V (zo_v out)) (zm_XC zk_E V zo_x) args s mc ms (fun q => V.2.2.2.1 ≤ q)) 3 zk_E V mc ms 48 [(0, .ref a0), (1, .int i1)] [] S rc rs := by
  intro n
  induction n with
  | zero => intro i1 S h; cases h
  | succ n ih =>
    intro i1 S h
    rw [zf_X18_detect_L48] at h
    refine zw_iload_n hX dX18_detect_48 rfl ?_
    refine zw_aload_n hX dX18_detect_49 rfl ?_
    obtain ⟨b9, g, h⟩ := zb_some h
    refine zw_getr hX zl_X18_35 dX18_detect_50 g ?_
    obtain ⟨v10, g, h⟩ := zb_some h
    refine zw_geti hX zl_X18_513 dX18_detect_53 g ?_
    refine zw_icmp_ge (tgt := 131) hX dX18_detect_56 (by decide) (fun c56 => ?_) (fun c56 => ?_)
    · rw [if_pos c56] at h
      refine zw_sub (lv' := []) zs_nil ?_
      exact hk  _ (Option.some.inj h).symm
    · rw [if_neg c56] at h
      refine zw_aload_n hX dX18_detect_59 rfl ?_
      obtain ⟨b11, g, h⟩ := zb_some h
      refine zw_getr hX zl_X18_35 dX18_detect_60 g ?_
      obtain ⟨b12, g, h⟩ := zb_some h
      refine zw_getr hX zl_X18_541 dX18_detect_63 g ?_
      refine zw_iload_n hX dX18_detect_66 rfl ?_
      obtain ⟨v13, g, h⟩ := zb_some h
      refine zw_xi hX dX18_detect_67 g ?_
      refine zw_if_le (tgt := 125) hX dX18_detect_68 (by decide) (fun c68 => ?_) (fun c68 => ?_)
      · rw [if_pos c68] at h
        refine zw_iinc (v := (i1 + (1 : Int32))) hX dX18_detect_125 rfl rfl (by decide) ?_
        refine zw_goto (tgt := 48) hX dX18_detect_128 (by decide) ?_
        refine zw_sub (lv' := [(0, .ref a0), (1, .int (i1 + (1 : Int32)))]) (List.forall_mem_cons.mpr ⟨rfl, (List.forall_mem_cons.mpr ⟨rfl, zs_nil⟩)⟩) ?_
        exact ih _ _ h
      · rw [if_neg c68] at h
        refine zw_aload_n hX dX18_detect_71 rfl ?_
        obtain ⟨b14, g, h⟩ := zb_some h
        refine zw_getr hX zl_X18_35 dX18_detect_72 g ?_
        obtain ⟨b15, g, h⟩ := zb_some h
        refine zw_getr hX zl_X18_547 dX18_detect_75 g ?_
        refine zw_iload_n hX dX18_detect_78 rfl ?_
        obtain ⟨v16, g, h⟩ := zb_some h
        refine zw_xi hX dX18_detect_79 g ?_
        refine zw_istore_n hX dX18_detect_80 (by decide) ?_
        refine zw_aload_n hX dX18_detect_81 rfl ?_
        obtain ⟨b17, g, h⟩ := zb_some h
        refine zw_getr hX zl_X18_28 dX18_detect_82 g ?_
        obtain ⟨b18, g, h⟩ := zb_some h
        refine zw_getr hX zl_X18_454 dX18_detect_85 g ?_
        refine zw_aload_n hX dX18_detect_88 rfl ?_
        obtain ⟨v19, g, h⟩ := zb_some h
        refine zw_geti hX zl_X18_338 dX18_detect_89 g ?_
        refine zw_aload_n hX dX18_detect_92 rfl ?_
        obtain ⟨b20, g, h⟩ := zb_some h
        refine zw_getr hX zl_X18_35 dX18_detect_93 g ?_
        obtain ⟨b21, g, h⟩ := zb_some h
        refine zw_getr hX zl_X18_541 dX18_detect_96 g ?_
        refine zw_iload_n hX dX18_detect_99 rfl ?_
        obtain ⟨v22, g, h⟩ := zb_some h
        refine zw_xi hX dX18_detect_100 g ?_
        refine zw_iadd hX dX18_detect_101 ?_
        refine zw_iconst (v := (1 : Int32)) hX dX18_detect_102 (by decide) ?_
        refine zw_isub hX dX18_detect_103 ?_
        refine zw_iload_n hX dX18_detect_104 rfl ?_
        refine zw_if_ge (tgt := 112) hX dX18_detect_105 (by decide) (fun c105 => ?_) (fun c105 => ?_)
        · rw [if_pos c105] at h
          refine zw_iload_n hX dX18_detect_112 rfl ?_
          refine zw_bipush (v := (100 : Int32)) hX dX18_detect_113 (by decide) ?_
          refine zw_icmp_le (tgt := 123) hX dX18_detect_115 (by decide) (fun c115 => ?_) (fun c115 => ?_)
          · rw [if_pos c115] at h
            refine zw_iload_n hX dX18_detect_123 rfl ?_
            obtain ⟨S23, g, h⟩ := zb_some h
            refine zw_si hX dX18_detect_124 g ?_
            refine zw_iinc (v := (i1 + (1 : Int32))) hX dX18_detect_125 rfl rfl (by decide) ?_
            refine zw_goto (tgt := 48) hX dX18_detect_128 (by decide) ?_
            refine zw_sub (lv' := [(0, .ref a0), (1, .int (i1 + (1 : Int32)))]) (List.forall_mem_cons.mpr ⟨rfl, (List.forall_mem_cons.mpr ⟨rfl, zs_nil⟩)⟩) ?_
            exact ih _ _ h
          · rw [if_neg c115] at h
            refine zw_bipush (v := (100 : Int32)) hX dX18_detect_118 (by decide) ?_
            refine zw_goto (tgt := 124) hX dX18_detect_120 (by decide) ?_
            obtain ⟨S24, g, h⟩ := zb_some h
            refine zw_si hX dX18_detect_124 g ?_
            refine zw_iinc (v := (i1 + (1 : Int32))) hX dX18_detect_125 rfl rfl (by decide) ?_
            refine zw_goto (tgt := 48) hX dX18_detect_128 (by decide) ?_
            refine zw_sub (lv' := [(0, .ref a0), (1, .int (i1 + (1 : Int32)))]) (List.forall_mem_cons.mpr ⟨rfl, (List.forall_mem_cons.mpr ⟨rfl, zs_nil⟩)⟩) ?_
            exact ih _ _ h
        · rw [if_neg c105] at h
          refine zw_iconst (v := (0 : Int32)) hX dX18_detect_108 (by decide) ?_
          refine zw_goto (tgt := 124) hX dX18_detect_109 (by decide) ?_
          obtain ⟨S25, g, h⟩ := zb_some h
          refine zw_si hX dX18_detect_124 g ?_
          refine zw_iinc (v := (i1 + (1 : Int32))) hX dX18_detect_125 rfl rfl (by decide) ?_
          refine zw_goto (tgt := 48) hX dX18_detect_128 (by decide) ?_
          refine zw_sub (lv' := [(0, .ref a0), (1, .int (i1 + (1 : Int32)))]) (List.forall_mem_cons.mpr ⟨rfl, (List.forall_mem_cons.mpr ⟨rfl, zs_nil⟩)⟩) ?_
          exact ih _ _ h
set_option maxHeartbeats 4000000 in
set_option maxRecDepth 100000 in
theorem zt_X18_detect {l : Launch} {V : zm_V} {N : Nat} {S : zm_S} {out : (Unit × zm_S)} {d : Nat} {a0 : Nat} (hd : 2 ≤ d) (h : zf_X18_detect N a0 S = some out) : zm_Met l zk_E V yX18_detect (.code yX18_detect cX18_detect 3 none) d [.ref a0] S 0 0 (zo_v out) zo_x := by
  refine zm_of (by decide +kernel) (Nat.le_of_ble_eq_true rfl) ?_
  intro p e R s m args below meth c hRR hX hr hxt
  have hR : R.frames = d ∧ R.locals = 64 * d := by rw [hRR]; exact ⟨rfl, rfl⟩
  have hX : zm_X p R s m args meth c RX18 "detect" cX18_detect 3 zk_E V 0 0 := hX
  unfold zf_X18_detect at h
  refine zw_sub (lv' := [(0, .ref a0)]) (List.forall_mem_cons.mpr ⟨rfl, zs_nil⟩) ?_
  refine zw_iconst (v := (0 : Int32)) hX dX18_detect_0 (by decide) ?_
  refine zw_istore_n hX dX18_detect_1 (by decide) ?_
  obtain ⟨r, g, h⟩ := zb_some h
  refine zw_sub (lv' := [(0, .ref a0), (1, .int (0 : Int32))]) (List.forall_mem_cons.mpr ⟨rfl, (List.forall_mem_cons.mpr ⟨rfl, zs_nil⟩)⟩) ?_
  refine zt_X18_detect_L2 hX hr hR hd (res := r) (out := out) a0 ?_ ?_ N _ _ g
  · intro o ho
    subst ho
    exact Option.some.inj h
  · intro  S8 hx
    subst hx
    try dsimp only at h
    refine zw_iconst (v := (0 : Int32)) hX dX18_detect_46 (by decide) ?_
    refine zw_istore_n hX dX18_detect_47 (by decide) ?_
    obtain ⟨r, g, h⟩ := zb_some h
    refine zw_sub (lv' := [(0, .ref a0), (1, .int (0 : Int32))]) (List.forall_mem_cons.mpr ⟨rfl, (List.forall_mem_cons.mpr ⟨rfl, zs_nil⟩)⟩) ?_
    refine zt_X18_detect_L48 hX hr hR hd (res := r) (out := out) a0 ?_ ?_ N _ _ g
    · intro o ho
      subst ho
      exact Option.some.inj h
    · intro  S26 hx
      subst hx
      try dsimp only at h
      obtain rfl := Option.some.inj h
      exact zw_vret hX hr dX18_detect_131 ⟨rfl, rfl⟩
set_option maxHeartbeats 4000000 in
set_option maxRecDepth 100000 in
theorem zt_X18_goesThrough_L15 {p : Program} {l : Launch} {e : Env} {R : Room} {s : State} {m : MethodId} {args : Array Value} {below : List Frame} {meth : Method} {c : Code} {V : zm_V} {mc ms d rc rs : Nat} (hX : zm_X p R s m args meth c RX18 "goesThrough" cX18_goesThrough 6 zk_E V mc ms) (hr : meth.sig.returnType = (some .boolean)) (hR : R.frames = d ∧ R.locals = 64 * d) (hd : 3 ≤ d) {N : Nat} {res : (Int32 × zm_S) ⊕ ((Unit) × zm_S)} {out : (Int32 × zm_S)} (a0 : Nat) (i1 : Int32) (i2 : Int32) (i4 : Int32) (hf : ∀ o, res = .inl o → o = out) (hk : ∀ (S' : zm_S), res = .inr ((), S') → zw p l e R s m args below meth c (vx_MQ below (zm_Qc zk_E V (zo_i out)) (zm_XC zk_E V zo_x) args s mc ms (fun q => V.2.2.2.1 ≤ q)) 6 zk_E V mc ms 108 [(4, .int i4)] [] S' rc rs) : ∀ (n : Nat) (i5 : Int32) (S : zm_S), zf_X18_goesThrough_L15 N n a0 i1 i2 i4 i5 S = some res → zw p l e R s m args below meth c (vx_MQ below (zm_Qc zk_E V (zo_i out)) (zm_XC zk_E V zo_x) args s mc ms (fun q => V.2.2.2.1 ≤ q)) 6 zk_E V mc ms 15 [(0, .ref a0), (1, .int i1), (2, .int i2), (4, .int i4), (5, .int i5)] [] S rc rs := by
  intro n
  induction n with
  | zero => intro i5 S h; cases h
  | succ n ih =>
    intro i5 S h
    rw [zf_X18_goesThrough_L15] at h
    refine zw_iload hX dX18_goesThrough_15 rfl ?_
    refine zw_if_lt (tgt := 108) hX dX18_goesThrough_17 (by decide) (fun c17 => ?_) (fun c17 => ?_)
    · rw [if_pos c17] at h
      refine zw_sub (lv' := [(4, .int i4)]) (List.forall_mem_cons.mpr ⟨rfl, zs_nil⟩) ?_
      exact hk  _ (Option.some.inj h).symm
    · rw [if_neg c17] at h
      refine zw_iload hX dX18_goesThrough_20 rfl ?_
      refine zw_aload_n hX dX18_goesThrough_22 rfl ?_
      obtain ⟨b4, g, h⟩ := zb_some h
      refine zw_getr hX zl_X18_12 dX18_goesThrough_23 g ?_
      obtain ⟨b5, g, h⟩ := zb_some h
      refine zw_getr hX zl_X18_221 dX18_goesThrough_26 g ?_
      refine zw_iload hX dX18_goesThrough_29 rfl ?_
      obtain ⟨v6, g, h⟩ := zb_some h
      refine zw_xi hX dX18_goesThrough_31 g ?_
      refine zw_icmp_ge (tgt := 108) hX dX18_goesThrough_32 (by decide) (fun c32 => ?_) (fun c32 => ?_)
      · rw [if_pos c32] at h
        refine zw_sub (lv' := [(4, .int i4)]) (List.forall_mem_cons.mpr ⟨rfl, zs_nil⟩) ?_
        exact hk  _ (Option.some.inj h).symm
      · rw [if_neg c32] at h
        refine zw_aload_n hX dX18_goesThrough_35 rfl ?_
        obtain ⟨b7, g, h⟩ := zb_some h
        refine zw_getr hX zl_X18_12 dX18_goesThrough_36 g ?_
        refine zw_iload hX dX18_goesThrough_39 rfl ?_
        refine zw_iload hX dX18_goesThrough_41 rfl ?_
        refine zw_iload_n hX dX18_goesThrough_43 rfl ?_
        refine zw_iload_n hX dX18_goesThrough_44 rfl ?_
        obtain ⟨_, gi, h⟩ := zb_some h
        obtain ⟨r9, g, h⟩ := zb_some h
        refine zc_Vi (as := [.int i4, .int i5, .int i1, .int i2]) hX gi (zt_X16_isThere (d := d - 1) (by omega) g) zl_X18_642 rfl dX18_goesThrough_45 ⟨rfl, rfl, Nat.le_of_ble_eq_true rfl⟩ ⟨by omega, by omega⟩ ?_
        refine zw_if_eq (tgt := 102) hX dX18_goesThrough_48 (by decide) (fun c48 => ?_) (fun c48 => ?_)
        · rw [if_pos c48] at h
          refine zw_iinc (v := (i5 + (1 : Int32))) hX dX18_goesThrough_102 rfl rfl (by decide) ?_
          refine zw_goto (tgt := 15) hX dX18_goesThrough_105 (by decide) ?_
          refine zw_sub (lv' := [(0, .ref a0), (1, .int i1), (2, .int i2), (4, .int i4), (5, .int (i5 + (1 : Int32)))]) (List.forall_mem_cons.mpr ⟨rfl, (List.forall_mem_cons.mpr ⟨rfl, (List.forall_mem_cons.mpr ⟨rfl, (List.forall_mem_cons.mpr ⟨rfl, (List.forall_mem_cons.mpr ⟨rfl, zs_nil⟩)⟩)⟩)⟩)⟩) ?_
          exact ih _ _ h
        · rw [if_neg c48] at h
          refine zw_aload_n hX dX18_goesThrough_51 rfl ?_
          obtain ⟨b10, g, h⟩ := zb_some h
          refine zw_getr hX zl_X18_178 dX18_goesThrough_52 g ?_
          refine zw_bipush (v := (6 : Int32)) hX dX18_goesThrough_55 (by decide) ?_
          refine zw_iload hX dX18_goesThrough_57 rfl ?_
          refine zw_imul hX dX18_goesThrough_59 ?_
          refine zw_iload hX dX18_goesThrough_60 rfl ?_
          refine zw_iadd hX dX18_goesThrough_62 ?_
          obtain ⟨v11, g, h⟩ := zb_some h
          refine zw_xi hX dX18_goesThrough_63 g ?_
          refine zw_aload_n hX dX18_goesThrough_64 rfl ?_
          obtain ⟨b12, g, h⟩ := zb_some h
          refine zw_getr hX zl_X18_12 dX18_goesThrough_65 g ?_
          obtain ⟨b13, g, h⟩ := zb_some h
          refine zw_getr hX zl_X18_663 dX18_goesThrough_68 g ?_
          refine zw_bipush (v := (6 : Int32)) hX dX18_goesThrough_71 (by decide) ?_
          refine zw_iload hX dX18_goesThrough_73 rfl ?_
          refine zw_imul hX dX18_goesThrough_75 ?_
          refine zw_iload hX dX18_goesThrough_76 rfl ?_
          refine zw_iadd hX dX18_goesThrough_78 ?_
          obtain ⟨v14, g, h⟩ := zb_some h
          refine zw_xi hX dX18_goesThrough_79 g ?_
          refine zw_icmp_ge (tgt := 102) hX dX18_goesThrough_80 (by decide) (fun c80 => ?_) (fun c80 => ?_)
          · rw [if_pos c80] at h
            refine zw_iinc (v := (i5 + (1 : Int32))) hX dX18_goesThrough_102 rfl rfl (by decide) ?_
            refine zw_goto (tgt := 15) hX dX18_goesThrough_105 (by decide) ?_
            refine zw_sub (lv' := [(0, .ref a0), (1, .int i1), (2, .int i2), (4, .int i4), (5, .int (i5 + (1 : Int32)))]) (List.forall_mem_cons.mpr ⟨rfl, (List.forall_mem_cons.mpr ⟨rfl, (List.forall_mem_cons.mpr ⟨rfl, (List.forall_mem_cons.mpr ⟨rfl, (List.forall_mem_cons.mpr ⟨rfl, zs_nil⟩)⟩)⟩)⟩)⟩) ?_
            exact ih _ _ h
          · rw [if_neg c80] at h
            refine zw_aload_n hX dX18_goesThrough_83 rfl ?_
            obtain ⟨b15, g, h⟩ := zb_some h
            refine zw_getr hX zl_X18_178 dX18_goesThrough_84 g ?_
            refine zw_bipush (v := (6 : Int32)) hX dX18_goesThrough_87 (by decide) ?_
            refine zw_iload hX dX18_goesThrough_89 rfl ?_
            refine zw_imul hX dX18_goesThrough_91 ?_
            refine zw_iload hX dX18_goesThrough_92 rfl ?_
            refine zw_iadd hX dX18_goesThrough_94 ?_
            refine zw_dup2 hX dX18_goesThrough_95 rfl rfl ?_
            obtain ⟨v16, g, h⟩ := zb_some h
            refine zw_xi hX dX18_goesThrough_96 g ?_
            refine zw_iconst (v := (1 : Int32)) hX dX18_goesThrough_97 (by decide) ?_
            refine zw_iadd hX dX18_goesThrough_98 ?_
            obtain ⟨S17, g, h⟩ := zb_some h
            refine zw_si hX dX18_goesThrough_99 g ?_
            refine zw_iconst (v := (1 : Int32)) hX dX18_goesThrough_100 (by decide) ?_
            have hz := hf _ (Option.some.inj h).symm
            subst hz
            exact zw_iret hX hr dX18_goesThrough_101 rfl ⟨rfl, rfl⟩
set_option maxHeartbeats 4000000 in
set_option maxRecDepth 100000 in
theorem zt_X18_goesThrough_J108 {p : Program} {l : Launch} {e : Env} {R : Room} {s : State} {m : MethodId} {args : Array Value} {below : List Frame} {meth : Method} {c : Code} {V : zm_V} {mc ms d rc rs : Nat} (hX : zm_X p R s m args meth c RX18 "goesThrough" cX18_goesThrough 6 zk_E V mc ms) (hr : meth.sig.returnType = (some .boolean)) (hR : R.frames = d ∧ R.locals = 64 * d) (hd : 3 ≤ d) {N : Nat} {i4 : Int32} {out : (Int32 × zm_S)} {S : zm_S} (h : zf_X18_goesThrough_J108 N i4 S = some out) : zw p l e R s m args below meth c (vx_MQ below (zm_Qc zk_E V (zo_i out)) (zm_XC zk_E V zo_x) args s mc ms (fun q => V.2.2.2.1 ≤ q)) 6 zk_E V mc ms 108 [(4, .int i4)] [] S rc rs := by
  unfold zf_X18_goesThrough_J108 at h
  refine zw_iload hX dX18_goesThrough_108 rfl ?_
  refine zw_if_ge (tgt := 117) hX dX18_goesThrough_110 (by decide) (fun c110 => ?_) (fun c110 => ?_)
  · rw [if_pos c110] at h
    refine zw_iconst (v := (0 : Int32)) hX dX18_goesThrough_117 (by decide) ?_
    obtain rfl := Option.some.inj h
    exact zw_iret hX hr dX18_goesThrough_118 rfl ⟨rfl, rfl⟩
  · rw [if_neg c110] at h
    refine zw_iconst (v := (1 : Int32)) hX dX18_goesThrough_113 (by decide) ?_
    refine zw_goto (tgt := 118) hX dX18_goesThrough_114 (by decide) ?_
    obtain rfl := Option.some.inj h
    exact zw_iret hX hr dX18_goesThrough_118 rfl ⟨rfl, rfl⟩
set_option maxHeartbeats 4000000 in
set_option maxRecDepth 100000 in
theorem zt_X18_goesThrough {l : Launch} {V : zm_V} {N : Nat} {S : zm_S} {out : (Int32 × zm_S)} {d : Nat} {a0 : Nat} {i1 : Int32} {i2 : Int32} {i3 : Int32} (hd : 3 ≤ d) (h : zf_X18_goesThrough N a0 i1 i2 i3 S = some out) : zm_Met l zk_E V yX18_goesThrough (.code yX18_goesThrough cX18_goesThrough 6 (some .boolean)) d [.ref a0, .int i1, .int i2, .int i3] S 0 0 (zo_i out) zo_x := by
  refine zm_of (by decide +kernel) (Nat.le_of_ble_eq_true rfl) ?_
  intro p e R s m args below meth c hRR hX hr hxt
  have hR : R.frames = d ∧ R.locals = 64 * d := by rw [hRR]; exact ⟨rfl, rfl⟩
  have hX : zm_X p R s m args meth c RX18 "goesThrough" cX18_goesThrough 6 zk_E V 0 0 := hX
  unfold zf_X18_goesThrough at h
  refine zw_sub (lv' := [(0, .ref a0), (1, .int i1), (2, .int i2), (3, .int i3)]) (List.forall_mem_cons.mpr ⟨rfl, (List.forall_mem_cons.mpr ⟨rfl, (List.forall_mem_cons.mpr ⟨rfl, (List.forall_mem_cons.mpr ⟨rfl, zs_nil⟩)⟩)⟩)⟩) ?_
  refine zw_aload_n hX dX18_goesThrough_0 rfl ?_
  obtain ⟨b1, g, h⟩ := zb_some h
  refine zw_getr hX zl_X18_12 dX18_goesThrough_1 g ?_
  refine zw_iload_n hX dX18_goesThrough_4 rfl ?_
  refine zw_iload_n hX dX18_goesThrough_5 rfl ?_
  refine zw_iload_n hX dX18_goesThrough_6 rfl ?_
  obtain ⟨_, gi, h⟩ := zb_some h
  obtain ⟨r3, g, h⟩ := zb_some h
  refine zc_Vi (as := [.int i1, .int i2, .int i3]) hX gi (zt_X16_lineBetween (d := d - 1) (by omega) g) zl_X18_639 rfl dX18_goesThrough_7 ⟨rfl, rfl, Nat.le_of_ble_eq_true rfl⟩ ⟨by omega, by omega⟩ ?_
  refine zw_istore hX dX18_goesThrough_10 (by decide) ?_
  refine zw_iconst (v := (0 : Int32)) hX dX18_goesThrough_12 (by decide) ?_
  refine zw_istore hX dX18_goesThrough_13 (by decide) ?_
  obtain ⟨r, g, h⟩ := zb_some h
  refine zw_sub (lv' := [(0, .ref a0), (1, .int i1), (2, .int i2), (4, .int r3.1), (5, .int (0 : Int32))]) (List.forall_mem_cons.mpr ⟨rfl, (List.forall_mem_cons.mpr ⟨rfl, (List.forall_mem_cons.mpr ⟨rfl, (List.forall_mem_cons.mpr ⟨rfl, (List.forall_mem_cons.mpr ⟨rfl, zs_nil⟩)⟩)⟩)⟩)⟩) ?_
  refine zt_X18_goesThrough_L15 hX hr hR hd (res := r) (out := out) a0 i1 i2 r3.1 ?_ ?_ N _ _ g
  · intro o ho
    subst ho
    exact Option.some.inj h
  · intro  S18 hx
    subst hx
    try dsimp only at h
    refine zw_sub (lv' := [(4, .int r3.1)]) (List.forall_mem_cons.mpr ⟨rfl, zs_nil⟩) ?_
    exact zt_X18_goesThrough_J108 hX hr hR hd h
set_option maxHeartbeats 4000000 in
set_option maxRecDepth 100000 in
theorem zt_X18_step_J158 {p : Program} {l : Launch} {e : Env} {R : Room} {s : State} {m : MethodId} {args : Array Value} {below : List Frame} {meth : Method} {c : Code} {V : zm_V} {mc ms d rc rs : Nat} (hX : zm_X p R s m args meth c RX18 "step" cX18_step 9 zk_E V mc ms) (hr : meth.sig.returnType = none) (hR : R.frames = d ∧ R.locals = 64 * d) (hd : 4 ≤ d) {N : Nat} {k : Nat → Int32 → Int32 → Int32 → zm_S → Option ((Unit × zm_S) ⊕ ((Unit) × zm_S))} {a0 : Nat} {i1 : Int32} {i2 : Int32} {i3 : Int32} {i4 : Int32} {i5 : Int32} {i6 : Int32} {res : (Unit × zm_S) ⊕ ((Unit) × zm_S)} {out : (Unit × zm_S)}   (hf : ∀ o, res = .inl o → o = out) (hk : ∀ (S' : zm_S), res = .inr ((), S') → zw p l e R s m args below meth c (vx_MQ below (zm_Qc zk_E V (zo_v out)) (zm_XC zk_E V zo_x) args s mc ms (fun q => V.2.2.2.1 ≤ q)) 9 zk_E V mc ms 270 [] [] S' rc rs) (hrec : ∀ (i3' : Int32) (S : zm_S), k a0 i1 i2 i3' S = some res → zw p l e R s m args below meth c (vx_MQ below (zm_Qc zk_E V (zo_v out)) (zm_XC zk_E V zo_x) args s mc ms (fun q => V.2.2.2.1 ≤ q)) 9 zk_E V mc ms 24 [(0, .ref a0), (1, .int i1), (2, .int i2), (3, .int i3')] [] S rc rs) {S : zm_S} (h : zf_X18_step_J158 N k a0 i1 i2 i3 i4 i5 i6 S = some res) : zw p l e R s m args below meth c (vx_MQ below (zm_Qc zk_E V (zo_v out)) (zm_XC zk_E V zo_x) args s mc ms (fun q => V.2.2.2.1 ≤ q)) 9 zk_E V mc ms 158 [(0, .ref a0), (1, .int i1), (2, .int i2), (3, .int i3), (4, .int i4), (5, .int i5), (6, .int i6)] [] S rc rs := by
  unfold zf_X18_step_J158 at h
  refine zw_aload_n hX dX18_step_158 rfl ?_
  refine zw_aload_n hX dX18_step_159 rfl ?_
  obtain ⟨b21, g, h⟩ := zb_some h
  refine zw_getr hX zl_X18_109 dX18_step_160 g ?_
  refine zw_iload_n hX dX18_step_163 rfl ?_
  obtain ⟨v22, g, h⟩ := zb_some h
  refine zw_xi hX dX18_step_164 g ?_
  refine zw_aload_n hX dX18_step_165 rfl ?_
  obtain ⟨b23, g, h⟩ := zb_some h
  refine zw_getr hX zl_X18_112 dX18_step_166 g ?_
  refine zw_iload_n hX dX18_step_169 rfl ?_
  obtain ⟨v24, g, h⟩ := zb_some h
  refine zw_xi hX dX18_step_170 g ?_
  refine zw_iload_n hX dX18_step_171 rfl ?_
  obtain ⟨_, gi, h⟩ := zb_some h
  obtain ⟨r26, g, h⟩ := zb_some h
  refine zc_Vi (as := [.int v22, .int v24, .int i3]) hX gi (zt_X18_goesThrough (d := d - 1) (by omega) g) zl_X18_660 rfl dX18_step_172 ⟨rfl, rfl, Nat.le_of_ble_eq_true rfl⟩ ⟨by omega, by omega⟩ ?_
  refine zw_if_eq (tgt := 264) hX dX18_step_175 (by decide) (fun c175 => ?_) (fun c175 => ?_)
  · rw [if_pos c175] at h
    refine zw_iinc (v := (i3 + (1 : Int32))) hX dX18_step_264 rfl rfl (by decide) ?_
    refine zw_goto (tgt := 24) hX dX18_step_267 (by decide) ?_
    refine zw_sub (lv' := [(0, .ref a0), (1, .int i1), (2, .int i2), (3, .int (i3 + (1 : Int32)))]) (List.forall_mem_cons.mpr ⟨rfl, (List.forall_mem_cons.mpr ⟨rfl, (List.forall_mem_cons.mpr ⟨rfl, (List.forall_mem_cons.mpr ⟨rfl, zs_nil⟩)⟩)⟩)⟩) ?_
    exact hrec _ _ h
  · rw [if_neg c175] at h
    refine zw_aload_n hX dX18_step_178 rfl ?_
    obtain ⟨b27, g, h⟩ := zb_some h
    refine zw_getr hX zl_X18_106 dX18_step_179 g ?_
    refine zw_iload_n hX dX18_step_182 rfl ?_
    refine zw_iload hX dX18_step_183 rfl ?_
    refine zw_if_eq (tgt := 195) hX dX18_step_185 (by decide) (fun c185 => ?_) (fun c185 => ?_)
    · rw [if_pos c185] at h
      refine zw_aload_n hX dX18_step_195 rfl ?_
      obtain ⟨b28, g, h⟩ := zb_some h
      refine zw_getr hX zl_X18_175 dX18_step_196 g ?_
      refine zw_bipush (v := (24 : Int32)) hX dX18_step_199 (by decide) ?_
      refine zw_iload hX dX18_step_201 rfl ?_
      refine zw_imul hX dX18_step_203 ?_
      refine zw_iload hX dX18_step_204 rfl ?_
      refine zw_iadd hX dX18_step_206 ?_
      obtain ⟨v29, g, h⟩ := zb_some h
      refine zw_xi hX dX18_step_207 g ?_
      obtain ⟨S30, g, h⟩ := zb_some h
      refine zw_si hX dX18_step_208 g ?_
      refine zw_aload_n hX dX18_step_209 rfl ?_
      obtain ⟨b31, g, h⟩ := zb_some h
      refine zw_getr hX zl_X18_109 dX18_step_210 g ?_
      refine zw_iload_n hX dX18_step_213 rfl ?_
      refine zw_iload hX dX18_step_214 rfl ?_
      refine zw_if_eq (tgt := 223) hX dX18_step_216 (by decide) (fun c216 => ?_) (fun c216 => ?_)
      · rw [if_pos c216] at h
        refine zw_iload hX dX18_step_223 rfl ?_
        obtain ⟨S32, g, h⟩ := zb_some h
        refine zw_si hX dX18_step_225 g ?_
        refine zw_aload_n hX dX18_step_226 rfl ?_
        obtain ⟨b33, g, h⟩ := zb_some h
        refine zw_getr hX zl_X18_112 dX18_step_227 g ?_
        refine zw_iload_n hX dX18_step_230 rfl ?_
        refine zw_iload hX dX18_step_231 rfl ?_
        refine zw_if_eq (tgt := 240) hX dX18_step_233 (by decide) (fun c233 => ?_) (fun c233 => ?_)
        · rw [if_pos c233] at h
          refine zw_iload hX dX18_step_240 rfl ?_
          obtain ⟨S34, g, h⟩ := zb_some h
          refine zw_si hX dX18_step_242 g ?_
          refine zw_aload_n hX dX18_step_243 rfl ?_
          obtain ⟨b35, g, h⟩ := zb_some h
          refine zw_getr hX zl_X18_118 dX18_step_244 g ?_
          refine zw_iload_n hX dX18_step_247 rfl ?_
          refine zw_dup2 hX dX18_step_248 rfl rfl ?_
          obtain ⟨v36, g, h⟩ := zb_some h
          refine zw_xi hX dX18_step_249 g ?_
          refine zw_iconst (v := (1 : Int32)) hX dX18_step_250 (by decide) ?_
          refine zw_iadd hX dX18_step_251 ?_
          obtain ⟨S37, g, h⟩ := zb_some h
          refine zw_si hX dX18_step_252 g ?_
          refine zw_aload_n hX dX18_step_253 rfl ?_
          obtain ⟨b38, g, h⟩ := zb_some h
          refine zw_getr hX zl_X18_121 dX18_step_254 g ?_
          refine zw_iload_n hX dX18_step_257 rfl ?_
          refine zw_aload_n hX dX18_step_258 rfl ?_
          obtain ⟨v39, g, h⟩ := zb_some h
          refine zw_geti hX zl_X18_401 dX18_step_259 g ?_
          obtain ⟨S40, g, h⟩ := zb_some h
          refine zw_si hX dX18_step_262 g ?_
          have hz := hf _ (Option.some.inj h).symm
          subst hz
          exact zw_vret hX hr dX18_step_263 ⟨rfl, rfl⟩
        · rw [if_neg c233] at h
          refine zw_iconst (v := (-1 : Int32)) hX dX18_step_236 (by decide) ?_
          refine zw_goto (tgt := 242) hX dX18_step_237 (by decide) ?_
          obtain ⟨S41, g, h⟩ := zb_some h
          refine zw_si hX dX18_step_242 g ?_
          refine zw_aload_n hX dX18_step_243 rfl ?_
          obtain ⟨b42, g, h⟩ := zb_some h
          refine zw_getr hX zl_X18_118 dX18_step_244 g ?_
          refine zw_iload_n hX dX18_step_247 rfl ?_
          refine zw_dup2 hX dX18_step_248 rfl rfl ?_
          obtain ⟨v43, g, h⟩ := zb_some h
          refine zw_xi hX dX18_step_249 g ?_
          refine zw_iconst (v := (1 : Int32)) hX dX18_step_250 (by decide) ?_
          refine zw_iadd hX dX18_step_251 ?_
          obtain ⟨S44, g, h⟩ := zb_some h
          refine zw_si hX dX18_step_252 g ?_
          refine zw_aload_n hX dX18_step_253 rfl ?_
          obtain ⟨b45, g, h⟩ := zb_some h
          refine zw_getr hX zl_X18_121 dX18_step_254 g ?_
          refine zw_iload_n hX dX18_step_257 rfl ?_
          refine zw_aload_n hX dX18_step_258 rfl ?_
          obtain ⟨v46, g, h⟩ := zb_some h
          refine zw_geti hX zl_X18_401 dX18_step_259 g ?_
          obtain ⟨S47, g, h⟩ := zb_some h
          refine zw_si hX dX18_step_262 g ?_
          have hz := hf _ (Option.some.inj h).symm
          subst hz
          exact zw_vret hX hr dX18_step_263 ⟨rfl, rfl⟩
      · rw [if_neg c216] at h
        refine zw_iconst (v := (-1 : Int32)) hX dX18_step_219 (by decide) ?_
        refine zw_goto (tgt := 225) hX dX18_step_220 (by decide) ?_
        obtain ⟨S48, g, h⟩ := zb_some h
        refine zw_si hX dX18_step_225 g ?_
        refine zw_aload_n hX dX18_step_226 rfl ?_
        obtain ⟨b49, g, h⟩ := zb_some h
        refine zw_getr hX zl_X18_112 dX18_step_227 g ?_
        refine zw_iload_n hX dX18_step_230 rfl ?_
        refine zw_iload hX dX18_step_231 rfl ?_
        refine zw_if_eq (tgt := 240) hX dX18_step_233 (by decide) (fun c233 => ?_) (fun c233 => ?_)
        · rw [if_pos c233] at h
          refine zw_iload hX dX18_step_240 rfl ?_
          obtain ⟨S50, g, h⟩ := zb_some h
          refine zw_si hX dX18_step_242 g ?_
          refine zw_aload_n hX dX18_step_243 rfl ?_
          obtain ⟨b51, g, h⟩ := zb_some h
          refine zw_getr hX zl_X18_118 dX18_step_244 g ?_
          refine zw_iload_n hX dX18_step_247 rfl ?_
          refine zw_dup2 hX dX18_step_248 rfl rfl ?_
          obtain ⟨v52, g, h⟩ := zb_some h
          refine zw_xi hX dX18_step_249 g ?_
          refine zw_iconst (v := (1 : Int32)) hX dX18_step_250 (by decide) ?_
          refine zw_iadd hX dX18_step_251 ?_
          obtain ⟨S53, g, h⟩ := zb_some h
          refine zw_si hX dX18_step_252 g ?_
          refine zw_aload_n hX dX18_step_253 rfl ?_
          obtain ⟨b54, g, h⟩ := zb_some h
          refine zw_getr hX zl_X18_121 dX18_step_254 g ?_
          refine zw_iload_n hX dX18_step_257 rfl ?_
          refine zw_aload_n hX dX18_step_258 rfl ?_
          obtain ⟨v55, g, h⟩ := zb_some h
          refine zw_geti hX zl_X18_401 dX18_step_259 g ?_
          obtain ⟨S56, g, h⟩ := zb_some h
          refine zw_si hX dX18_step_262 g ?_
          have hz := hf _ (Option.some.inj h).symm
          subst hz
          exact zw_vret hX hr dX18_step_263 ⟨rfl, rfl⟩
        · rw [if_neg c233] at h
          refine zw_iconst (v := (-1 : Int32)) hX dX18_step_236 (by decide) ?_
          refine zw_goto (tgt := 242) hX dX18_step_237 (by decide) ?_
          obtain ⟨S57, g, h⟩ := zb_some h
          refine zw_si hX dX18_step_242 g ?_
          refine zw_aload_n hX dX18_step_243 rfl ?_
          obtain ⟨b58, g, h⟩ := zb_some h
          refine zw_getr hX zl_X18_118 dX18_step_244 g ?_
          refine zw_iload_n hX dX18_step_247 rfl ?_
          refine zw_dup2 hX dX18_step_248 rfl rfl ?_
          obtain ⟨v59, g, h⟩ := zb_some h
          refine zw_xi hX dX18_step_249 g ?_
          refine zw_iconst (v := (1 : Int32)) hX dX18_step_250 (by decide) ?_
          refine zw_iadd hX dX18_step_251 ?_
          obtain ⟨S60, g, h⟩ := zb_some h
          refine zw_si hX dX18_step_252 g ?_
          refine zw_aload_n hX dX18_step_253 rfl ?_
          obtain ⟨b61, g, h⟩ := zb_some h
          refine zw_getr hX zl_X18_121 dX18_step_254 g ?_
          refine zw_iload_n hX dX18_step_257 rfl ?_
          refine zw_aload_n hX dX18_step_258 rfl ?_
          obtain ⟨v62, g, h⟩ := zb_some h
          refine zw_geti hX zl_X18_401 dX18_step_259 g ?_
          obtain ⟨S63, g, h⟩ := zb_some h
          refine zw_si hX dX18_step_262 g ?_
          have hz := hf _ (Option.some.inj h).symm
          subst hz
          exact zw_vret hX hr dX18_step_263 ⟨rfl, rfl⟩
    · rw [if_neg c185] at h
      refine zw_aload_n hX dX18_step_188 rfl ?_
      obtain ⟨v64, g, h⟩ := zb_some h
      refine zw_geti hX zl_X18_338 dX18_step_189 g ?_
      refine zw_goto (tgt := 208) hX dX18_step_192 (by decide) ?_
      obtain ⟨S65, g, h⟩ := zb_some h
      refine zw_si hX dX18_step_208 g ?_
      refine zw_aload_n hX dX18_step_209 rfl ?_
      obtain ⟨b66, g, h⟩ := zb_some h
      refine zw_getr hX zl_X18_109 dX18_step_210 g ?_
      refine zw_iload_n hX dX18_step_213 rfl ?_
      refine zw_iload hX dX18_step_214 rfl ?_
      refine zw_if_eq (tgt := 223) hX dX18_step_216 (by decide) (fun c216 => ?_) (fun c216 => ?_)
      · rw [if_pos c216] at h
        refine zw_iload hX dX18_step_223 rfl ?_
        obtain ⟨S67, g, h⟩ := zb_some h
        refine zw_si hX dX18_step_225 g ?_
        refine zw_aload_n hX dX18_step_226 rfl ?_
        obtain ⟨b68, g, h⟩ := zb_some h
        refine zw_getr hX zl_X18_112 dX18_step_227 g ?_
        refine zw_iload_n hX dX18_step_230 rfl ?_
        refine zw_iload hX dX18_step_231 rfl ?_
        refine zw_if_eq (tgt := 240) hX dX18_step_233 (by decide) (fun c233 => ?_) (fun c233 => ?_)
        · rw [if_pos c233] at h
          refine zw_iload hX dX18_step_240 rfl ?_
          obtain ⟨S69, g, h⟩ := zb_some h
          refine zw_si hX dX18_step_242 g ?_
          refine zw_aload_n hX dX18_step_243 rfl ?_
          obtain ⟨b70, g, h⟩ := zb_some h
          refine zw_getr hX zl_X18_118 dX18_step_244 g ?_
          refine zw_iload_n hX dX18_step_247 rfl ?_
          refine zw_dup2 hX dX18_step_248 rfl rfl ?_
          obtain ⟨v71, g, h⟩ := zb_some h
          refine zw_xi hX dX18_step_249 g ?_
          refine zw_iconst (v := (1 : Int32)) hX dX18_step_250 (by decide) ?_
          refine zw_iadd hX dX18_step_251 ?_
          obtain ⟨S72, g, h⟩ := zb_some h
          refine zw_si hX dX18_step_252 g ?_
          refine zw_aload_n hX dX18_step_253 rfl ?_
          obtain ⟨b73, g, h⟩ := zb_some h
          refine zw_getr hX zl_X18_121 dX18_step_254 g ?_
          refine zw_iload_n hX dX18_step_257 rfl ?_
          refine zw_aload_n hX dX18_step_258 rfl ?_
          obtain ⟨v74, g, h⟩ := zb_some h
          refine zw_geti hX zl_X18_401 dX18_step_259 g ?_
          obtain ⟨S75, g, h⟩ := zb_some h
          refine zw_si hX dX18_step_262 g ?_
          have hz := hf _ (Option.some.inj h).symm
          subst hz
          exact zw_vret hX hr dX18_step_263 ⟨rfl, rfl⟩
        · rw [if_neg c233] at h
          refine zw_iconst (v := (-1 : Int32)) hX dX18_step_236 (by decide) ?_
          refine zw_goto (tgt := 242) hX dX18_step_237 (by decide) ?_
          obtain ⟨S76, g, h⟩ := zb_some h
          refine zw_si hX dX18_step_242 g ?_
          refine zw_aload_n hX dX18_step_243 rfl ?_
          obtain ⟨b77, g, h⟩ := zb_some h
          refine zw_getr hX zl_X18_118 dX18_step_244 g ?_
          refine zw_iload_n hX dX18_step_247 rfl ?_
          refine zw_dup2 hX dX18_step_248 rfl rfl ?_
          obtain ⟨v78, g, h⟩ := zb_some h
          refine zw_xi hX dX18_step_249 g ?_
          refine zw_iconst (v := (1 : Int32)) hX dX18_step_250 (by decide) ?_
          refine zw_iadd hX dX18_step_251 ?_
          obtain ⟨S79, g, h⟩ := zb_some h
          refine zw_si hX dX18_step_252 g ?_
          refine zw_aload_n hX dX18_step_253 rfl ?_
          obtain ⟨b80, g, h⟩ := zb_some h
          refine zw_getr hX zl_X18_121 dX18_step_254 g ?_
          refine zw_iload_n hX dX18_step_257 rfl ?_
          refine zw_aload_n hX dX18_step_258 rfl ?_
          obtain ⟨v81, g, h⟩ := zb_some h
          refine zw_geti hX zl_X18_401 dX18_step_259 g ?_
          obtain ⟨S82, g, h⟩ := zb_some h
          refine zw_si hX dX18_step_262 g ?_
          have hz := hf _ (Option.some.inj h).symm
          subst hz
          exact zw_vret hX hr dX18_step_263 ⟨rfl, rfl⟩
      · rw [if_neg c216] at h
        refine zw_iconst (v := (-1 : Int32)) hX dX18_step_219 (by decide) ?_
        refine zw_goto (tgt := 225) hX dX18_step_220 (by decide) ?_
        obtain ⟨S83, g, h⟩ := zb_some h
        refine zw_si hX dX18_step_225 g ?_
        refine zw_aload_n hX dX18_step_226 rfl ?_
        obtain ⟨b84, g, h⟩ := zb_some h
        refine zw_getr hX zl_X18_112 dX18_step_227 g ?_
        refine zw_iload_n hX dX18_step_230 rfl ?_
        refine zw_iload hX dX18_step_231 rfl ?_
        refine zw_if_eq (tgt := 240) hX dX18_step_233 (by decide) (fun c233 => ?_) (fun c233 => ?_)
        · rw [if_pos c233] at h
          refine zw_iload hX dX18_step_240 rfl ?_
          obtain ⟨S85, g, h⟩ := zb_some h
          refine zw_si hX dX18_step_242 g ?_
          refine zw_aload_n hX dX18_step_243 rfl ?_
          obtain ⟨b86, g, h⟩ := zb_some h
          refine zw_getr hX zl_X18_118 dX18_step_244 g ?_
          refine zw_iload_n hX dX18_step_247 rfl ?_
          refine zw_dup2 hX dX18_step_248 rfl rfl ?_
          obtain ⟨v87, g, h⟩ := zb_some h
          refine zw_xi hX dX18_step_249 g ?_
          refine zw_iconst (v := (1 : Int32)) hX dX18_step_250 (by decide) ?_
          refine zw_iadd hX dX18_step_251 ?_
          obtain ⟨S88, g, h⟩ := zb_some h
          refine zw_si hX dX18_step_252 g ?_
          refine zw_aload_n hX dX18_step_253 rfl ?_
          obtain ⟨b89, g, h⟩ := zb_some h
          refine zw_getr hX zl_X18_121 dX18_step_254 g ?_
          refine zw_iload_n hX dX18_step_257 rfl ?_
          refine zw_aload_n hX dX18_step_258 rfl ?_
          obtain ⟨v90, g, h⟩ := zb_some h
          refine zw_geti hX zl_X18_401 dX18_step_259 g ?_
          obtain ⟨S91, g, h⟩ := zb_some h
          refine zw_si hX dX18_step_262 g ?_
          have hz := hf _ (Option.some.inj h).symm
          subst hz
          exact zw_vret hX hr dX18_step_263 ⟨rfl, rfl⟩
        · rw [if_neg c233] at h
          refine zw_iconst (v := (-1 : Int32)) hX dX18_step_236 (by decide) ?_
          refine zw_goto (tgt := 242) hX dX18_step_237 (by decide) ?_
          obtain ⟨S92, g, h⟩ := zb_some h
          refine zw_si hX dX18_step_242 g ?_
          refine zw_aload_n hX dX18_step_243 rfl ?_
          obtain ⟨b93, g, h⟩ := zb_some h
          refine zw_getr hX zl_X18_118 dX18_step_244 g ?_
          refine zw_iload_n hX dX18_step_247 rfl ?_
          refine zw_dup2 hX dX18_step_248 rfl rfl ?_
          obtain ⟨v94, g, h⟩ := zb_some h
          refine zw_xi hX dX18_step_249 g ?_
          refine zw_iconst (v := (1 : Int32)) hX dX18_step_250 (by decide) ?_
          refine zw_iadd hX dX18_step_251 ?_
          obtain ⟨S95, g, h⟩ := zb_some h
          refine zw_si hX dX18_step_252 g ?_
          refine zw_aload_n hX dX18_step_253 rfl ?_
          obtain ⟨b96, g, h⟩ := zb_some h
          refine zw_getr hX zl_X18_121 dX18_step_254 g ?_
          refine zw_iload_n hX dX18_step_257 rfl ?_
          refine zw_aload_n hX dX18_step_258 rfl ?_
          obtain ⟨v97, g, h⟩ := zb_some h
          refine zw_geti hX zl_X18_401 dX18_step_259 g ?_
          obtain ⟨S98, g, h⟩ := zb_some h
          refine zw_si hX dX18_step_262 g ?_
          have hz := hf _ (Option.some.inj h).symm
          subst hz
          exact zw_vret hX hr dX18_step_263 ⟨rfl, rfl⟩
set_option maxHeartbeats 4000000 in
set_option maxRecDepth 100000 in
theorem zt_X18_step_J125 {p : Program} {l : Launch} {e : Env} {R : Room} {s : State} {m : MethodId} {args : Array Value} {below : List Frame} {meth : Method} {c : Code} {V : zm_V} {mc ms d rc rs : Nat} (hX : zm_X p R s m args meth c RX18 "step" cX18_step 9 zk_E V mc ms) (hr : meth.sig.returnType = none) (hR : R.frames = d ∧ R.locals = 64 * d) (hd : 4 ≤ d) {N : Nat} {k : Nat → Int32 → Int32 → Int32 → zm_S → Option ((Unit × zm_S) ⊕ ((Unit) × zm_S))} {a0 : Nat} {i1 : Int32} {i2 : Int32} {i3 : Int32} {i4 : Int32} {i5 : Int32} {i6 : Int32} {t0 : Int32} {res : (Unit × zm_S) ⊕ ((Unit) × zm_S)} {out : (Unit × zm_S)}   (hf : ∀ o, res = .inl o → o = out) (hk : ∀ (S' : zm_S), res = .inr ((), S') → zw p l e R s m args below meth c (vx_MQ below (zm_Qc zk_E V (zo_v out)) (zm_XC zk_E V zo_x) args s mc ms (fun q => V.2.2.2.1 ≤ q)) 9 zk_E V mc ms 270 [] [] S' rc rs) (hrec : ∀ (i3' : Int32) (S : zm_S), k a0 i1 i2 i3' S = some res → zw p l e R s m args below meth c (vx_MQ below (zm_Qc zk_E V (zo_v out)) (zm_XC zk_E V zo_x) args s mc ms (fun q => V.2.2.2.1 ≤ q)) 9 zk_E V mc ms 24 [(0, .ref a0), (1, .int i1), (2, .int i2), (3, .int i3')] [] S rc rs) {S : zm_S} (h : zf_X18_step_J125 N k a0 i1 i2 i3 i4 i5 i6 t0 S = some res) : zw p l e R s m args below meth c (vx_MQ below (zm_Qc zk_E V (zo_v out)) (zm_XC zk_E V zo_x) args s mc ms (fun q => V.2.2.2.1 ≤ q)) 9 zk_E V mc ms 125 [(0, .ref a0), (1, .int i1), (2, .int i2), (3, .int i3), (4, .int i4), (5, .int i5), (6, .int i6)] [.int t0] S rc rs := by
  unfold zf_X18_step_J125 at h
  refine zw_istore hX dX18_step_125 (by decide) ?_
  refine zw_iload hX dX18_step_127 rfl ?_
  refine zw_if_eq (tgt := 264) hX dX18_step_129 (by decide) (fun c129 => ?_) (fun c129 => ?_)
  · rw [if_pos c129] at h
    refine zw_iinc (v := (i3 + (1 : Int32))) hX dX18_step_264 rfl rfl (by decide) ?_
    refine zw_goto (tgt := 24) hX dX18_step_267 (by decide) ?_
    refine zw_sub (lv' := [(0, .ref a0), (1, .int i1), (2, .int i2), (3, .int (i3 + (1 : Int32)))]) (List.forall_mem_cons.mpr ⟨rfl, (List.forall_mem_cons.mpr ⟨rfl, (List.forall_mem_cons.mpr ⟨rfl, (List.forall_mem_cons.mpr ⟨rfl, zs_nil⟩)⟩)⟩)⟩) ?_
    exact hrec _ _ h
  · rw [if_neg c129] at h
    refine zw_iload hX dX18_step_132 rfl ?_
    refine zw_iload hX dX18_step_134 rfl ?_
    obtain ⟨r20, g, h⟩ := zb_some h
    refine zc_Si (as := [.int i4, .int i5]) hX (zt_X18_isCell (d := d - 1) (by omega) g) zl_X18_266 dX18_step_136 ⟨rfl, rfl, Nat.le_of_ble_eq_true rfl⟩ ⟨by omega, by omega⟩ ?_
    refine zw_if_eq (tgt := 158) hX dX18_step_139 (by decide) (fun c139 => ?_) (fun c139 => ?_)
    · rw [if_pos c139] at h
      refine zw_sub (lv' := [(0, .ref a0), (1, .int i1), (2, .int i2), (3, .int i3), (4, .int i4), (5, .int i5), (6, .int i6)]) (List.forall_mem_cons.mpr ⟨rfl, (List.forall_mem_cons.mpr ⟨rfl, (List.forall_mem_cons.mpr ⟨rfl, (List.forall_mem_cons.mpr ⟨rfl, (List.forall_mem_cons.mpr ⟨rfl, (List.forall_mem_cons.mpr ⟨rfl, (List.forall_mem_cons.mpr ⟨rfl, zs_nil⟩)⟩)⟩)⟩)⟩)⟩)⟩) ?_
      exact zt_X18_step_J158 hX hr hR hd hf hk hrec h
    · rw [if_neg c139] at h
      refine zw_aload_n hX dX18_step_142 rfl ?_
      obtain ⟨b99, g, h⟩ := zb_some h
      refine zw_getr hX zl_X18_166 dX18_step_143 g ?_
      refine zw_bipush (v := (24 : Int32)) hX dX18_step_146 (by decide) ?_
      refine zw_iload hX dX18_step_148 rfl ?_
      refine zw_imul hX dX18_step_150 ?_
      refine zw_iload hX dX18_step_151 rfl ?_
      refine zw_iadd hX dX18_step_153 ?_
      obtain ⟨v100, g, h⟩ := zb_some h
      refine zw_xz hX dX18_step_154 g ?_
      refine zw_if_ne (tgt := 264) hX dX18_step_155 (by decide) (fun c155 => ?_) (fun c155 => ?_)
      · rw [if_neg c155] at h
        refine zw_iinc (v := (i3 + (1 : Int32))) hX dX18_step_264 rfl rfl (by decide) ?_
        refine zw_goto (tgt := 24) hX dX18_step_267 (by decide) ?_
        refine zw_sub (lv' := [(0, .ref a0), (1, .int i1), (2, .int i2), (3, .int (i3 + (1 : Int32)))]) (List.forall_mem_cons.mpr ⟨rfl, (List.forall_mem_cons.mpr ⟨rfl, (List.forall_mem_cons.mpr ⟨rfl, (List.forall_mem_cons.mpr ⟨rfl, zs_nil⟩)⟩)⟩)⟩) ?_
        exact hrec _ _ h
      · rw [if_pos c155] at h
        refine zw_sub (lv' := [(0, .ref a0), (1, .int i1), (2, .int i2), (3, .int i3), (4, .int i4), (5, .int i5), (6, .int i6)]) (List.forall_mem_cons.mpr ⟨rfl, (List.forall_mem_cons.mpr ⟨rfl, (List.forall_mem_cons.mpr ⟨rfl, (List.forall_mem_cons.mpr ⟨rfl, (List.forall_mem_cons.mpr ⟨rfl, (List.forall_mem_cons.mpr ⟨rfl, (List.forall_mem_cons.mpr ⟨rfl, zs_nil⟩)⟩)⟩)⟩)⟩)⟩)⟩) ?_
        exact zt_X18_step_J158 hX hr hR hd hf hk hrec h
set_option maxHeartbeats 4000000 in
set_option maxRecDepth 100000 in
theorem zt_X18_step_J124 {p : Program} {l : Launch} {e : Env} {R : Room} {s : State} {m : MethodId} {args : Array Value} {below : List Frame} {meth : Method} {c : Code} {V : zm_V} {mc ms d rc rs : Nat} (hX : zm_X p R s m args meth c RX18 "step" cX18_step 9 zk_E V mc ms) (hr : meth.sig.returnType = none) (hR : R.frames = d ∧ R.locals = 64 * d) (hd : 4 ≤ d) {N : Nat} {k : Nat → Int32 → Int32 → Int32 → zm_S → Option ((Unit × zm_S) ⊕ ((Unit) × zm_S))} {a0 : Nat} {i1 : Int32} {i2 : Int32} {i3 : Int32} {i4 : Int32} {i5 : Int32} {i6 : Int32} {res : (Unit × zm_S) ⊕ ((Unit) × zm_S)} {out : (Unit × zm_S)}   (hf : ∀ o, res = .inl o → o = out) (hk : ∀ (S' : zm_S), res = .inr ((), S') → zw p l e R s m args below meth c (vx_MQ below (zm_Qc zk_E V (zo_v out)) (zm_XC zk_E V zo_x) args s mc ms (fun q => V.2.2.2.1 ≤ q)) 9 zk_E V mc ms 270 [] [] S' rc rs) (hrec : ∀ (i3' : Int32) (S : zm_S), k a0 i1 i2 i3' S = some res → zw p l e R s m args below meth c (vx_MQ below (zm_Qc zk_E V (zo_v out)) (zm_XC zk_E V zo_x) args s mc ms (fun q => V.2.2.2.1 ≤ q)) 9 zk_E V mc ms 24 [(0, .ref a0), (1, .int i1), (2, .int i2), (3, .int i3')] [] S rc rs) {S : zm_S} (h : zf_X18_step_J124 N k a0 i1 i2 i3 i4 i5 i6 S = some res) : zw p l e R s m args below meth c (vx_MQ below (zm_Qc zk_E V (zo_v out)) (zm_XC zk_E V zo_x) args s mc ms (fun q => V.2.2.2.1 ≤ q)) 9 zk_E V mc ms 124 [(0, .ref a0), (1, .int i1), (2, .int i2), (3, .int i3), (4, .int i4), (5, .int i5), (6, .int i6)] [] S rc rs := by
  unfold zf_X18_step_J124 at h
  refine zw_iconst (v := (0 : Int32)) hX dX18_step_124 (by decide) ?_
  refine zw_sub (lv' := [(0, .ref a0), (1, .int i1), (2, .int i2), (3, .int i3), (4, .int i4), (5, .int i5), (6, .int i6)]) (List.forall_mem_cons.mpr ⟨rfl, (List.forall_mem_cons.mpr ⟨rfl, (List.forall_mem_cons.mpr ⟨rfl, (List.forall_mem_cons.mpr ⟨rfl, (List.forall_mem_cons.mpr ⟨rfl, (List.forall_mem_cons.mpr ⟨rfl, (List.forall_mem_cons.mpr ⟨rfl, zs_nil⟩)⟩)⟩)⟩)⟩)⟩)⟩) ?_
  exact zt_X18_step_J125 hX hr hR hd hf hk hrec h
set_option maxHeartbeats 4000000 in
set_option maxRecDepth 100000 in
theorem zt_X18_step_J89 {p : Program} {l : Launch} {e : Env} {R : Room} {s : State} {m : MethodId} {args : Array Value} {below : List Frame} {meth : Method} {c : Code} {V : zm_V} {mc ms d rc rs : Nat} (hX : zm_X p R s m args meth c RX18 "step" cX18_step 9 zk_E V mc ms) (hr : meth.sig.returnType = none) (hR : R.frames = d ∧ R.locals = 64 * d) (hd : 4 ≤ d) {N : Nat} {k : Nat → Int32 → Int32 → Int32 → zm_S → Option ((Unit × zm_S) ⊕ ((Unit) × zm_S))} {a0 : Nat} {i1 : Int32} {i2 : Int32} {i3 : Int32} {i4 : Int32} {i5 : Int32} {i6 : Int32} {t0 : Int32} {res : (Unit × zm_S) ⊕ ((Unit) × zm_S)} {out : (Unit × zm_S)}   (hf : ∀ o, res = .inl o → o = out) (hk : ∀ (S' : zm_S), res = .inr ((), S') → zw p l e R s m args below meth c (vx_MQ below (zm_Qc zk_E V (zo_v out)) (zm_XC zk_E V zo_x) args s mc ms (fun q => V.2.2.2.1 ≤ q)) 9 zk_E V mc ms 270 [] [] S' rc rs) (hrec : ∀ (i3' : Int32) (S : zm_S), k a0 i1 i2 i3' S = some res → zw p l e R s m args below meth c (vx_MQ below (zm_Qc zk_E V (zo_v out)) (zm_XC zk_E V zo_x) args s mc ms (fun q => V.2.2.2.1 ≤ q)) 9 zk_E V mc ms 24 [(0, .ref a0), (1, .int i1), (2, .int i2), (3, .int i3')] [] S rc rs) {S : zm_S} (h : zf_X18_step_J89 N k a0 i1 i2 i3 i4 i5 i6 t0 S = some res) : zw p l e R s m args below meth c (vx_MQ below (zm_Qc zk_E V (zo_v out)) (zm_XC zk_E V zo_x) args s mc ms (fun q => V.2.2.2.1 ≤ q)) 9 zk_E V mc ms 89 [(0, .ref a0), (1, .int i1), (2, .int i2), (3, .int i3), (4, .int i4), (5, .int i5), (6, .int i6)] [.int t0] S rc rs := by
  unfold zf_X18_step_J89 at h
  refine zw_istore hX dX18_step_89 (by decide) ?_
  refine zw_iload hX dX18_step_91 rfl ?_
  refine zw_if_eq (tgt := 109) hX dX18_step_93 (by decide) (fun c93 => ?_) (fun c93 => ?_)
  · rw [if_pos c93] at h
    refine zw_iload hX dX18_step_109 rfl ?_
    refine zw_if_le (tgt := 124) hX dX18_step_111 (by decide) (fun c111 => ?_) (fun c111 => ?_)
    · rw [if_pos c111] at h
      refine zw_sub (lv' := [(0, .ref a0), (1, .int i1), (2, .int i2), (3, .int i3), (4, .int i4), (5, .int i5), (6, .int i6)]) (List.forall_mem_cons.mpr ⟨rfl, (List.forall_mem_cons.mpr ⟨rfl, (List.forall_mem_cons.mpr ⟨rfl, (List.forall_mem_cons.mpr ⟨rfl, (List.forall_mem_cons.mpr ⟨rfl, (List.forall_mem_cons.mpr ⟨rfl, (List.forall_mem_cons.mpr ⟨rfl, zs_nil⟩)⟩)⟩)⟩)⟩)⟩)⟩) ?_
      exact zt_X18_step_J124 hX hr hR hd hf hk hrec h
    · rw [if_neg c111] at h
      refine zw_iload hX dX18_step_114 rfl ?_
      refine zw_iload_n hX dX18_step_116 rfl ?_
      refine zw_icmp_ge (tgt := 124) hX dX18_step_117 (by decide) (fun c117 => ?_) (fun c117 => ?_)
      · rw [if_pos c117] at h
        refine zw_sub (lv' := [(0, .ref a0), (1, .int i1), (2, .int i2), (3, .int i3), (4, .int i4), (5, .int i5), (6, .int i6)]) (List.forall_mem_cons.mpr ⟨rfl, (List.forall_mem_cons.mpr ⟨rfl, (List.forall_mem_cons.mpr ⟨rfl, (List.forall_mem_cons.mpr ⟨rfl, (List.forall_mem_cons.mpr ⟨rfl, (List.forall_mem_cons.mpr ⟨rfl, (List.forall_mem_cons.mpr ⟨rfl, zs_nil⟩)⟩)⟩)⟩)⟩)⟩)⟩) ?_
        exact zt_X18_step_J124 hX hr hR hd hf hk hrec h
      · rw [if_neg c117] at h
        refine zw_iconst (v := (1 : Int32)) hX dX18_step_120 (by decide) ?_
        refine zw_goto (tgt := 125) hX dX18_step_121 (by decide) ?_
        refine zw_sub (lv' := [(0, .ref a0), (1, .int i1), (2, .int i2), (3, .int i3), (4, .int i4), (5, .int i5), (6, .int i6)]) (List.forall_mem_cons.mpr ⟨rfl, (List.forall_mem_cons.mpr ⟨rfl, (List.forall_mem_cons.mpr ⟨rfl, (List.forall_mem_cons.mpr ⟨rfl, (List.forall_mem_cons.mpr ⟨rfl, (List.forall_mem_cons.mpr ⟨rfl, (List.forall_mem_cons.mpr ⟨rfl, zs_nil⟩)⟩)⟩)⟩)⟩)⟩)⟩) ?_
        exact zt_X18_step_J125 hX hr hR hd hf hk hrec h
  · rw [if_neg c93] at h
    refine zw_iload_n hX dX18_step_96 rfl ?_
    refine zw_iconst (v := (1 : Int32)) hX dX18_step_97 (by decide) ?_
    refine zw_icmp_ne (tgt := 105) hX dX18_step_98 (by decide) (fun c98 => ?_) (fun c98 => ?_)
    · rw [if_neg c98] at h
      refine zw_iconst (v := (0 : Int32)) hX dX18_step_105 (by decide) ?_
      refine zw_goto (tgt := 125) hX dX18_step_106 (by decide) ?_
      refine zw_sub (lv' := [(0, .ref a0), (1, .int i1), (2, .int i2), (3, .int i3), (4, .int i4), (5, .int i5), (6, .int i6)]) (List.forall_mem_cons.mpr ⟨rfl, (List.forall_mem_cons.mpr ⟨rfl, (List.forall_mem_cons.mpr ⟨rfl, (List.forall_mem_cons.mpr ⟨rfl, (List.forall_mem_cons.mpr ⟨rfl, (List.forall_mem_cons.mpr ⟨rfl, (List.forall_mem_cons.mpr ⟨rfl, zs_nil⟩)⟩)⟩)⟩)⟩)⟩)⟩) ?_
      exact zt_X18_step_J125 hX hr hR hd hf hk hrec h
    · rw [if_pos c98] at h
      refine zw_iconst (v := (1 : Int32)) hX dX18_step_101 (by decide) ?_
      refine zw_goto (tgt := 125) hX dX18_step_102 (by decide) ?_
      refine zw_sub (lv' := [(0, .ref a0), (1, .int i1), (2, .int i2), (3, .int i3), (4, .int i4), (5, .int i5), (6, .int i6)]) (List.forall_mem_cons.mpr ⟨rfl, (List.forall_mem_cons.mpr ⟨rfl, (List.forall_mem_cons.mpr ⟨rfl, (List.forall_mem_cons.mpr ⟨rfl, (List.forall_mem_cons.mpr ⟨rfl, (List.forall_mem_cons.mpr ⟨rfl, (List.forall_mem_cons.mpr ⟨rfl, zs_nil⟩)⟩)⟩)⟩)⟩)⟩)⟩) ?_
      exact zt_X18_step_J125 hX hr hR hd hf hk hrec h
set_option maxHeartbeats 4000000 in
set_option maxRecDepth 100000 in
theorem zt_X18_step_L24 {p : Program} {l : Launch} {e : Env} {R : Room} {s : State} {m : MethodId} {args : Array Value} {below : List Frame} {meth : Method} {c : Code} {V : zm_V} {mc ms d rc rs : Nat} (hX : zm_X p R s m args meth c RX18 "step" cX18_step 9 zk_E V mc ms) (hr : meth.sig.returnType = none) (hR : R.frames = d ∧ R.locals = 64 * d) (hd : 4 ≤ d) {N : Nat} {res : (Unit × zm_S) ⊕ ((Unit) × zm_S)} {out : (Unit × zm_S)} (a0 : Nat) (i1 : Int32) (i2 : Int32) (hf : ∀ o, res = .inl o → o = out) (hk : ∀ (S' : zm_S), res = .inr ((), S') → zw p l e R s m args below meth c (vx_MQ below (zm_Qc zk_E V (zo_v out)) (zm_XC zk_E V zo_x) args s mc ms (fun q => V.2.2.2.1 ≤ q)) 9 zk_E V mc ms 270 [] [] S' rc rs) : ∀ (n : Nat) (i3 : Int32) (S : zm_S), zf_X18_step_L24 N n a0 i1 i2 i3 S = some res → zw p l e R s m args below meth c (vx_MQ below (zm_Qc zk_E V (zo_v out)) (zm_XC zk_E V zo_x) args s mc ms (fun q => V.2.2.2.1 ≤ q)) 9 zk_E V mc ms 24 [(0, .ref a0), (1, .int i1), (2, .int i2), (3, .int i3)] [] S rc rs := by
  intro n
  induction n with
  | zero => intro i3 S h; cases h
  | succ n ih =>
    intro i3 S h
    rw [zf_X18_step_L24] at h
    refine zw_iload_n hX dX18_step_24 rfl ?_
    refine zw_iconst (v := (4 : Int32)) hX dX18_step_25 (by decide) ?_
    refine zw_icmp_ge (tgt := 270) hX dX18_step_26 (by decide) (fun c26 => ?_) (fun c26 => ?_)
    · rw [if_pos c26] at h
      refine zw_sub (lv' := []) zs_nil ?_
      exact hk  _ (Option.some.inj h).symm
    · rw [if_neg c26] at h
      refine zw_iload_n hX dX18_step_29 rfl ?_
      refine zw_if_le (tgt := 270) hX dX18_step_30 (by decide) (fun c30 => ?_) (fun c30 => ?_)
      · rw [if_pos c30] at h
        refine zw_sub (lv' := []) zs_nil ?_
        exact hk  _ (Option.some.inj h).symm
      · rw [if_neg c30] at h
        refine zw_aload_n hX dX18_step_33 rfl ?_
        obtain ⟨b7, g, h⟩ := zb_some h
        refine zw_getr hX zl_X18_109 dX18_step_34 g ?_
        refine zw_iload_n hX dX18_step_37 rfl ?_
        obtain ⟨v8, g, h⟩ := zb_some h
        refine zw_xi hX dX18_step_38 g ?_
        refine zw_iload_n hX dX18_step_39 rfl ?_
        obtain ⟨r10, g, h⟩ := zb_some h
        refine zc_Si (as := [.int v8, .int i3]) hX (zt_X18_nextX (d := d - 1) (by omega) g) zl_X18_648 dX18_step_40 ⟨rfl, rfl, Nat.le_of_ble_eq_true rfl⟩ ⟨by omega, by omega⟩ ?_
        refine zw_istore hX dX18_step_43 (by decide) ?_
        refine zw_aload_n hX dX18_step_45 rfl ?_
        obtain ⟨b11, g, h⟩ := zb_some h
        refine zw_getr hX zl_X18_112 dX18_step_46 g ?_
        refine zw_iload_n hX dX18_step_49 rfl ?_
        obtain ⟨v12, g, h⟩ := zb_some h
        refine zw_xi hX dX18_step_50 g ?_
        refine zw_iload_n hX dX18_step_51 rfl ?_
        obtain ⟨r14, g, h⟩ := zb_some h
        refine zc_Si (as := [.int v12, .int i3]) hX (zt_X18_nextY (d := d - 1) (by omega) g) zl_X18_651 dX18_step_52 ⟨rfl, rfl, Nat.le_of_ble_eq_true rfl⟩ ⟨by omega, by omega⟩ ?_
        refine zw_istore hX dX18_step_55 (by decide) ?_
        refine zw_aload_n hX dX18_step_57 rfl ?_
        refine zw_iload hX dX18_step_58 rfl ?_
        refine zw_iload hX dX18_step_60 rfl ?_
        obtain ⟨_, gi, h⟩ := zb_some h
        obtain ⟨r16, g, h⟩ := zb_some h
        refine zc_Vi (as := [.int r10.1, .int r14.1]) hX gi (zt_X18_isOutside (d := d - 1) (by omega) g) zl_X18_645 rfl dX18_step_62 ⟨rfl, rfl, Nat.le_of_ble_eq_true rfl⟩ ⟨by omega, by omega⟩ ?_
        refine zw_istore hX dX18_step_65 (by decide) ?_
        refine zw_iload hX dX18_step_67 rfl ?_
        refine zw_if_eq (tgt := 76) hX dX18_step_69 (by decide) (fun c69 => ?_) (fun c69 => ?_)
        · rw [if_pos c69] at h
          refine zw_aload_n hX dX18_step_76 rfl ?_
          obtain ⟨b17, g, h⟩ := zb_some h
          refine zw_getr hX zl_X18_172 dX18_step_77 g ?_
          refine zw_bipush (v := (24 : Int32)) hX dX18_step_80 (by decide) ?_
          refine zw_iload hX dX18_step_82 rfl ?_
          refine zw_imul hX dX18_step_84 ?_
          refine zw_iload hX dX18_step_85 rfl ?_
          refine zw_iadd hX dX18_step_87 ?_
          obtain ⟨v18, g, h⟩ := zb_some h
          refine zw_xi hX dX18_step_88 g ?_
          refine zw_sub (lv' := [(0, .ref a0), (1, .int i1), (2, .int i2), (3, .int i3), (4, .int r10.1), (5, .int r14.1), (6, .int r16.1)]) (List.forall_mem_cons.mpr ⟨rfl, (List.forall_mem_cons.mpr ⟨rfl, (List.forall_mem_cons.mpr ⟨rfl, (List.forall_mem_cons.mpr ⟨rfl, (List.forall_mem_cons.mpr ⟨rfl, (List.forall_mem_cons.mpr ⟨rfl, (List.forall_mem_cons.mpr ⟨rfl, zs_nil⟩)⟩)⟩)⟩)⟩)⟩)⟩) ?_
          exact zt_X18_step_J89 hX hr hR hd hf hk ih h
        · rw [if_neg c69] at h
          refine zw_iconst (v := (0 : Int32)) hX dX18_step_72 (by decide) ?_
          refine zw_goto (tgt := 89) hX dX18_step_73 (by decide) ?_
          refine zw_sub (lv' := [(0, .ref a0), (1, .int i1), (2, .int i2), (3, .int i3), (4, .int r10.1), (5, .int r14.1), (6, .int r16.1)]) (List.forall_mem_cons.mpr ⟨rfl, (List.forall_mem_cons.mpr ⟨rfl, (List.forall_mem_cons.mpr ⟨rfl, (List.forall_mem_cons.mpr ⟨rfl, (List.forall_mem_cons.mpr ⟨rfl, (List.forall_mem_cons.mpr ⟨rfl, (List.forall_mem_cons.mpr ⟨rfl, zs_nil⟩)⟩)⟩)⟩)⟩)⟩)⟩) ?_
          exact zt_X18_step_J89 hX hr hR hd hf hk ih h
set_option maxHeartbeats 4000000 in
set_option maxRecDepth 100000 in
theorem zt_X18_step {l : Launch} {V : zm_V} {N : Nat} {S : zm_S} {out : (Unit × zm_S)} {d : Nat} {a0 : Nat} {i1 : Int32} (hd : 4 ≤ d) (h : zf_X18_step N a0 i1 S = some out) : zm_Met l zk_E V yX18_step (.code yX18_step cX18_step 9 none) d [.ref a0, .int i1] S 0 0 (zo_v out) zo_x := by
  refine zm_of (by decide +kernel) (Nat.le_of_ble_eq_true rfl) ?_
  intro p e R s m args below meth c hRR hX hr hxt
  have hR : R.frames = d ∧ R.locals = 64 * d := by rw [hRR]; exact ⟨rfl, rfl⟩
  have hX : zm_X p R s m args meth c RX18 "step" cX18_step 9 zk_E V 0 0 := hX
  unfold zf_X18_step at h
  refine zw_sub (lv' := [(0, .ref a0), (1, .int i1)]) (List.forall_mem_cons.mpr ⟨rfl, (List.forall_mem_cons.mpr ⟨rfl, zs_nil⟩)⟩) ?_
  refine zw_aload_n hX dX18_step_0 rfl ?_
  obtain ⟨b1, g, h⟩ := zb_some h
  refine zw_getr hX zl_X18_172 dX18_step_1 g ?_
  refine zw_bipush (v := (24 : Int32)) hX dX18_step_4 (by decide) ?_
  refine zw_aload_n hX dX18_step_6 rfl ?_
  obtain ⟨b2, g, h⟩ := zb_some h
  refine zw_getr hX zl_X18_112 dX18_step_7 g ?_
  refine zw_iload_n hX dX18_step_10 rfl ?_
  obtain ⟨v3, g, h⟩ := zb_some h
  refine zw_xi hX dX18_step_11 g ?_
  refine zw_imul hX dX18_step_12 ?_
  refine zw_aload_n hX dX18_step_13 rfl ?_
  obtain ⟨b4, g, h⟩ := zb_some h
  refine zw_getr hX zl_X18_109 dX18_step_14 g ?_
  refine zw_iload_n hX dX18_step_17 rfl ?_
  obtain ⟨v5, g, h⟩ := zb_some h
  refine zw_xi hX dX18_step_18 g ?_
  refine zw_iadd hX dX18_step_19 ?_
  obtain ⟨v6, g, h⟩ := zb_some h
  refine zw_xi hX dX18_step_20 g ?_
  refine zw_istore_n hX dX18_step_21 (by decide) ?_
  refine zw_iconst (v := (0 : Int32)) hX dX18_step_22 (by decide) ?_
  refine zw_istore_n hX dX18_step_23 (by decide) ?_
  obtain ⟨r, g, h⟩ := zb_some h
  refine zw_sub (lv' := [(0, .ref a0), (1, .int i1), (2, .int v6), (3, .int (0 : Int32))]) (List.forall_mem_cons.mpr ⟨rfl, (List.forall_mem_cons.mpr ⟨rfl, (List.forall_mem_cons.mpr ⟨rfl, (List.forall_mem_cons.mpr ⟨rfl, zs_nil⟩)⟩)⟩)⟩) ?_
  refine zt_X18_step_L24 hX hr hR hd (res := r) (out := out) a0 i1 v6 ?_ ?_ N _ _ g
  · intro o ho
    subst ho
    exact Option.some.inj h
  · intro  S101 hx
    subst hx
    try dsimp only at h
    obtain rfl := Option.some.inj h
    exact zw_vret hX hr dX18_step_270 ⟨rfl, rfl⟩

