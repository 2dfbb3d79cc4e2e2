/-! ===== functions of methods, by program (wip/whole/tools/gen11.py) ===== -/
theorem dX14_done_0 : decode cX14_done 0 = .ok (.iconst 0, 1) := by decide +kernel
theorem dX14_done_1 : decode cX14_done 1 = .ok (.istore_n 2, 1) := by decide +kernel
theorem dX14_done_2 : decode cX14_done 2 = .ok (.iconst 0, 1) := by decide +kernel
theorem dX14_done_3 : decode cX14_done 3 = .ok (.istore_n 3, 1) := by decide +kernel
theorem dX14_done_4 : decode cX14_done 4 = .ok (.iload_n 3, 1) := by decide +kernel
theorem dX14_done_5 : decode cX14_done 5 = .ok (.bipush 20, 2) := by decide +kernel
theorem dX14_done_7 : decode cX14_done 7 = .ok (.if_icmp .ge 50, 3) := by decide +kernel
theorem dX14_done_10 : decode cX14_done 10 = .ok (.iload_n 2, 1) := by decide +kernel
theorem dX14_done_11 : decode cX14_done 11 = .ok (.aload_n 0, 1) := by decide +kernel
theorem dX14_done_12 : decode cX14_done 12 = .ok (.getfield 41, 3) := by decide +kernel
theorem dX14_done_15 : decode cX14_done 15 = .ok (.iload_n 3, 1) := by decide +kernel
theorem dX14_done_16 : decode cX14_done 16 = .ok (.baload, 1) := by decide +kernel
theorem dX14_done_17 : decode cX14_done 17 = .ok (.ifCond .eq 31, 3) := by decide +kernel
theorem dX14_done_48 : decode cX14_done 48 = .ok (.iconst 0, 1) := by decide +kernel
theorem dX14_done_49 : decode cX14_done 49 = .ok (.iadd, 1) := by decide +kernel
theorem dX14_done_50 : decode cX14_done 50 = .ok (.istore_n 2, 1) := by decide +kernel
theorem dX14_done_51 : decode cX14_done 51 = .ok (.iinc 3 1, 3) := by decide +kernel
theorem dX14_done_54 : decode cX14_done 54 = .ok (.goto (-50), 3) := by decide +kernel
theorem dX14_done_20 : decode cX14_done 20 = .ok (.aload_n 0, 1) := by decide +kernel
theorem dX14_done_21 : decode cX14_done 21 = .ok (.getfield 65, 3) := by decide +kernel
theorem dX14_done_24 : decode cX14_done 24 = .ok (.iload_n 3, 1) := by decide +kernel
theorem dX14_done_25 : decode cX14_done 25 = .ok (.iaload, 1) := by decide +kernel
theorem dX14_done_26 : decode cX14_done 26 = .ok (.iconst 2, 1) := by decide +kernel
theorem dX14_done_27 : decode cX14_done 27 = .ok (.if_icmp .ne 21, 3) := by decide +kernel
theorem dX14_done_30 : decode cX14_done 30 = .ok (.iload_n 1, 1) := by decide +kernel
theorem dX14_done_31 : decode cX14_done 31 = .ok (.ifCond .lt 13, 3) := by decide +kernel
theorem dX14_done_44 : decode cX14_done 44 = .ok (.iconst 1, 1) := by decide +kernel
theorem dX14_done_45 : decode cX14_done 45 = .ok (.goto 4, 3) := by decide +kernel
theorem dX14_done_34 : decode cX14_done 34 = .ok (.aload_n 0, 1) := by decide +kernel
theorem dX14_done_35 : decode cX14_done 35 = .ok (.getfield 44, 3) := by decide +kernel
theorem dX14_done_38 : decode cX14_done 38 = .ok (.iload_n 3, 1) := by decide +kernel
theorem dX14_done_39 : decode cX14_done 39 = .ok (.iaload, 1) := by decide +kernel
theorem dX14_done_40 : decode cX14_done 40 = .ok (.iload_n 1, 1) := by decide +kernel
theorem dX14_done_41 : decode cX14_done 41 = .ok (.if_icmp .ne 7, 3) := by decide +kernel
theorem dX14_done_57 : decode cX14_done 57 = .ok (.iload_n 2, 1) := by decide +kernel
theorem dX14_done_58 : decode cX14_done 58 = .ok (.ireturn, 1) := by decide +kernel
theorem dX14_act_0 : decode cX14_act 0 = .ok (.iload_n 2, 1) := by decide +kernel
theorem dX14_act_1 : decode cX14_act 1 = .ok (.ifCond .ne 12, 3) := by decide +kernel
theorem dX14_act_13 : decode cX14_act 13 = .ok (.iload_n 2, 1) := by decide +kernel
theorem dX14_act_14 : decode cX14_act 14 = .ok (.iconst 1, 1) := by decide +kernel
theorem dX14_act_15 : decode cX14_act 15 = .ok (.if_icmp .ne 12, 3) := by decide +kernel
theorem dX14_act_27 : decode cX14_act 27 = .ok (.iload_n 2, 1) := by decide +kernel
theorem dX14_act_28 : decode cX14_act 28 = .ok (.iconst 2, 1) := by decide +kernel
theorem dX14_act_29 : decode cX14_act 29 = .ok (.if_icmp .ne 12, 3) := by decide +kernel
theorem dX14_act_41 : decode cX14_act 41 = .ok (.iload_n 2, 1) := by decide +kernel
theorem dX14_act_42 : decode cX14_act 42 = .ok (.iconst 3, 1) := by decide +kernel
theorem dX14_act_43 : decode cX14_act 43 = .ok (.if_icmp .ne 12, 3) := by decide +kernel
theorem dX14_act_55 : decode cX14_act 55 = .ok (.iload_n 2, 1) := by decide +kernel
theorem dX14_act_56 : decode cX14_act 56 = .ok (.iconst 4, 1) := by decide +kernel
theorem dX14_act_57 : decode cX14_act 57 = .ok (.if_icmp .ne 12, 3) := by decide +kernel
theorem dX14_act_69 : decode cX14_act 69 = .ok (.aload_n 0, 1) := by decide +kernel
theorem dX14_act_70 : decode cX14_act 70 = .ok (.getfield 53, 3) := by decide +kernel
theorem dX14_act_73 : decode cX14_act 73 = .ok (.iload_n 1, 1) := by decide +kernel
theorem dX14_act_74 : decode cX14_act 74 = .ok (.baload, 1) := by decide +kernel
theorem dX14_act_75 : decode cX14_act 75 = .ok (.ifCond .eq 7, 3) := by decide +kernel
theorem dX14_act_82 : decode cX14_act 82 = .ok (.iconst 0, 1) := by decide +kernel
theorem dX14_act_83 : decode cX14_act 83 = .ok (.ireturn, 1) := by decide +kernel
theorem dX14_act_78 : decode cX14_act 78 = .ok (.iconst 1, 1) := by decide +kernel
theorem dX14_act_79 : decode cX14_act 79 = .ok (.goto 4, 3) := by decide +kernel
theorem dX14_act_60 : decode cX14_act 60 = .ok (.aload_n 0, 1) := by decide +kernel
theorem dX14_act_61 : decode cX14_act 61 = .ok (.getfield 50, 3) := by decide +kernel
theorem dX14_act_64 : decode cX14_act 64 = .ok (.iload_n 1, 1) := by decide +kernel
theorem dX14_act_65 : decode cX14_act 65 = .ok (.iaload, 1) := by decide +kernel
theorem dX14_act_66 : decode cX14_act 66 = .ok (.goto 17, 3) := by decide +kernel
theorem dX14_act_46 : decode cX14_act 46 = .ok (.aload_n 0, 1) := by decide +kernel
theorem dX14_act_47 : decode cX14_act 47 = .ok (.getfield 47, 3) := by decide +kernel
theorem dX14_act_50 : decode cX14_act 50 = .ok (.iload_n 1, 1) := by decide +kernel
theorem dX14_act_51 : decode cX14_act 51 = .ok (.iaload, 1) := by decide +kernel
theorem dX14_act_52 : decode cX14_act 52 = .ok (.goto 31, 3) := by decide +kernel
theorem dX14_act_32 : decode cX14_act 32 = .ok (.aload_n 0, 1) := by decide +kernel
theorem dX14_act_33 : decode cX14_act 33 = .ok (.getfield 44, 3) := by decide +kernel
theorem dX14_act_36 : decode cX14_act 36 = .ok (.iload_n 1, 1) := by decide +kernel
theorem dX14_act_37 : decode cX14_act 37 = .ok (.iaload, 1) := by decide +kernel
theorem dX14_act_38 : decode cX14_act 38 = .ok (.goto 45, 3) := by decide +kernel
theorem dX14_act_18 : decode cX14_act 18 = .ok (.aload_n 0, 1) := by decide +kernel
theorem dX14_act_19 : decode cX14_act 19 = .ok (.getfield 68, 3) := by decide +kernel
theorem dX14_act_22 : decode cX14_act 22 = .ok (.iload_n 1, 1) := by decide +kernel
theorem dX14_act_23 : decode cX14_act 23 = .ok (.iaload, 1) := by decide +kernel
theorem dX14_act_24 : decode cX14_act 24 = .ok (.goto 59, 3) := by decide +kernel
theorem dX14_act_4 : decode cX14_act 4 = .ok (.aload_n 0, 1) := by decide +kernel
theorem dX14_act_5 : decode cX14_act 5 = .ok (.getfield 65, 3) := by decide +kernel
theorem dX14_act_8 : decode cX14_act 8 = .ok (.iload_n 1, 1) := by decide +kernel
theorem dX14_act_9 : decode cX14_act 9 = .ok (.iaload, 1) := by decide +kernel
theorem dX14_act_10 : decode cX14_act 10 = .ok (.goto 73, 3) := by decide +kernel
theorem dX14_event_0 : decode cX14_event 0 = .ok (.aload_n 0, 1) := by decide +kernel
theorem dX14_event_1 : decode cX14_event 1 = .ok (.getfield 221, 3) := by decide +kernel
theorem dX14_event_4 : decode cX14_event 4 = .ok (.iconst 1, 1) := by decide +kernel
theorem dX14_event_5 : decode cX14_event 5 = .ok (.isub, 1) := by decide +kernel
theorem dX14_event_6 : decode cX14_event 6 = .ok (.iload_n 1, 1) := by decide +kernel
theorem dX14_event_7 : decode cX14_event 7 = .ok (.isub, 1) := by decide +kernel
theorem dX14_event_8 : decode cX14_event 8 = .ok (.istore_n 3, 1) := by decide +kernel
theorem dX14_event_9 : decode cX14_event 9 = .ok (.iload_n 2, 1) := by decide +kernel
theorem dX14_event_10 : decode cX14_event 10 = .ok (.ifCond .ne 12, 3) := by decide +kernel
theorem dX14_event_22 : decode cX14_event 22 = .ok (.iload_n 2, 1) := by decide +kernel
theorem dX14_event_23 : decode cX14_event 23 = .ok (.iconst 1, 1) := by decide +kernel
theorem dX14_event_24 : decode cX14_event 24 = .ok (.if_icmp .ne 12, 3) := by decide +kernel
theorem dX14_event_36 : decode cX14_event 36 = .ok (.aload_n 0, 1) := by decide +kernel
theorem dX14_event_37 : decode cX14_event 37 = .ok (.getfield 83, 3) := by decide +kernel
theorem dX14_event_40 : decode cX14_event 40 = .ok (.iload_n 3, 1) := by decide +kernel
theorem dX14_event_41 : decode cX14_event 41 = .ok (.iaload, 1) := by decide +kernel
theorem dX14_event_42 : decode cX14_event 42 = .ok (.ireturn, 1) := by decide +kernel
theorem dX14_event_27 : decode cX14_event 27 = .ok (.aload_n 0, 1) := by decide +kernel
theorem dX14_event_28 : decode cX14_event 28 = .ok (.getfield 80, 3) := by decide +kernel
theorem dX14_event_31 : decode cX14_event 31 = .ok (.iload_n 3, 1) := by decide +kernel
theorem dX14_event_32 : decode cX14_event 32 = .ok (.iaload, 1) := by decide +kernel
theorem dX14_event_33 : decode cX14_event 33 = .ok (.goto 9, 3) := by decide +kernel
theorem dX14_event_13 : decode cX14_event 13 = .ok (.aload_n 0, 1) := by decide +kernel
theorem dX14_event_14 : decode cX14_event 14 = .ok (.getfield 77, 3) := by decide +kernel
theorem dX14_event_17 : decode cX14_event 17 = .ok (.iload_n 3, 1) := by decide +kernel
theorem dX14_event_18 : decode cX14_event 18 = .ok (.iaload, 1) := by decide +kernel
theorem dX14_event_19 : decode cX14_event 19 = .ok (.goto 23, 3) := by decide +kernel
theorem dX15_byteOf_0 : decode cX15_byteOf 0 = .ok (.lload_n 0, 1) := by decide +kernel
theorem dX15_byteOf_1 : decode cX15_byteOf 1 = .ok (.bipush 8, 2) := by decide +kernel
theorem dX15_byteOf_3 : decode cX15_byteOf 3 = .ok (.iload_n 2, 1) := by decide +kernel
theorem dX15_byteOf_4 : decode cX15_byteOf 4 = .ok (.imul, 1) := by decide +kernel
theorem dX15_byteOf_5 : decode cX15_byteOf 5 = .ok (.lshr, 1) := by decide +kernel
theorem dX15_byteOf_6 : decode cX15_byteOf 6 = .ok (.ldc2_w 84, 3) := by decide +kernel
theorem dX15_byteOf_9 : decode cX15_byteOf 9 = .ok (.land, 1) := by decide +kernel
theorem dX15_byteOf_10 : decode cX15_byteOf 10 = .ok (.l2i, 1) := by decide +kernel
theorem dX15_byteOf_11 : decode cX15_byteOf 11 = .ok (.ireturn, 1) := by decide +kernel
theorem dX15_characters_0 : decode cX15_characters 0 = .ok (.iconst 0, 1) := by decide +kernel
theorem dX15_characters_1 : decode cX15_characters 1 = .ok (.istore_n 2, 1) := by decide +kernel
theorem dX15_characters_2 : decode cX15_characters 2 = .ok (.iconst 0, 1) := by decide +kernel
theorem dX15_characters_3 : decode cX15_characters 3 = .ok (.istore_n 3, 1) := by decide +kernel
theorem dX15_characters_4 : decode cX15_characters 4 = .ok (.iload_n 3, 1) := by decide +kernel
theorem dX15_characters_5 : decode cX15_characters 5 = .ok (.bipush 8, 2) := by decide +kernel
theorem dX15_characters_7 : decode cX15_characters 7 = .ok (.if_icmp .ge 50, 3) := by decide +kernel
theorem dX15_characters_10 : decode cX15_characters 10 = .ok (.lload_n 0, 1) := by decide +kernel
theorem dX15_characters_11 : decode cX15_characters 11 = .ok (.iload_n 3, 1) := by decide +kernel
theorem dX15_characters_12 : decode cX15_characters 12 = .ok (.invokestatic 86, 3) := by decide +kernel
theorem dX15_characters_15 : decode cX15_characters 15 = .ok (.istore 4, 2) := by decide +kernel
theorem dX15_characters_17 : decode cX15_characters 17 = .ok (.iload 4, 2) := by decide +kernel
theorem dX15_characters_19 : decode cX15_characters 19 = .ok (.ifCond .le 10, 3) := by decide +kernel
theorem dX15_characters_29 : decode cX15_characters 29 = .ok (.iload 4, 2) := by decide +kernel
theorem dX15_characters_31 : decode cX15_characters 31 = .ok (.bipush 126, 2) := by decide +kernel
theorem dX15_characters_33 : decode cX15_characters 33 = .ok (.if_icmp .le 5, 3) := by decide +kernel
theorem dX15_characters_38 : decode cX15_characters 38 = .ok (.iload_n 2, 1) := by decide +kernel
theorem dX15_characters_39 : decode cX15_characters 39 = .ok (.iload 4, 2) := by decide +kernel
theorem dX15_characters_41 : decode cX15_characters 41 = .ok (.ifCond .le 7, 3) := by decide +kernel
theorem dX15_characters_48 : decode cX15_characters 48 = .ok (.iconst 0, 1) := by decide +kernel
theorem dX15_characters_49 : decode cX15_characters 49 = .ok (.iadd, 1) := by decide +kernel
theorem dX15_characters_50 : decode cX15_characters 50 = .ok (.istore_n 2, 1) := by decide +kernel
theorem dX15_characters_51 : decode cX15_characters 51 = .ok (.iinc 3 1, 3) := by decide +kernel
theorem dX15_characters_54 : decode cX15_characters 54 = .ok (.goto (-50), 3) := by decide +kernel
theorem dX15_characters_44 : decode cX15_characters 44 = .ok (.iconst 1, 1) := by decide +kernel
theorem dX15_characters_45 : decode cX15_characters 45 = .ok (.goto 4, 3) := by decide +kernel
theorem dX15_characters_36 : decode cX15_characters 36 = .ok (.iconst (-1), 1) := by decide +kernel
theorem dX15_characters_37 : decode cX15_characters 37 = .ok (.ireturn, 1) := by decide +kernel
theorem dX15_characters_22 : decode cX15_characters 22 = .ok (.iload 4, 2) := by decide +kernel
theorem dX15_characters_24 : decode cX15_characters 24 = .ok (.bipush 32, 2) := by decide +kernel
theorem dX15_characters_26 : decode cX15_characters 26 = .ok (.if_icmp .lt 10, 3) := by decide +kernel
theorem dX15_characters_57 : decode cX15_characters 57 = .ok (.iload_n 2, 1) := by decide +kernel
theorem dX15_characters_58 : decode cX15_characters 58 = .ok (.ireturn, 1) := by decide +kernel
theorem dX15_say_0 : decode cX15_say 0 = .ok (.bipush 7, 2) := by decide +kernel
theorem dX15_say_2 : decode cX15_say 2 = .ok (.istore_n 3, 1) := by decide +kernel
theorem dX15_say_3 : decode cX15_say 3 = .ok (.iload_n 3, 1) := by decide +kernel
theorem dX15_say_4 : decode cX15_say 4 = .ok (.ifCond .lt 41, 3) := by decide +kernel
theorem dX15_say_7 : decode cX15_say 7 = .ok (.lload_n 1, 1) := by decide +kernel
theorem dX15_say_8 : decode cX15_say 8 = .ok (.iload_n 3, 1) := by decide +kernel
theorem dX15_say_9 : decode cX15_say 9 = .ok (.invokestatic 86, 3) := by decide +kernel
theorem dX15_say_12 : decode cX15_say 12 = .ok (.ifCond .le 27, 3) := by decide +kernel
theorem dX15_say_39 : decode cX15_say 39 = .ok (.iinc 3 (-1), 3) := by decide +kernel
theorem dX15_say_42 : decode cX15_say 42 = .ok (.goto (-39), 3) := by decide +kernel
theorem dX15_say_15 : decode cX15_say 15 = .ok (.aload_n 0, 1) := by decide +kernel
theorem dX15_say_16 : decode cX15_say 16 = .ok (.getfield 7, 3) := by decide +kernel
theorem dX15_say_19 : decode cX15_say 19 = .ok (.aload_n 0, 1) := by decide +kernel
theorem dX15_say_20 : decode cX15_say 20 = .ok (.getfield 90, 3) := by decide +kernel
theorem dX15_say_23 : decode cX15_say 23 = .ok (.lload_n 1, 1) := by decide +kernel
theorem dX15_say_24 : decode cX15_say 24 = .ok (.iload_n 3, 1) := by decide +kernel
theorem dX15_say_25 : decode cX15_say 25 = .ok (.invokestatic 86, 3) := by decide +kernel
theorem dX15_say_28 : decode cX15_say 28 = .ok (.iastore, 1) := by decide +kernel
theorem dX15_say_29 : decode cX15_say 29 = .ok (.aload_n 0, 1) := by decide +kernel
theorem dX15_say_30 : decode cX15_say 30 = .ok (.dup, 1) := by decide +kernel
theorem dX15_say_31 : decode cX15_say 31 = .ok (.getfield 90, 3) := by decide +kernel
theorem dX15_say_34 : decode cX15_say 34 = .ok (.iconst 1, 1) := by decide +kernel
theorem dX15_say_35 : decode cX15_say 35 = .ok (.iadd, 1) := by decide +kernel
theorem dX15_say_36 : decode cX15_say 36 = .ok (.putfield 90, 3) := by decide +kernel
theorem dX15_say_45 : decode cX15_say 45 = .ok (.aload_n 0, 1) := by decide +kernel
theorem dX15_say_46 : decode cX15_say 46 = .ok (.getfield 90, 3) := by decide +kernel
theorem dX15_say_49 : decode cX15_say 49 = .ok (.ireturn, 1) := by decide +kernel
theorem dX15_charAt_0 : decode cX15_charAt 0 = .ok (.iload_n 1, 1) := by decide +kernel
theorem dX15_charAt_1 : decode cX15_charAt 1 = .ok (.aload_n 0, 1) := by decide +kernel
theorem dX15_charAt_2 : decode cX15_charAt 2 = .ok (.getfield 90, 3) := by decide +kernel
theorem dX15_charAt_5 : decode cX15_charAt 5 = .ok (.if_icmp .ge 12, 3) := by decide +kernel
theorem dX15_charAt_17 : decode cX15_charAt 17 = .ok (.bipush 32, 2) := by decide +kernel
theorem dX15_charAt_19 : decode cX15_charAt 19 = .ok (.ireturn, 1) := by decide +kernel
theorem dX15_charAt_8 : decode cX15_charAt 8 = .ok (.aload_n 0, 1) := by decide +kernel
theorem dX15_charAt_9 : decode cX15_charAt 9 = .ok (.getfield 7, 3) := by decide +kernel
theorem dX15_charAt_12 : decode cX15_charAt 12 = .ok (.iload_n 1, 1) := by decide +kernel
theorem dX15_charAt_13 : decode cX15_charAt 13 = .ok (.iaload, 1) := by decide +kernel
theorem dX15_charAt_14 : decode cX15_charAt 14 = .ok (.goto 5, 3) := by decide +kernel
theorem dX15_isDigit_0 : decode cX15_isDigit 0 = .ok (.iload_n 0, 1) := by decide +kernel
theorem dX15_isDigit_1 : decode cX15_isDigit 1 = .ok (.bipush 47, 2) := by decide +kernel
theorem dX15_isDigit_3 : decode cX15_isDigit 3 = .ok (.if_icmp .le 13, 3) := by decide +kernel
theorem dX15_isDigit_16 : decode cX15_isDigit 16 = .ok (.iconst 0, 1) := by decide +kernel
theorem dX15_isDigit_17 : decode cX15_isDigit 17 = .ok (.ireturn, 1) := by decide +kernel
theorem dX15_isDigit_6 : decode cX15_isDigit 6 = .ok (.iload_n 0, 1) := by decide +kernel
theorem dX15_isDigit_7 : decode cX15_isDigit 7 = .ok (.bipush 58, 2) := by decide +kernel
theorem dX15_isDigit_9 : decode cX15_isDigit 9 = .ok (.if_icmp .ge 7, 3) := by decide +kernel
theorem dX15_isDigit_12 : decode cX15_isDigit 12 = .ok (.iconst 1, 1) := by decide +kernel
theorem dX15_isDigit_13 : decode cX15_isDigit 13 = .ok (.goto 4, 3) := by decide +kernel
theorem dX15_isLetter_0 : decode cX15_isLetter 0 = .ok (.iload_n 0, 1) := by decide +kernel
theorem dX15_isLetter_1 : decode cX15_isLetter 1 = .ok (.bipush 96, 2) := by decide +kernel
theorem dX15_isLetter_3 : decode cX15_isLetter 3 = .ok (.if_icmp .le 13, 3) := by decide +kernel
theorem dX15_isLetter_16 : decode cX15_isLetter 16 = .ok (.iconst 0, 1) := by decide +kernel
theorem dX15_isLetter_17 : decode cX15_isLetter 17 = .ok (.ireturn, 1) := by decide +kernel
theorem dX15_isLetter_6 : decode cX15_isLetter 6 = .ok (.iload_n 0, 1) := by decide +kernel
theorem dX15_isLetter_7 : decode cX15_isLetter 7 = .ok (.bipush 123, 2) := by decide +kernel
theorem dX15_isLetter_9 : decode cX15_isLetter 9 = .ok (.if_icmp .ge 7, 3) := by decide +kernel
theorem dX15_isLetter_12 : decode cX15_isLetter 12 = .ok (.iconst 1, 1) := by decide +kernel
theorem dX15_isLetter_13 : decode cX15_isLetter 13 = .ok (.goto 4, 3) := by decide +kernel
theorem dX15_isSign_0 : decode cX15_isSign 0 = .ok (.iload_n 0, 1) := by decide +kernel
theorem dX15_isSign_1 : decode cX15_isSign 1 = .ok (.bipush 43, 2) := by decide +kernel
theorem dX15_isSign_3 : decode cX15_isSign 3 = .ok (.if_icmp .eq 75, 3) := by decide +kernel
theorem dX15_isSign_78 : decode cX15_isSign 78 = .ok (.iconst 1, 1) := by decide +kernel
theorem dX15_isSign_79 : decode cX15_isSign 79 = .ok (.goto 4, 3) := by decide +kernel
theorem dX15_isSign_83 : decode cX15_isSign 83 = .ok (.ireturn, 1) := by decide +kernel
theorem dX15_isSign_6 : decode cX15_isSign 6 = .ok (.iload_n 0, 1) := by decide +kernel
theorem dX15_isSign_7 : decode cX15_isSign 7 = .ok (.bipush 45, 2) := by decide +kernel
theorem dX15_isSign_9 : decode cX15_isSign 9 = .ok (.if_icmp .eq 69, 3) := by decide +kernel
theorem dX15_isSign_12 : decode cX15_isSign 12 = .ok (.iload_n 0, 1) := by decide +kernel
theorem dX15_isSign_13 : decode cX15_isSign 13 = .ok (.bipush 42, 2) := by decide +kernel
theorem dX15_isSign_15 : decode cX15_isSign 15 = .ok (.if_icmp .eq 63, 3) := by decide +kernel
theorem dX15_isSign_18 : decode cX15_isSign 18 = .ok (.iload_n 0, 1) := by decide +kernel
theorem dX15_isSign_19 : decode cX15_isSign 19 = .ok (.bipush 47, 2) := by decide +kernel
theorem dX15_isSign_21 : decode cX15_isSign 21 = .ok (.if_icmp .eq 57, 3) := by decide +kernel
theorem dX15_isSign_24 : decode cX15_isSign 24 = .ok (.iload_n 0, 1) := by decide +kernel
theorem dX15_isSign_25 : decode cX15_isSign 25 = .ok (.bipush 40, 2) := by decide +kernel
theorem dX15_isSign_27 : decode cX15_isSign 27 = .ok (.if_icmp .eq 51, 3) := by decide +kernel
theorem dX15_isSign_30 : decode cX15_isSign 30 = .ok (.iload_n 0, 1) := by decide +kernel
theorem dX15_isSign_31 : decode cX15_isSign 31 = .ok (.bipush 41, 2) := by decide +kernel
theorem dX15_isSign_33 : decode cX15_isSign 33 = .ok (.if_icmp .eq 45, 3) := by decide +kernel
theorem dX15_isSign_36 : decode cX15_isSign 36 = .ok (.iload_n 0, 1) := by decide +kernel
theorem dX15_isSign_37 : decode cX15_isSign 37 = .ok (.bipush 60, 2) := by decide +kernel
theorem dX15_isSign_39 : decode cX15_isSign 39 = .ok (.if_icmp .eq 39, 3) := by decide +kernel
theorem dX15_isSign_42 : decode cX15_isSign 42 = .ok (.iload_n 0, 1) := by decide +kernel
theorem dX15_isSign_43 : decode cX15_isSign 43 = .ok (.bipush 61, 2) := by decide +kernel
theorem dX15_isSign_45 : decode cX15_isSign 45 = .ok (.if_icmp .eq 33, 3) := by decide +kernel
theorem dX15_isSign_48 : decode cX15_isSign 48 = .ok (.iload_n 0, 1) := by decide +kernel
theorem dX15_isSign_49 : decode cX15_isSign 49 = .ok (.bipush 62, 2) := by decide +kernel
theorem dX15_isSign_51 : decode cX15_isSign 51 = .ok (.if_icmp .eq 27, 3) := by decide +kernel
theorem dX15_isSign_54 : decode cX15_isSign 54 = .ok (.iload_n 0, 1) := by decide +kernel
theorem dX15_isSign_55 : decode cX15_isSign 55 = .ok (.bipush 58, 2) := by decide +kernel
theorem dX15_isSign_57 : decode cX15_isSign 57 = .ok (.if_icmp .eq 21, 3) := by decide +kernel
theorem dX15_isSign_60 : decode cX15_isSign 60 = .ok (.iload_n 0, 1) := by decide +kernel
theorem dX15_isSign_61 : decode cX15_isSign 61 = .ok (.bipush 59, 2) := by decide +kernel
theorem dX15_isSign_63 : decode cX15_isSign 63 = .ok (.if_icmp .eq 15, 3) := by decide +kernel
theorem dX15_isSign_66 : decode cX15_isSign 66 = .ok (.iload_n 0, 1) := by decide +kernel
theorem dX15_isSign_67 : decode cX15_isSign 67 = .ok (.bipush 33, 2) := by decide +kernel
theorem dX15_isSign_69 : decode cX15_isSign 69 = .ok (.if_icmp .eq 9, 3) := by decide +kernel
theorem dX15_isSign_72 : decode cX15_isSign 72 = .ok (.iload_n 0, 1) := by decide +kernel
theorem dX15_isSign_73 : decode cX15_isSign 73 = .ok (.bipush 64, 2) := by decide +kernel
theorem dX15_isSign_75 : decode cX15_isSign 75 = .ok (.if_icmp .ne 7, 3) := by decide +kernel
theorem dX15_isSign_82 : decode cX15_isSign 82 = .ok (.iconst 0, 1) := by decide +kernel
theorem dX15_step_0 : decode cX15_step 0 = .ok (.aload_n 0, 1) := by decide +kernel
theorem dX15_step_1 : decode cX15_step 1 = .ok (.getfield 93, 3) := by decide +kernel
theorem dX15_step_4 : decode cX15_step 4 = .ok (.aload_n 0, 1) := by decide +kernel
theorem dX15_step_5 : decode cX15_step 5 = .ok (.getfield 90, 3) := by decide +kernel
theorem dX15_step_8 : decode cX15_step 8 = .ok (.if_icmp .ge 30, 3) := by decide +kernel
theorem dX15_step_11 : decode cX15_step 11 = .ok (.aload_n 0, 1) := by decide +kernel
theorem dX15_step_12 : decode cX15_step 12 = .ok (.getfield 7, 3) := by decide +kernel
theorem dX15_step_15 : decode cX15_step 15 = .ok (.aload_n 0, 1) := by decide +kernel
theorem dX15_step_16 : decode cX15_step 16 = .ok (.getfield 93, 3) := by decide +kernel
theorem dX15_step_19 : decode cX15_step 19 = .ok (.iaload, 1) := by decide +kernel
theorem dX15_step_20 : decode cX15_step 20 = .ok (.bipush 32, 2) := by decide +kernel
theorem dX15_step_22 : decode cX15_step 22 = .ok (.if_icmp .ne 16, 3) := by decide +kernel
theorem dX15_step_25 : decode cX15_step 25 = .ok (.aload_n 0, 1) := by decide +kernel
theorem dX15_step_26 : decode cX15_step 26 = .ok (.dup, 1) := by decide +kernel
theorem dX15_step_27 : decode cX15_step 27 = .ok (.getfield 93, 3) := by decide +kernel
theorem dX15_step_30 : decode cX15_step 30 = .ok (.iconst 1, 1) := by decide +kernel
theorem dX15_step_31 : decode cX15_step 31 = .ok (.iadd, 1) := by decide +kernel
theorem dX15_step_32 : decode cX15_step 32 = .ok (.putfield 93, 3) := by decide +kernel
theorem dX15_step_35 : decode cX15_step 35 = .ok (.goto (-35), 3) := by decide +kernel
theorem dX15_step_38 : decode cX15_step 38 = .ok (.aload_n 0, 1) := by decide +kernel
theorem dX15_step_39 : decode cX15_step 39 = .ok (.aload_n 0, 1) := by decide +kernel
theorem dX15_step_40 : decode cX15_step 40 = .ok (.getfield 93, 3) := by decide +kernel
theorem dX15_step_43 : decode cX15_step 43 = .ok (.putfield 96, 3) := by decide +kernel
theorem dX15_step_46 : decode cX15_step 46 = .ok (.aload_n 0, 1) := by decide +kernel
theorem dX15_step_47 : decode cX15_step 47 = .ok (.iconst 0, 1) := by decide +kernel
theorem dX15_step_48 : decode cX15_step 48 = .ok (.putfield 99, 3) := by decide +kernel
theorem dX15_step_51 : decode cX15_step 51 = .ok (.aload_n 0, 1) := by decide +kernel
theorem dX15_step_52 : decode cX15_step 52 = .ok (.lconst 0, 1) := by decide +kernel
theorem dX15_step_53 : decode cX15_step 53 = .ok (.putfield 102, 3) := by decide +kernel
theorem dX15_step_56 : decode cX15_step 56 = .ok (.aload_n 0, 1) := by decide +kernel
theorem dX15_step_57 : decode cX15_step 57 = .ok (.getfield 96, 3) := by decide +kernel
theorem dX15_step_60 : decode cX15_step 60 = .ok (.aload_n 0, 1) := by decide +kernel
theorem dX15_step_61 : decode cX15_step 61 = .ok (.getfield 90, 3) := by decide +kernel
theorem dX15_step_64 : decode cX15_step 64 = .ok (.if_icmp .ne 4, 3) := by decide +kernel
theorem dX15_step_68 : decode cX15_step 68 = .ok (.aload_n 0, 1) := by decide +kernel
theorem dX15_step_69 : decode cX15_step 69 = .ok (.getfield 7, 3) := by decide +kernel
theorem dX15_step_72 : decode cX15_step 72 = .ok (.aload_n 0, 1) := by decide +kernel
theorem dX15_step_73 : decode cX15_step 73 = .ok (.getfield 96, 3) := by decide +kernel
theorem dX15_step_76 : decode cX15_step 76 = .ok (.iaload, 1) := by decide +kernel
theorem dX15_step_77 : decode cX15_step 77 = .ok (.istore_n 1, 1) := by decide +kernel
theorem dX15_step_78 : decode cX15_step 78 = .ok (.aload_n 0, 1) := by decide +kernel
theorem dX15_step_79 : decode cX15_step 79 = .ok (.dup, 1) := by decide +kernel
theorem dX15_step_80 : decode cX15_step 80 = .ok (.getfield 106, 3) := by decide +kernel
theorem dX15_step_83 : decode cX15_step 83 = .ok (.iconst 1, 1) := by decide +kernel
theorem dX15_step_84 : decode cX15_step 84 = .ok (.iadd, 1) := by decide +kernel
theorem dX15_step_85 : decode cX15_step 85 = .ok (.putfield 106, 3) := by decide +kernel
theorem dX15_step_88 : decode cX15_step 88 = .ok (.iload_n 1, 1) := by decide +kernel
theorem dX15_step_89 : decode cX15_step 89 = .ok (.invokestatic 109, 3) := by decide +kernel
theorem dX15_step_92 : decode cX15_step 92 = .ok (.ifCond .eq 108, 3) := by decide +kernel
theorem dX15_step_200 : decode cX15_step 200 = .ok (.iload_n 1, 1) := by decide +kernel
theorem dX15_step_201 : decode cX15_step 201 = .ok (.invokestatic 125, 3) := by decide +kernel
theorem dX15_step_204 : decode cX15_step 204 = .ok (.ifCond .eq 82, 3) := by decide +kernel
theorem dX15_step_286 : decode cX15_step 286 = .ok (.iload_n 1, 1) := by decide +kernel
theorem dX15_step_287 : decode cX15_step 287 = .ok (.bipush 60, 2) := by decide +kernel
theorem dX15_step_289 : decode cX15_step 289 = .ok (.if_icmp .eq 9, 3) := by decide +kernel
theorem dX15_step_298 : decode cX15_step 298 = .ok (.aload_n 0, 1) := by decide +kernel
theorem dX15_step_299 : decode cX15_step 299 = .ok (.aload_n 0, 1) := by decide +kernel
theorem dX15_step_300 : decode cX15_step 300 = .ok (.getfield 96, 3) := by decide +kernel
theorem dX15_step_303 : decode cX15_step 303 = .ok (.iconst 1, 1) := by decide +kernel
theorem dX15_step_304 : decode cX15_step 304 = .ok (.iadd, 1) := by decide +kernel
theorem dX15_step_305 : decode cX15_step 305 = .ok (.invokevirtual 113, 3) := by decide +kernel
theorem dX15_step_308 : decode cX15_step 308 = .ok (.bipush 61, 2) := by decide +kernel
theorem dX15_step_310 : decode cX15_step 310 = .ok (.if_icmp .ne 7, 3) := by decide +kernel
theorem dX15_step_317 : decode cX15_step 317 = .ok (.iconst 0, 1) := by decide +kernel
theorem dX15_step_318 : decode cX15_step 318 = .ok (.istore_n 2, 1) := by decide +kernel
theorem dX15_step_319 : decode cX15_step 319 = .ok (.aload_n 0, 1) := by decide +kernel
theorem dX15_step_320 : decode cX15_step 320 = .ok (.iload_n 2, 1) := by decide +kernel
theorem dX15_step_321 : decode cX15_step 321 = .ok (.ifCond .eq 11, 3) := by decide +kernel
theorem dX15_step_332 : decode cX15_step 332 = .ok (.iload_n 1, 1) := by decide +kernel
theorem dX15_step_333 : decode cX15_step 333 = .ok (.putfield 99, 3) := by decide +kernel
theorem dX15_step_336 : decode cX15_step 336 = .ok (.aload_n 0, 1) := by decide +kernel
theorem dX15_step_337 : decode cX15_step 337 = .ok (.dup, 1) := by decide +kernel
theorem dX15_step_338 : decode cX15_step 338 = .ok (.getfield 93, 3) := by decide +kernel
theorem dX15_step_341 : decode cX15_step 341 = .ok (.iload_n 2, 1) := by decide +kernel
theorem dX15_step_342 : decode cX15_step 342 = .ok (.ifCond .eq 7, 3) := by decide +kernel
theorem dX15_step_349 : decode cX15_step 349 = .ok (.iconst 1, 1) := by decide +kernel
theorem dX15_step_350 : decode cX15_step 350 = .ok (.iadd, 1) := by decide +kernel
theorem dX15_step_351 : decode cX15_step 351 = .ok (.putfield 93, 3) := by decide +kernel
theorem dX15_step_354 : decode cX15_step 354 = .ok (.aload_n 0, 1) := by decide +kernel
theorem dX15_step_355 : decode cX15_step 355 = .ok (.iload_n 1, 1) := by decide +kernel
theorem dX15_step_356 : decode cX15_step 356 = .ok (.invokestatic 128, 3) := by decide +kernel
theorem dX15_step_359 : decode cX15_step 359 = .ok (.ifCond .ne 7, 3) := by decide +kernel
theorem dX15_step_366 : decode cX15_step 366 = .ok (.iconst 0, 1) := by decide +kernel
theorem dX15_step_367 : decode cX15_step 367 = .ok (.putfield 121, 3) := by decide +kernel
theorem dX15_step_370 : decode cX15_step 370 = .ok (.aload_n 0, 1) := by decide +kernel
theorem dX15_step_371 : decode cX15_step 371 = .ok (.aload_n 0, 1) := by decide +kernel
theorem dX15_step_372 : decode cX15_step 372 = .ok (.getfield 121, 3) := by decide +kernel
theorem dX15_step_375 : decode cX15_step 375 = .ok (.ifCond .ne 12, 3) := by decide +kernel
theorem dX15_step_387 : decode cX15_step 387 = .ok (.iconst 1, 1) := by decide +kernel
theorem dX15_step_388 : decode cX15_step 388 = .ok (.goto 4, 3) := by decide +kernel
theorem dX15_step_392 : decode cX15_step 392 = .ok (.putfield 121, 3) := by decide +kernel
theorem dX15_step_395 : decode cX15_step 395 = .ok (.return_, 1) := by decide +kernel
theorem dX15_step_378 : decode cX15_step 378 = .ok (.aload_n 0, 1) := by decide +kernel
theorem dX15_step_379 : decode cX15_step 379 = .ok (.getfield 106, 3) := by decide +kernel
theorem dX15_step_382 : decode cX15_step 382 = .ok (.bipush 120, 2) := by decide +kernel
theorem dX15_step_384 : decode cX15_step 384 = .ok (.if_icmp .le 7, 3) := by decide +kernel
theorem dX15_step_391 : decode cX15_step 391 = .ok (.iconst 0, 1) := by decide +kernel
theorem dX15_step_362 : decode cX15_step 362 = .ok (.iconst 1, 1) := by decide +kernel
theorem dX15_step_363 : decode cX15_step 363 = .ok (.goto 4, 3) := by decide +kernel
theorem dX15_step_345 : decode cX15_step 345 = .ok (.iconst 2, 1) := by decide +kernel
theorem dX15_step_346 : decode cX15_step 346 = .ok (.goto 4, 3) := by decide +kernel
theorem dX15_step_324 : decode cX15_step 324 = .ok (.iload_n 1, 1) := by decide +kernel
theorem dX15_step_325 : decode cX15_step 325 = .ok (.sipush 256, 3) := by decide +kernel
theorem dX15_step_328 : decode cX15_step 328 = .ok (.iadd, 1) := by decide +kernel
theorem dX15_step_329 : decode cX15_step 329 = .ok (.goto 4, 3) := by decide +kernel
theorem dX15_step_313 : decode cX15_step 313 = .ok (.iconst 1, 1) := by decide +kernel
theorem dX15_step_314 : decode cX15_step 314 = .ok (.goto 4, 3) := by decide +kernel
theorem dX15_step_292 : decode cX15_step 292 = .ok (.iload_n 1, 1) := by decide +kernel
theorem dX15_step_293 : decode cX15_step 293 = .ok (.bipush 62, 2) := by decide +kernel
theorem dX15_step_295 : decode cX15_step 295 = .ok (.if_icmp .ne 22, 3) := by decide +kernel
theorem dX15_step_207 : decode cX15_step 207 = .ok (.aload_n 0, 1) := by decide +kernel
theorem dX15_step_208 : decode cX15_step 208 = .ok (.iconst 2, 1) := by decide +kernel
theorem dX15_step_209 : decode cX15_step 209 = .ok (.putfield 99, 3) := by decide +kernel
theorem dX15_step_212 : decode cX15_step 212 = .ok (.aload_n 0, 1) := by decide +kernel
theorem dX15_step_213 : decode cX15_step 213 = .ok (.aload_n 0, 1) := by decide +kernel
theorem dX15_step_214 : decode cX15_step 214 = .ok (.getfield 93, 3) := by decide +kernel
theorem dX15_step_217 : decode cX15_step 217 = .ok (.invokevirtual 113, 3) := by decide +kernel
theorem dX15_step_220 : decode cX15_step 220 = .ok (.invokestatic 125, 3) := by decide +kernel
theorem dX15_step_223 : decode cX15_step 223 = .ok (.ifCond .eq 37, 3) := by decide +kernel
theorem dX15_step_226 : decode cX15_step 226 = .ok (.aload_n 0, 1) := by decide +kernel
theorem dX15_step_227 : decode cX15_step 227 = .ok (.aload_n 0, 1) := by decide +kernel
theorem dX15_step_228 : decode cX15_step 228 = .ok (.getfield 102, 3) := by decide +kernel
theorem dX15_step_231 : decode cX15_step 231 = .ok (.bipush 8, 2) := by decide +kernel
theorem dX15_step_233 : decode cX15_step 233 = .ok (.lshl, 1) := by decide +kernel
theorem dX15_step_234 : decode cX15_step 234 = .ok (.aload_n 0, 1) := by decide +kernel
theorem dX15_step_235 : decode cX15_step 235 = .ok (.aload_n 0, 1) := by decide +kernel
theorem dX15_step_236 : decode cX15_step 236 = .ok (.getfield 93, 3) := by decide +kernel
theorem dX15_step_239 : decode cX15_step 239 = .ok (.invokevirtual 113, 3) := by decide +kernel
theorem dX15_step_242 : decode cX15_step 242 = .ok (.i2l, 1) := by decide +kernel
theorem dX15_step_243 : decode cX15_step 243 = .ok (.lor, 1) := by decide +kernel
theorem dX15_step_244 : decode cX15_step 244 = .ok (.putfield 102, 3) := by decide +kernel
theorem dX15_step_247 : decode cX15_step 247 = .ok (.aload_n 0, 1) := by decide +kernel
theorem dX15_step_248 : decode cX15_step 248 = .ok (.dup, 1) := by decide +kernel
theorem dX15_step_249 : decode cX15_step 249 = .ok (.getfield 93, 3) := by decide +kernel
theorem dX15_step_252 : decode cX15_step 252 = .ok (.iconst 1, 1) := by decide +kernel
theorem dX15_step_253 : decode cX15_step 253 = .ok (.iadd, 1) := by decide +kernel
theorem dX15_step_254 : decode cX15_step 254 = .ok (.putfield 93, 3) := by decide +kernel
theorem dX15_step_257 : decode cX15_step 257 = .ok (.goto (-45), 3) := by decide +kernel
theorem dX15_step_260 : decode cX15_step 260 = .ok (.aload_n 0, 1) := by decide +kernel
theorem dX15_step_261 : decode cX15_step 261 = .ok (.aload_n 0, 1) := by decide +kernel
theorem dX15_step_262 : decode cX15_step 262 = .ok (.getfield 93, 3) := by decide +kernel
theorem dX15_step_265 : decode cX15_step 265 = .ok (.aload_n 0, 1) := by decide +kernel
theorem dX15_step_266 : decode cX15_step 266 = .ok (.getfield 96, 3) := by decide +kernel
theorem dX15_step_269 : decode cX15_step 269 = .ok (.isub, 1) := by decide +kernel
theorem dX15_step_270 : decode cX15_step 270 = .ok (.bipush 8, 2) := by decide +kernel
theorem dX15_step_272 : decode cX15_step 272 = .ok (.if_icmp .le 7, 3) := by decide +kernel
theorem dX15_step_279 : decode cX15_step 279 = .ok (.iconst 0, 1) := by decide +kernel
theorem dX15_step_280 : decode cX15_step 280 = .ok (.putfield 121, 3) := by decide +kernel
theorem dX15_step_283 : decode cX15_step 283 = .ok (.goto 87, 3) := by decide +kernel
theorem dX15_step_275 : decode cX15_step 275 = .ok (.iconst 1, 1) := by decide +kernel
theorem dX15_step_276 : decode cX15_step 276 = .ok (.goto 4, 3) := by decide +kernel
theorem dX15_step_95 : decode cX15_step 95 = .ok (.aload_n 0, 1) := by decide +kernel
theorem dX15_step_96 : decode cX15_step 96 = .ok (.iconst 1, 1) := by decide +kernel
theorem dX15_step_97 : decode cX15_step 97 = .ok (.putfield 99, 3) := by decide +kernel
theorem dX15_step_100 : decode cX15_step 100 = .ok (.aload_n 0, 1) := by decide +kernel
theorem dX15_step_101 : decode cX15_step 101 = .ok (.aload_n 0, 1) := by decide +kernel
theorem dX15_step_102 : decode cX15_step 102 = .ok (.getfield 93, 3) := by decide +kernel
theorem dX15_step_105 : decode cX15_step 105 = .ok (.invokevirtual 113, 3) := by decide +kernel
theorem dX15_step_108 : decode cX15_step 108 = .ok (.invokestatic 109, 3) := by decide +kernel
theorem dX15_step_111 : decode cX15_step 111 = .ok (.ifCond .eq 63, 3) := by decide +kernel
theorem dX15_step_114 : decode cX15_step 114 = .ok (.aload_n 0, 1) := by decide +kernel
theorem dX15_step_115 : decode cX15_step 115 = .ok (.aload_n 0, 1) := by decide +kernel
theorem dX15_step_116 : decode cX15_step 116 = .ok (.getfield 93, 3) := by decide +kernel
theorem dX15_step_119 : decode cX15_step 119 = .ok (.aload_n 0, 1) := by decide +kernel
theorem dX15_step_120 : decode cX15_step 120 = .ok (.getfield 96, 3) := by decide +kernel
theorem dX15_step_123 : decode cX15_step 123 = .ok (.isub, 1) := by decide +kernel
theorem dX15_step_124 : decode cX15_step 124 = .ok (.bipush 9, 2) := by decide +kernel
theorem dX15_step_126 : decode cX15_step 126 = .ok (.if_icmp .ge 28, 3) := by decide +kernel
theorem dX15_step_154 : decode cX15_step 154 = .ok (.aload_n 0, 1) := by decide +kernel
theorem dX15_step_155 : decode cX15_step 155 = .ok (.getfield 102, 3) := by decide +kernel
theorem dX15_step_158 : decode cX15_step 158 = .ok (.putfield 102, 3) := by decide +kernel
theorem dX15_step_161 : decode cX15_step 161 = .ok (.aload_n 0, 1) := by decide +kernel
theorem dX15_step_162 : decode cX15_step 162 = .ok (.dup, 1) := by decide +kernel
theorem dX15_step_163 : decode cX15_step 163 = .ok (.getfield 93, 3) := by decide +kernel
theorem dX15_step_166 : decode cX15_step 166 = .ok (.iconst 1, 1) := by decide +kernel
theorem dX15_step_167 : decode cX15_step 167 = .ok (.iadd, 1) := by decide +kernel
theorem dX15_step_168 : decode cX15_step 168 = .ok (.putfield 93, 3) := by decide +kernel
theorem dX15_step_171 : decode cX15_step 171 = .ok (.goto (-71), 3) := by decide +kernel
theorem dX15_step_129 : decode cX15_step 129 = .ok (.ldc2_w 117, 3) := by decide +kernel
theorem dX15_step_132 : decode cX15_step 132 = .ok (.aload_n 0, 1) := by decide +kernel
theorem dX15_step_133 : decode cX15_step 133 = .ok (.getfield 102, 3) := by decide +kernel
theorem dX15_step_136 : decode cX15_step 136 = .ok (.lmul, 1) := by decide +kernel
theorem dX15_step_137 : decode cX15_step 137 = .ok (.aload_n 0, 1) := by decide +kernel
theorem dX15_step_138 : decode cX15_step 138 = .ok (.aload_n 0, 1) := by decide +kernel
theorem dX15_step_139 : decode cX15_step 139 = .ok (.getfield 93, 3) := by decide +kernel
theorem dX15_step_142 : decode cX15_step 142 = .ok (.invokevirtual 113, 3) := by decide +kernel
theorem dX15_step_145 : decode cX15_step 145 = .ok (.i2l, 1) := by decide +kernel
theorem dX15_step_146 : decode cX15_step 146 = .ok (.ladd, 1) := by decide +kernel
theorem dX15_step_147 : decode cX15_step 147 = .ok (.ldc2_w 119, 3) := by decide +kernel
theorem dX15_step_150 : decode cX15_step 150 = .ok (.lsub, 1) := by decide +kernel
theorem dX15_step_151 : decode cX15_step 151 = .ok (.goto 7, 3) := by decide +kernel
theorem dX15_step_174 : decode cX15_step 174 = .ok (.aload_n 0, 1) := by decide +kernel
theorem dX15_step_175 : decode cX15_step 175 = .ok (.aload_n 0, 1) := by decide +kernel
theorem dX15_step_176 : decode cX15_step 176 = .ok (.getfield 93, 3) := by decide +kernel
theorem dX15_step_179 : decode cX15_step 179 = .ok (.aload_n 0, 1) := by decide +kernel
theorem dX15_step_180 : decode cX15_step 180 = .ok (.getfield 96, 3) := by decide +kernel
theorem dX15_step_183 : decode cX15_step 183 = .ok (.isub, 1) := by decide +kernel
theorem dX15_step_184 : decode cX15_step 184 = .ok (.bipush 9, 2) := by decide +kernel
theorem dX15_step_186 : decode cX15_step 186 = .ok (.if_icmp .le 7, 3) := by decide +kernel
theorem dX15_step_193 : decode cX15_step 193 = .ok (.iconst 0, 1) := by decide +kernel
theorem dX15_step_194 : decode cX15_step 194 = .ok (.putfield 121, 3) := by decide +kernel
theorem dX15_step_197 : decode cX15_step 197 = .ok (.goto 173, 3) := by decide +kernel
theorem dX15_step_189 : decode cX15_step 189 = .ok (.iconst 1, 1) := by decide +kernel
theorem dX15_step_190 : decode cX15_step 190 = .ok (.goto 4, 3) := by decide +kernel
theorem dX15_step_67 : decode cX15_step 67 = .ok (.return_, 1) := by decide +kernel
theorem dX15_take_0 : decode cX15_take 0 = .ok (.aload_n 0, 1) := by decide +kernel
theorem dX15_take_1 : decode cX15_take 1 = .ok (.aload_n 0, 1) := by decide +kernel
theorem dX15_take_2 : decode cX15_take 2 = .ok (.getfield 121, 3) := by decide +kernel
theorem dX15_take_5 : decode cX15_take 5 = .ok (.ifCond .ne 7, 3) := by decide +kernel
theorem dX15_take_12 : decode cX15_take 12 = .ok (.iconst 1, 1) := by decide +kernel
theorem dX15_take_13 : decode cX15_take 13 = .ok (.goto 4, 3) := by decide +kernel
theorem dX15_take_17 : decode cX15_take 17 = .ok (.putfield 121, 3) := by decide +kernel
theorem dX15_take_20 : decode cX15_take 20 = .ok (.aload_n 0, 1) := by decide +kernel
theorem dX15_take_21 : decode cX15_take 21 = .ok (.getfield 121, 3) := by decide +kernel
theorem dX15_take_24 : decode cX15_take 24 = .ok (.ifCond .ne 7, 3) := by decide +kernel
theorem dX15_take_31 : decode cX15_take 31 = .ok (.return_, 1) := by decide +kernel
theorem dX15_take_27 : decode cX15_take 27 = .ok (.aload_n 0, 1) := by decide +kernel
theorem dX15_take_28 : decode cX15_take 28 = .ok (.invokevirtual 131, 3) := by decide +kernel
theorem dX15_take_8 : decode cX15_take 8 = .ok (.iload_n 1, 1) := by decide +kernel
theorem dX15_take_9 : decode cX15_take 9 = .ok (.ifCond .ne 7, 3) := by decide +kernel
theorem dX15_take_16 : decode cX15_take 16 = .ok (.iconst 0, 1) := by decide +kernel
theorem dX15_emit_0 : decode cX15_emit 0 = .ok (.aload_n 0, 1) := by decide +kernel
theorem dX15_emit_1 : decode cX15_emit 1 = .ok (.getfield 44, 3) := by decide +kernel
theorem dX15_emit_4 : decode cX15_emit 4 = .ok (.sipush 400, 3) := by decide +kernel
theorem dX15_emit_7 : decode cX15_emit 7 = .ok (.aload_n 0, 1) := by decide +kernel
theorem dX15_emit_8 : decode cX15_emit 8 = .ok (.getfield 134, 3) := by decide +kernel
theorem dX15_emit_11 : decode cX15_emit 11 = .ok (.iadd, 1) := by decide +kernel
theorem dX15_emit_12 : decode cX15_emit 12 = .ok (.iload_n 1, 1) := by decide +kernel
theorem dX15_emit_13 : decode cX15_emit 13 = .ok (.iastore, 1) := by decide +kernel
theorem dX15_emit_14 : decode cX15_emit 14 = .ok (.aload_n 0, 1) := by decide +kernel
theorem dX15_emit_15 : decode cX15_emit 15 = .ok (.getfield 47, 3) := by decide +kernel
theorem dX15_emit_18 : decode cX15_emit 18 = .ok (.sipush 400, 3) := by decide +kernel
theorem dX15_emit_21 : decode cX15_emit 21 = .ok (.aload_n 0, 1) := by decide +kernel
theorem dX15_emit_22 : decode cX15_emit 22 = .ok (.getfield 134, 3) := by decide +kernel
theorem dX15_emit_25 : decode cX15_emit 25 = .ok (.iadd, 1) := by decide +kernel
theorem dX15_emit_26 : decode cX15_emit 26 = .ok (.lload_n 2, 1) := by decide +kernel
theorem dX15_emit_27 : decode cX15_emit 27 = .ok (.lastore, 1) := by decide +kernel
theorem dX15_emit_28 : decode cX15_emit 28 = .ok (.aload_n 0, 1) := by decide +kernel
theorem dX15_emit_29 : decode cX15_emit 29 = .ok (.dup, 1) := by decide +kernel
theorem dX15_emit_30 : decode cX15_emit 30 = .ok (.getfield 134, 3) := by decide +kernel
theorem dX15_emit_33 : decode cX15_emit 33 = .ok (.iconst 1, 1) := by decide +kernel
theorem dX15_emit_34 : decode cX15_emit 34 = .ok (.iadd, 1) := by decide +kernel
theorem dX15_emit_35 : decode cX15_emit 35 = .ok (.putfield 134, 3) := by decide +kernel
theorem dX15_emit_38 : decode cX15_emit 38 = .ok (.return_, 1) := by decide +kernel
theorem dX15_unpile_0 : decode cX15_unpile 0 = .ok (.aload_n 0, 1) := by decide +kernel
theorem dX15_unpile_1 : decode cX15_unpile 1 = .ok (.getfield 137, 3) := by decide +kernel
theorem dX15_unpile_4 : decode cX15_unpile 4 = .ok (.ifCond .le 65, 3) := by decide +kernel
theorem dX15_unpile_7 : decode cX15_unpile 7 = .ok (.aload_n 0, 1) := by decide +kernel
theorem dX15_unpile_8 : decode cX15_unpile 8 = .ok (.getfield 75, 3) := by decide +kernel
theorem dX15_unpile_11 : decode cX15_unpile 11 = .ok (.aload_n 0, 1) := by decide +kernel
theorem dX15_unpile_12 : decode cX15_unpile 12 = .ok (.getfield 137, 3) := by decide +kernel
theorem dX15_unpile_15 : decode cX15_unpile 15 = .ok (.iconst 1, 1) := by decide +kernel
theorem dX15_unpile_16 : decode cX15_unpile 16 = .ok (.isub, 1) := by decide +kernel
theorem dX15_unpile_17 : decode cX15_unpile 17 = .ok (.iaload, 1) := by decide +kernel
theorem dX15_unpile_18 : decode cX15_unpile 18 = .ok (.iconst 1, 1) := by decide +kernel
theorem dX15_unpile_19 : decode cX15_unpile 19 = .ok (.if_icmp .le 50, 3) := by decide +kernel
theorem dX15_unpile_22 : decode cX15_unpile 22 = .ok (.aload_n 0, 1) := by decide +kernel
theorem dX15_unpile_23 : decode cX15_unpile 23 = .ok (.getfield 75, 3) := by decide +kernel
theorem dX15_unpile_26 : decode cX15_unpile 26 = .ok (.aload_n 0, 1) := by decide +kernel
theorem dX15_unpile_27 : decode cX15_unpile 27 = .ok (.getfield 137, 3) := by decide +kernel
theorem dX15_unpile_30 : decode cX15_unpile 30 = .ok (.iconst 1, 1) := by decide +kernel
theorem dX15_unpile_31 : decode cX15_unpile 31 = .ok (.isub, 1) := by decide +kernel
theorem dX15_unpile_32 : decode cX15_unpile 32 = .ok (.iaload, 1) := by decide +kernel
theorem dX15_unpile_33 : decode cX15_unpile 33 = .ok (.iconst 3, 1) := by decide +kernel
theorem dX15_unpile_34 : decode cX15_unpile 34 = .ok (.if_icmp .gt 8, 3) := by decide +kernel
theorem dX15_unpile_42 : decode cX15_unpile 42 = .ok (.aload_n 0, 1) := by decide +kernel
theorem dX15_unpile_43 : decode cX15_unpile 43 = .ok (.dup, 1) := by decide +kernel
theorem dX15_unpile_44 : decode cX15_unpile 44 = .ok (.getfield 137, 3) := by decide +kernel
theorem dX15_unpile_47 : decode cX15_unpile 47 = .ok (.iconst 1, 1) := by decide +kernel
theorem dX15_unpile_48 : decode cX15_unpile 48 = .ok (.isub, 1) := by decide +kernel
theorem dX15_unpile_49 : decode cX15_unpile 49 = .ok (.putfield 137, 3) := by decide +kernel
theorem dX15_unpile_52 : decode cX15_unpile 52 = .ok (.aload_n 0, 1) := by decide +kernel
theorem dX15_unpile_53 : decode cX15_unpile 53 = .ok (.aload_n 0, 1) := by decide +kernel
theorem dX15_unpile_54 : decode cX15_unpile 54 = .ok (.getfield 75, 3) := by decide +kernel
theorem dX15_unpile_57 : decode cX15_unpile 57 = .ok (.aload_n 0, 1) := by decide +kernel
theorem dX15_unpile_58 : decode cX15_unpile 58 = .ok (.getfield 137, 3) := by decide +kernel
theorem dX15_unpile_61 : decode cX15_unpile 61 = .ok (.iaload, 1) := by decide +kernel
theorem dX15_unpile_62 : decode cX15_unpile 62 = .ok (.lconst 0, 1) := by decide +kernel
theorem dX15_unpile_63 : decode cX15_unpile 63 = .ok (.invokevirtual 140, 3) := by decide +kernel
theorem dX15_unpile_66 : decode cX15_unpile 66 = .ok (.goto (-66), 3) := by decide +kernel
theorem dX15_unpile_37 : decode cX15_unpile 37 = .ok (.iload_n 1, 1) := by decide +kernel
theorem dX15_unpile_38 : decode cX15_unpile 38 = .ok (.iconst 2, 1) := by decide +kernel
theorem dX15_unpile_39 : decode cX15_unpile 39 = .ok (.if_icmp .ge 30, 3) := by decide +kernel
theorem dX15_unpile_69 : decode cX15_unpile 69 = .ok (.return_, 1) := by decide +kernel
theorem dX15_operation_0 : decode cX15_operation 0 = .ok (.iload_n 0, 1) := by decide +kernel
theorem dX15_operation_1 : decode cX15_operation 1 = .ok (.bipush 43, 2) := by decide +kernel
theorem dX15_operation_3 : decode cX15_operation 3 = .ok (.if_icmp .ne 7, 3) := by decide +kernel
theorem dX15_operation_10 : decode cX15_operation 10 = .ok (.iload_n 0, 1) := by decide +kernel
theorem dX15_operation_11 : decode cX15_operation 11 = .ok (.bipush 45, 2) := by decide +kernel
theorem dX15_operation_13 : decode cX15_operation 13 = .ok (.if_icmp .ne 7, 3) := by decide +kernel
theorem dX15_operation_20 : decode cX15_operation 20 = .ok (.iload_n 0, 1) := by decide +kernel
theorem dX15_operation_21 : decode cX15_operation 21 = .ok (.bipush 42, 2) := by decide +kernel
theorem dX15_operation_23 : decode cX15_operation 23 = .ok (.if_icmp .ne 7, 3) := by decide +kernel
theorem dX15_operation_30 : decode cX15_operation 30 = .ok (.iload_n 0, 1) := by decide +kernel
theorem dX15_operation_31 : decode cX15_operation 31 = .ok (.bipush 47, 2) := by decide +kernel
theorem dX15_operation_33 : decode cX15_operation 33 = .ok (.if_icmp .ne 7, 3) := by decide +kernel
theorem dX15_operation_40 : decode cX15_operation 40 = .ok (.iconst 0, 1) := by decide +kernel
theorem dX15_operation_41 : decode cX15_operation 41 = .ok (.ireturn, 1) := by decide +kernel
theorem dX15_operation_36 : decode cX15_operation 36 = .ok (.iconst 5, 1) := by decide +kernel
theorem dX15_operation_37 : decode cX15_operation 37 = .ok (.goto 4, 3) := by decide +kernel
theorem dX15_operation_26 : decode cX15_operation 26 = .ok (.iconst 4, 1) := by decide +kernel
theorem dX15_operation_27 : decode cX15_operation 27 = .ok (.goto 14, 3) := by decide +kernel
theorem dX15_operation_16 : decode cX15_operation 16 = .ok (.iconst 3, 1) := by decide +kernel
theorem dX15_operation_17 : decode cX15_operation 17 = .ok (.goto 24, 3) := by decide +kernel
theorem dX15_operation_6 : decode cX15_operation 6 = .ok (.iconst 2, 1) := by decide +kernel
theorem dX15_operation_7 : decode cX15_operation 7 = .ok (.goto 34, 3) := by decide +kernel
theorem dX15_side_0 : decode cX15_side 0 = .ok (.iconst 0, 1) := by decide +kernel
theorem dX15_side_1 : decode cX15_side 1 = .ok (.istore_n 1, 1) := by decide +kernel
theorem dX15_side_2 : decode cX15_side 2 = .ok (.iconst 1, 1) := by decide +kernel
theorem dX15_side_3 : decode cX15_side 3 = .ok (.istore_n 2, 1) := by decide +kernel
theorem dX15_side_4 : decode cX15_side 4 = .ok (.iconst 1, 1) := by decide +kernel
theorem dX15_side_5 : decode cX15_side 5 = .ok (.istore_n 3, 1) := by decide +kernel
theorem dX15_side_6 : decode cX15_side 6 = .ok (.iconst 1, 1) := by decide +kernel
theorem dX15_side_7 : decode cX15_side 7 = .ok (.istore 4, 2) := by decide +kernel
theorem dX15_side_9 : decode cX15_side 9 = .ok (.aload_n 0, 1) := by decide +kernel
theorem dX15_side_10 : decode cX15_side 10 = .ok (.iconst 0, 1) := by decide +kernel
theorem dX15_side_11 : decode cX15_side 11 = .ok (.putfield 137, 3) := by decide +kernel
theorem dX15_side_14 : decode cX15_side 14 = .ok (.iload 4, 2) := by decide +kernel
theorem dX15_side_16 : decode cX15_side 16 = .ok (.ifCond .eq 299, 3) := by decide +kernel
theorem dX15_side_19 : decode cX15_side 19 = .ok (.aload_n 0, 1) := by decide +kernel
theorem dX15_side_20 : decode cX15_side 20 = .ok (.getfield 121, 3) := by decide +kernel
theorem dX15_side_23 : decode cX15_side 23 = .ok (.ifCond .ne 292, 3) := by decide +kernel
theorem dX15_side_26 : decode cX15_side 26 = .ok (.aload_n 0, 1) := by decide +kernel
theorem dX15_side_27 : decode cX15_side 27 = .ok (.getfield 99, 3) := by decide +kernel
theorem dX15_side_30 : decode cX15_side 30 = .ok (.invokestatic 144, 3) := by decide +kernel
theorem dX15_side_33 : decode cX15_side 33 = .ok (.istore 5, 2) := by decide +kernel
theorem dX15_side_35 : decode cX15_side 35 = .ok (.iload_n 3, 1) := by decide +kernel
theorem dX15_side_36 : decode cX15_side 36 = .ok (.ifCond .eq 52, 3) := by decide +kernel
theorem dX15_side_88 : decode cX15_side 88 = .ok (.iload_n 3, 1) := by decide +kernel
theorem dX15_side_89 : decode cX15_side 89 = .ok (.ifCond .eq 60, 3) := by decide +kernel
theorem dX15_side_149 : decode cX15_side 149 = .ok (.iload_n 3, 1) := by decide +kernel
theorem dX15_side_150 : decode cX15_side 150 = .ok (.ifCond .eq 54, 3) := by decide +kernel
theorem dX15_side_204 : decode cX15_side 204 = .ok (.iload 5, 2) := by decide +kernel
theorem dX15_side_206 : decode cX15_side 206 = .ok (.ifCond .le 51, 3) := by decide +kernel
theorem dX15_side_257 : decode cX15_side 257 = .ok (.aload_n 0, 1) := by decide +kernel
theorem dX15_side_258 : decode cX15_side 258 = .ok (.getfield 99, 3) := by decide +kernel
theorem dX15_side_261 : decode cX15_side 261 = .ok (.bipush 41, 2) := by decide +kernel
theorem dX15_side_263 : decode cX15_side 263 = .ok (.if_icmp .ne 33, 3) := by decide +kernel
theorem dX15_side_296 : decode cX15_side 296 = .ok (.aload_n 0, 1) := by decide +kernel
theorem dX15_side_297 : decode cX15_side 297 = .ok (.iload_n 1, 1) := by decide +kernel
theorem dX15_side_298 : decode cX15_side 298 = .ok (.ifCond .le 7, 3) := by decide +kernel
theorem dX15_side_305 : decode cX15_side 305 = .ok (.iconst 0, 1) := by decide +kernel
theorem dX15_side_306 : decode cX15_side 306 = .ok (.putfield 121, 3) := by decide +kernel
theorem dX15_side_309 : decode cX15_side 309 = .ok (.iconst 0, 1) := by decide +kernel
theorem dX15_side_310 : decode cX15_side 310 = .ok (.istore 4, 2) := by decide +kernel
theorem dX15_side_312 : decode cX15_side 312 = .ok (.goto (-298), 3) := by decide +kernel
theorem dX15_side_301 : decode cX15_side 301 = .ok (.iconst 1, 1) := by decide +kernel
theorem dX15_side_302 : decode cX15_side 302 = .ok (.goto 4, 3) := by decide +kernel
theorem dX15_side_266 : decode cX15_side 266 = .ok (.iload_n 1, 1) := by decide +kernel
theorem dX15_side_267 : decode cX15_side 267 = .ok (.ifCond .le 29, 3) := by decide +kernel
theorem dX15_side_270 : decode cX15_side 270 = .ok (.aload_n 0, 1) := by decide +kernel
theorem dX15_side_271 : decode cX15_side 271 = .ok (.iconst 1, 1) := by decide +kernel
theorem dX15_side_272 : decode cX15_side 272 = .ok (.invokevirtual 151, 3) := by decide +kernel
theorem dX15_side_275 : decode cX15_side 275 = .ok (.aload_n 0, 1) := by decide +kernel
theorem dX15_side_276 : decode cX15_side 276 = .ok (.dup, 1) := by decide +kernel
theorem dX15_side_277 : decode cX15_side 277 = .ok (.getfield 137, 3) := by decide +kernel
theorem dX15_side_280 : decode cX15_side 280 = .ok (.iconst 1, 1) := by decide +kernel
theorem dX15_side_281 : decode cX15_side 281 = .ok (.isub, 1) := by decide +kernel
theorem dX15_side_282 : decode cX15_side 282 = .ok (.putfield 137, 3) := by decide +kernel
theorem dX15_side_285 : decode cX15_side 285 = .ok (.iinc 1 (-1), 3) := by decide +kernel
theorem dX15_side_288 : decode cX15_side 288 = .ok (.aload_n 0, 1) := by decide +kernel
theorem dX15_side_289 : decode cX15_side 289 = .ok (.iconst 1, 1) := by decide +kernel
theorem dX15_side_290 : decode cX15_side 290 = .ok (.invokevirtual 147, 3) := by decide +kernel
theorem dX15_side_293 : decode cX15_side 293 = .ok (.goto 19, 3) := by decide +kernel
theorem dX15_side_209 : decode cX15_side 209 = .ok (.aload_n 0, 1) := by decide +kernel
theorem dX15_side_210 : decode cX15_side 210 = .ok (.iload 5, 2) := by decide +kernel
theorem dX15_side_212 : decode cX15_side 212 = .ok (.iconst 3, 1) := by decide +kernel
theorem dX15_side_213 : decode cX15_side 213 = .ok (.if_icmp .le 7, 3) := by decide +kernel
theorem dX15_side_220 : decode cX15_side 220 = .ok (.iconst 1, 1) := by decide +kernel
theorem dX15_side_221 : decode cX15_side 221 = .ok (.invokevirtual 151, 3) := by decide +kernel
theorem dX15_side_224 : decode cX15_side 224 = .ok (.aload_n 0, 1) := by decide +kernel
theorem dX15_side_225 : decode cX15_side 225 = .ok (.getfield 75, 3) := by decide +kernel
theorem dX15_side_228 : decode cX15_side 228 = .ok (.aload_n 0, 1) := by decide +kernel
theorem dX15_side_229 : decode cX15_side 229 = .ok (.getfield 137, 3) := by decide +kernel
theorem dX15_side_232 : decode cX15_side 232 = .ok (.iload 5, 2) := by decide +kernel
theorem dX15_side_234 : decode cX15_side 234 = .ok (.iastore, 1) := by decide +kernel
theorem dX15_side_235 : decode cX15_side 235 = .ok (.aload_n 0, 1) := by decide +kernel
theorem dX15_side_236 : decode cX15_side 236 = .ok (.dup, 1) := by decide +kernel
theorem dX15_side_237 : decode cX15_side 237 = .ok (.getfield 137, 3) := by decide +kernel
theorem dX15_side_240 : decode cX15_side 240 = .ok (.iconst 1, 1) := by decide +kernel
theorem dX15_side_241 : decode cX15_side 241 = .ok (.iadd, 1) := by decide +kernel
theorem dX15_side_242 : decode cX15_side 242 = .ok (.putfield 137, 3) := by decide +kernel
theorem dX15_side_245 : decode cX15_side 245 = .ok (.iconst 1, 1) := by decide +kernel
theorem dX15_side_246 : decode cX15_side 246 = .ok (.istore_n 3, 1) := by decide +kernel
theorem dX15_side_247 : decode cX15_side 247 = .ok (.iconst 0, 1) := by decide +kernel
theorem dX15_side_248 : decode cX15_side 248 = .ok (.istore_n 2, 1) := by decide +kernel
theorem dX15_side_249 : decode cX15_side 249 = .ok (.aload_n 0, 1) := by decide +kernel
theorem dX15_side_250 : decode cX15_side 250 = .ok (.iconst 1, 1) := by decide +kernel
theorem dX15_side_251 : decode cX15_side 251 = .ok (.invokevirtual 147, 3) := by decide +kernel
theorem dX15_side_254 : decode cX15_side 254 = .ok (.goto 58, 3) := by decide +kernel
theorem dX15_side_216 : decode cX15_side 216 = .ok (.iconst 2, 1) := by decide +kernel
theorem dX15_side_217 : decode cX15_side 217 = .ok (.goto 4, 3) := by decide +kernel
theorem dX15_side_153 : decode cX15_side 153 = .ok (.aload_n 0, 1) := by decide +kernel
theorem dX15_side_154 : decode cX15_side 154 = .ok (.aload_n 0, 1) := by decide +kernel
theorem dX15_side_155 : decode cX15_side 155 = .ok (.getfield 99, 3) := by decide +kernel
theorem dX15_side_158 : decode cX15_side 158 = .ok (.iconst 1, 1) := by decide +kernel
theorem dX15_side_159 : decode cX15_side 159 = .ok (.if_icmp .ne 7, 3) := by decide +kernel
theorem dX15_side_166 : decode cX15_side 166 = .ok (.iconst 1, 1) := by decide +kernel
theorem dX15_side_167 : decode cX15_side 167 = .ok (.aload_n 0, 1) := by decide +kernel
theorem dX15_side_168 : decode cX15_side 168 = .ok (.getfield 102, 3) := by decide +kernel
theorem dX15_side_171 : decode cX15_side 171 = .ok (.invokevirtual 140, 3) := by decide +kernel
theorem dX15_side_174 : decode cX15_side 174 = .ok (.iconst 0, 1) := by decide +kernel
theorem dX15_side_175 : decode cX15_side 175 = .ok (.istore_n 3, 1) := by decide +kernel
theorem dX15_side_176 : decode cX15_side 176 = .ok (.aload_n 0, 1) := by decide +kernel
theorem dX15_side_177 : decode cX15_side 177 = .ok (.aload_n 0, 1) := by decide +kernel
theorem dX15_side_178 : decode cX15_side 178 = .ok (.getfield 99, 3) := by decide +kernel
theorem dX15_side_181 : decode cX15_side 181 = .ok (.iconst 1, 1) := by decide +kernel
theorem dX15_side_182 : decode cX15_side 182 = .ok (.if_icmp .eq 11, 3) := by decide +kernel
theorem dX15_side_193 : decode cX15_side 193 = .ok (.iconst 1, 1) := by decide +kernel
theorem dX15_side_194 : decode cX15_side 194 = .ok (.goto 4, 3) := by decide +kernel
theorem dX15_side_198 : decode cX15_side 198 = .ok (.invokevirtual 147, 3) := by decide +kernel
theorem dX15_side_201 : decode cX15_side 201 = .ok (.goto 111, 3) := by decide +kernel
theorem dX15_side_185 : decode cX15_side 185 = .ok (.aload_n 0, 1) := by decide +kernel
theorem dX15_side_186 : decode cX15_side 186 = .ok (.getfield 99, 3) := by decide +kernel
theorem dX15_side_189 : decode cX15_side 189 = .ok (.iconst 2, 1) := by decide +kernel
theorem dX15_side_190 : decode cX15_side 190 = .ok (.if_icmp .ne 7, 3) := by decide +kernel
theorem dX15_side_197 : decode cX15_side 197 = .ok (.iconst 0, 1) := by decide +kernel
theorem dX15_side_162 : decode cX15_side 162 = .ok (.iconst 0, 1) := by decide +kernel
theorem dX15_side_163 : decode cX15_side 163 = .ok (.goto 4, 3) := by decide +kernel
theorem dX15_side_92 : decode cX15_side 92 = .ok (.aload_n 0, 1) := by decide +kernel
theorem dX15_side_93 : decode cX15_side 93 = .ok (.getfield 99, 3) := by decide +kernel
theorem dX15_side_96 : decode cX15_side 96 = .ok (.bipush 40, 2) := by decide +kernel
theorem dX15_side_98 : decode cX15_side 98 = .ok (.if_icmp .ne 51, 3) := by decide +kernel
theorem dX15_side_101 : decode cX15_side 101 = .ok (.aload_n 0, 1) := by decide +kernel
theorem dX15_side_102 : decode cX15_side 102 = .ok (.iload_n 1, 1) := by decide +kernel
theorem dX15_side_103 : decode cX15_side 103 = .ok (.bipush 8, 2) := by decide +kernel
theorem dX15_side_105 : decode cX15_side 105 = .ok (.if_icmp .ne 7, 3) := by decide +kernel
theorem dX15_side_112 : decode cX15_side 112 = .ok (.iconst 0, 1) := by decide +kernel
theorem dX15_side_113 : decode cX15_side 113 = .ok (.putfield 121, 3) := by decide +kernel
theorem dX15_side_116 : decode cX15_side 116 = .ok (.iinc 1 1, 3) := by decide +kernel
theorem dX15_side_119 : decode cX15_side 119 = .ok (.aload_n 0, 1) := by decide +kernel
theorem dX15_side_120 : decode cX15_side 120 = .ok (.getfield 75, 3) := by decide +kernel
theorem dX15_side_123 : decode cX15_side 123 = .ok (.aload_n 0, 1) := by decide +kernel
theorem dX15_side_124 : decode cX15_side 124 = .ok (.getfield 137, 3) := by decide +kernel
theorem dX15_side_127 : decode cX15_side 127 = .ok (.iconst 1, 1) := by decide +kernel
theorem dX15_side_128 : decode cX15_side 128 = .ok (.iastore, 1) := by decide +kernel
theorem dX15_side_129 : decode cX15_side 129 = .ok (.aload_n 0, 1) := by decide +kernel
theorem dX15_side_130 : decode cX15_side 130 = .ok (.dup, 1) := by decide +kernel
theorem dX15_side_131 : decode cX15_side 131 = .ok (.getfield 137, 3) := by decide +kernel
theorem dX15_side_134 : decode cX15_side 134 = .ok (.iconst 1, 1) := by decide +kernel
theorem dX15_side_135 : decode cX15_side 135 = .ok (.iadd, 1) := by decide +kernel
theorem dX15_side_136 : decode cX15_side 136 = .ok (.putfield 137, 3) := by decide +kernel
theorem dX15_side_139 : decode cX15_side 139 = .ok (.iconst 1, 1) := by decide +kernel
theorem dX15_side_140 : decode cX15_side 140 = .ok (.istore_n 2, 1) := by decide +kernel
theorem dX15_side_141 : decode cX15_side 141 = .ok (.aload_n 0, 1) := by decide +kernel
theorem dX15_side_142 : decode cX15_side 142 = .ok (.iconst 1, 1) := by decide +kernel
theorem dX15_side_143 : decode cX15_side 143 = .ok (.invokevirtual 147, 3) := by decide +kernel
theorem dX15_side_146 : decode cX15_side 146 = .ok (.goto 166, 3) := by decide +kernel
theorem dX15_side_108 : decode cX15_side 108 = .ok (.iconst 1, 1) := by decide +kernel
theorem dX15_side_109 : decode cX15_side 109 = .ok (.goto 4, 3) := by decide +kernel
theorem dX15_side_39 : decode cX15_side 39 = .ok (.iload_n 2, 1) := by decide +kernel
theorem dX15_side_40 : decode cX15_side 40 = .ok (.ifCond .eq 48, 3) := by decide +kernel
theorem dX15_side_43 : decode cX15_side 43 = .ok (.aload_n 0, 1) := by decide +kernel
theorem dX15_side_44 : decode cX15_side 44 = .ok (.getfield 99, 3) := by decide +kernel
theorem dX15_side_47 : decode cX15_side 47 = .ok (.bipush 45, 2) := by decide +kernel
theorem dX15_side_49 : decode cX15_side 49 = .ok (.if_icmp .ne 39, 3) := by decide +kernel
theorem dX15_side_52 : decode cX15_side 52 = .ok (.aload_n 0, 1) := by decide +kernel
theorem dX15_side_53 : decode cX15_side 53 = .ok (.iconst 0, 1) := by decide +kernel
theorem dX15_side_54 : decode cX15_side 54 = .ok (.lconst 0, 1) := by decide +kernel
theorem dX15_side_55 : decode cX15_side 55 = .ok (.invokevirtual 140, 3) := by decide +kernel
theorem dX15_side_58 : decode cX15_side 58 = .ok (.aload_n 0, 1) := by decide +kernel
theorem dX15_side_59 : decode cX15_side 59 = .ok (.getfield 75, 3) := by decide +kernel
theorem dX15_side_62 : decode cX15_side 62 = .ok (.aload_n 0, 1) := by decide +kernel
theorem dX15_side_63 : decode cX15_side 63 = .ok (.getfield 137, 3) := by decide +kernel
theorem dX15_side_66 : decode cX15_side 66 = .ok (.iconst 3, 1) := by decide +kernel
theorem dX15_side_67 : decode cX15_side 67 = .ok (.iastore, 1) := by decide +kernel
theorem dX15_side_68 : decode cX15_side 68 = .ok (.aload_n 0, 1) := by decide +kernel
theorem dX15_side_69 : decode cX15_side 69 = .ok (.dup, 1) := by decide +kernel
theorem dX15_side_70 : decode cX15_side 70 = .ok (.getfield 137, 3) := by decide +kernel
theorem dX15_side_73 : decode cX15_side 73 = .ok (.iconst 1, 1) := by decide +kernel
theorem dX15_side_74 : decode cX15_side 74 = .ok (.iadd, 1) := by decide +kernel
theorem dX15_side_75 : decode cX15_side 75 = .ok (.putfield 137, 3) := by decide +kernel
theorem dX15_side_78 : decode cX15_side 78 = .ok (.iconst 0, 1) := by decide +kernel
theorem dX15_side_79 : decode cX15_side 79 = .ok (.istore_n 2, 1) := by decide +kernel
theorem dX15_side_80 : decode cX15_side 80 = .ok (.aload_n 0, 1) := by decide +kernel
theorem dX15_side_81 : decode cX15_side 81 = .ok (.iconst 1, 1) := by decide +kernel
theorem dX15_side_82 : decode cX15_side 82 = .ok (.invokevirtual 147, 3) := by decide +kernel
theorem dX15_side_85 : decode cX15_side 85 = .ok (.goto 227, 3) := by decide +kernel
theorem dX15_side_315 : decode cX15_side 315 = .ok (.aload_n 0, 1) := by decide +kernel
theorem dX15_side_316 : decode cX15_side 316 = .ok (.iconst 1, 1) := by decide +kernel
theorem dX15_side_317 : decode cX15_side 317 = .ok (.invokevirtual 151, 3) := by decide +kernel
theorem dX15_side_320 : decode cX15_side 320 = .ok (.return_, 1) := by decide +kernel
theorem dX15_relation_0 : decode cX15_relation 0 = .ok (.iload_n 0, 1) := by decide +kernel
theorem dX15_relation_1 : decode cX15_relation 1 = .ok (.bipush 60, 2) := by decide +kernel
theorem dX15_relation_3 : decode cX15_relation 3 = .ok (.if_icmp .ne 7, 3) := by decide +kernel
theorem dX15_relation_10 : decode cX15_relation 10 = .ok (.iload_n 0, 1) := by decide +kernel
theorem dX15_relation_11 : decode cX15_relation 11 = .ok (.sipush 316, 3) := by decide +kernel
theorem dX15_relation_14 : decode cX15_relation 14 = .ok (.if_icmp .ne 7, 3) := by decide +kernel
theorem dX15_relation_21 : decode cX15_relation 21 = .ok (.iload_n 0, 1) := by decide +kernel
theorem dX15_relation_22 : decode cX15_relation 22 = .ok (.bipush 61, 2) := by decide +kernel
theorem dX15_relation_24 : decode cX15_relation 24 = .ok (.if_icmp .ne 7, 3) := by decide +kernel
theorem dX15_relation_31 : decode cX15_relation 31 = .ok (.iload_n 0, 1) := by decide +kernel
theorem dX15_relation_32 : decode cX15_relation 32 = .ok (.sipush 318, 3) := by decide +kernel
theorem dX15_relation_35 : decode cX15_relation 35 = .ok (.if_icmp .ne 7, 3) := by decide +kernel
theorem dX15_relation_42 : decode cX15_relation 42 = .ok (.iload_n 0, 1) := by decide +kernel
theorem dX15_relation_43 : decode cX15_relation 43 = .ok (.bipush 62, 2) := by decide +kernel
theorem dX15_relation_45 : decode cX15_relation 45 = .ok (.if_icmp .ne 7, 3) := by decide +kernel
theorem dX15_relation_52 : decode cX15_relation 52 = .ok (.iconst (-1), 1) := by decide +kernel
theorem dX15_relation_53 : decode cX15_relation 53 = .ok (.ireturn, 1) := by decide +kernel
theorem dX15_relation_48 : decode cX15_relation 48 = .ok (.iconst 4, 1) := by decide +kernel
theorem dX15_relation_49 : decode cX15_relation 49 = .ok (.goto 4, 3) := by decide +kernel
theorem dX15_relation_38 : decode cX15_relation 38 = .ok (.iconst 3, 1) := by decide +kernel
theorem dX15_relation_39 : decode cX15_relation 39 = .ok (.goto 14, 3) := by decide +kernel
theorem dX15_relation_27 : decode cX15_relation 27 = .ok (.iconst 2, 1) := by decide +kernel
theorem dX15_relation_28 : decode cX15_relation 28 = .ok (.goto 25, 3) := by decide +kernel
theorem dX15_relation_17 : decode cX15_relation 17 = .ok (.iconst 1, 1) := by decide +kernel
theorem dX15_relation_18 : decode cX15_relation 18 = .ok (.goto 35, 3) := by decide +kernel
theorem dX15_relation_6 : decode cX15_relation 6 = .ok (.iconst 0, 1) := by decide +kernel
theorem dX15_relation_7 : decode cX15_relation 7 = .ok (.goto 46, 3) := by decide +kernel
theorem dX15_clause_0 : decode cX15_clause 0 = .ok (.bipush 60, 2) := by decide +kernel
theorem dX15_clause_2 : decode cX15_clause 2 = .ok (.aload_n 0, 1) := by decide +kernel
theorem dX15_clause_3 : decode cX15_clause 3 = .ok (.getfield 155, 3) := by decide +kernel
theorem dX15_clause_6 : decode cX15_clause 6 = .ok (.iadd, 1) := by decide +kernel
theorem dX15_clause_7 : decode cX15_clause 7 = .ok (.istore_n 1, 1) := by decide +kernel
theorem dX15_clause_8 : decode cX15_clause 8 = .ok (.aload_n 0, 1) := by decide +kernel
theorem dX15_clause_9 : decode cX15_clause 9 = .ok (.dup, 1) := by decide +kernel
theorem dX15_clause_10 : decode cX15_clause 10 = .ok (.getfield 155, 3) := by decide +kernel
theorem dX15_clause_13 : decode cX15_clause 13 = .ok (.iconst 1, 1) := by decide +kernel
theorem dX15_clause_14 : decode cX15_clause 14 = .ok (.iadd, 1) := by decide +kernel
theorem dX15_clause_15 : decode cX15_clause 15 = .ok (.putfield 155, 3) := by decide +kernel
theorem dX15_clause_18 : decode cX15_clause 18 = .ok (.aload_n 0, 1) := by decide +kernel
theorem dX15_clause_19 : decode cX15_clause 19 = .ok (.getfield 32, 3) := by decide +kernel
theorem dX15_clause_22 : decode cX15_clause 22 = .ok (.iload_n 1, 1) := by decide +kernel
theorem dX15_clause_23 : decode cX15_clause 23 = .ok (.aload_n 0, 1) := by decide +kernel
theorem dX15_clause_24 : decode cX15_clause 24 = .ok (.getfield 134, 3) := by decide +kernel
theorem dX15_clause_27 : decode cX15_clause 27 = .ok (.iastore, 1) := by decide +kernel
theorem dX15_clause_28 : decode cX15_clause 28 = .ok (.aload_n 0, 1) := by decide +kernel
theorem dX15_clause_29 : decode cX15_clause 29 = .ok (.invokevirtual 158, 3) := by decide +kernel
theorem dX15_clause_32 : decode cX15_clause 32 = .ok (.aload_n 0, 1) := by decide +kernel
theorem dX15_clause_33 : decode cX15_clause 33 = .ok (.getfield 35, 3) := by decide +kernel
theorem dX15_clause_36 : decode cX15_clause 36 = .ok (.iload_n 1, 1) := by decide +kernel
theorem dX15_clause_37 : decode cX15_clause 37 = .ok (.aload_n 0, 1) := by decide +kernel
theorem dX15_clause_38 : decode cX15_clause 38 = .ok (.getfield 134, 3) := by decide +kernel
theorem dX15_clause_41 : decode cX15_clause 41 = .ok (.iastore, 1) := by decide +kernel
theorem dX15_clause_42 : decode cX15_clause 42 = .ok (.aload_n 0, 1) := by decide +kernel
theorem dX15_clause_43 : decode cX15_clause 43 = .ok (.getfield 41, 3) := by decide +kernel
theorem dX15_clause_46 : decode cX15_clause 46 = .ok (.iload_n 1, 1) := by decide +kernel
theorem dX15_clause_47 : decode cX15_clause 47 = .ok (.aload_n 0, 1) := by decide +kernel
theorem dX15_clause_48 : decode cX15_clause 48 = .ok (.getfield 99, 3) := by decide +kernel
theorem dX15_clause_51 : decode cX15_clause 51 = .ok (.invokestatic 161, 3) := by decide +kernel
theorem dX15_clause_54 : decode cX15_clause 54 = .ok (.iastore, 1) := by decide +kernel
theorem dX15_clause_55 : decode cX15_clause 55 = .ok (.aload_n 0, 1) := by decide +kernel
theorem dX15_clause_56 : decode cX15_clause 56 = .ok (.aload_n 0, 1) := by decide +kernel
theorem dX15_clause_57 : decode cX15_clause 57 = .ok (.getfield 121, 3) := by decide +kernel
theorem dX15_clause_60 : decode cX15_clause 60 = .ok (.ifCond .ne 17, 3) := by decide +kernel
theorem dX15_clause_77 : decode cX15_clause 77 = .ok (.iconst 0, 1) := by decide +kernel
theorem dX15_clause_78 : decode cX15_clause 78 = .ok (.invokevirtual 147, 3) := by decide +kernel
theorem dX15_clause_81 : decode cX15_clause 81 = .ok (.aload_n 0, 1) := by decide +kernel
theorem dX15_clause_82 : decode cX15_clause 82 = .ok (.getfield 121, 3) := by decide +kernel
theorem dX15_clause_85 : decode cX15_clause 85 = .ok (.ifCond .ne 7, 3) := by decide +kernel
theorem dX15_clause_92 : decode cX15_clause 92 = .ok (.aload_n 0, 1) := by decide +kernel
theorem dX15_clause_93 : decode cX15_clause 93 = .ok (.getfield 38, 3) := by decide +kernel
theorem dX15_clause_96 : decode cX15_clause 96 = .ok (.iload_n 1, 1) := by decide +kernel
theorem dX15_clause_97 : decode cX15_clause 97 = .ok (.aload_n 0, 1) := by decide +kernel
theorem dX15_clause_98 : decode cX15_clause 98 = .ok (.getfield 134, 3) := by decide +kernel
theorem dX15_clause_101 : decode cX15_clause 101 = .ok (.iastore, 1) := by decide +kernel
theorem dX15_clause_102 : decode cX15_clause 102 = .ok (.return_, 1) := by decide +kernel
theorem dX15_clause_88 : decode cX15_clause 88 = .ok (.aload_n 0, 1) := by decide +kernel
theorem dX15_clause_89 : decode cX15_clause 89 = .ok (.invokevirtual 158, 3) := by decide +kernel
theorem dX15_clause_63 : decode cX15_clause 63 = .ok (.aload_n 0, 1) := by decide +kernel
theorem dX15_clause_64 : decode cX15_clause 64 = .ok (.getfield 99, 3) := by decide +kernel
theorem dX15_clause_67 : decode cX15_clause 67 = .ok (.invokestatic 161, 3) := by decide +kernel
theorem dX15_clause_70 : decode cX15_clause 70 = .ok (.ifCond .lt 7, 3) := by decide +kernel
theorem dX15_clause_73 : decode cX15_clause 73 = .ok (.iconst 1, 1) := by decide +kernel
theorem dX15_clause_74 : decode cX15_clause 74 = .ok (.goto 4, 3) := by decide +kernel
theorem dX15_isNew_0 : decode cX15_isNew 0 = .ok (.iconst 1, 1) := by decide +kernel
theorem dX15_isNew_1 : decode cX15_isNew 1 = .ok (.istore_n 3, 1) := by decide +kernel
theorem dX15_isNew_2 : decode cX15_isNew 2 = .ok (.iconst 0, 1) := by decide +kernel
theorem dX15_isNew_3 : decode cX15_isNew 3 = .ok (.istore 4, 2) := by decide +kernel
theorem dX15_isNew_5 : decode cX15_isNew 5 = .ok (.iload 4, 2) := by decide +kernel
theorem dX15_isNew_7 : decode cX15_isNew 7 = .ok (.aload_n 0, 1) := by decide +kernel
theorem dX15_isNew_8 : decode cX15_isNew 8 = .ok (.getfield 164, 3) := by decide +kernel
theorem dX15_isNew_11 : decode cX15_isNew 11 = .ok (.if_icmp .ge 34, 3) := by decide +kernel
theorem dX15_isNew_14 : decode cX15_isNew 14 = .ok (.iload_n 3, 1) := by decide +kernel
theorem dX15_isNew_15 : decode cX15_isNew 15 = .ok (.ifCond .eq 22, 3) := by decide +kernel
theorem dX15_isNew_37 : decode cX15_isNew 37 = .ok (.iconst 0, 1) := by decide +kernel
theorem dX15_isNew_38 : decode cX15_isNew 38 = .ok (.istore_n 3, 1) := by decide +kernel
theorem dX15_isNew_39 : decode cX15_isNew 39 = .ok (.iinc 4 1, 3) := by decide +kernel
theorem dX15_isNew_42 : decode cX15_isNew 42 = .ok (.goto (-37), 3) := by decide +kernel
theorem dX15_isNew_18 : decode cX15_isNew 18 = .ok (.aload_n 0, 1) := by decide +kernel
theorem dX15_isNew_19 : decode cX15_isNew 19 = .ok (.getfield 20, 3) := by decide +kernel
theorem dX15_isNew_22 : decode cX15_isNew 22 = .ok (.bipush 12, 2) := by decide +kernel
theorem dX15_isNew_24 : decode cX15_isNew 24 = .ok (.iload 4, 2) := by decide +kernel
theorem dX15_isNew_26 : decode cX15_isNew 26 = .ok (.iadd, 1) := by decide +kernel
theorem dX15_isNew_27 : decode cX15_isNew 27 = .ok (.laload, 1) := by decide +kernel
theorem dX15_isNew_28 : decode cX15_isNew 28 = .ok (.lload_n 1, 1) := by decide +kernel
theorem dX15_isNew_29 : decode cX15_isNew 29 = .ok (.lcmp, 1) := by decide +kernel
theorem dX15_isNew_30 : decode cX15_isNew 30 = .ok (.ifCond .eq 7, 3) := by decide +kernel
theorem dX15_isNew_33 : decode cX15_isNew 33 = .ok (.iconst 1, 1) := by decide +kernel
theorem dX15_isNew_34 : decode cX15_isNew 34 = .ok (.goto 4, 3) := by decide +kernel
theorem dX15_isNew_45 : decode cX15_isNew 45 = .ok (.iload_n 3, 1) := by decide +kernel
theorem dX15_isNew_46 : decode cX15_isNew 46 = .ok (.ireturn, 1) := by decide +kernel
theorem dX15_rule_0 : decode cX15_rule 0 = .ok (.aload_n 0, 1) := by decide +kernel
theorem dX15_rule_1 : decode cX15_rule 1 = .ok (.aload_n 0, 1) := by decide +kernel
theorem dX15_rule_2 : decode cX15_rule 2 = .ok (.getfield 121, 3) := by decide +kernel
theorem dX15_rule_5 : decode cX15_rule 5 = .ok (.ifCond .ne 31, 3) := by decide +kernel
theorem dX15_rule_36 : decode cX15_rule 36 = .ok (.iconst 1, 1) := by decide +kernel
theorem dX15_rule_37 : decode cX15_rule 37 = .ok (.goto 4, 3) := by decide +kernel
theorem dX15_rule_41 : decode cX15_rule 41 = .ok (.putfield 121, 3) := by decide +kernel
theorem dX15_rule_44 : decode cX15_rule 44 = .ok (.aload_n 0, 1) := by decide +kernel
theorem dX15_rule_45 : decode cX15_rule 45 = .ok (.getfield 121, 3) := by decide +kernel
theorem dX15_rule_48 : decode cX15_rule 48 = .ok (.ifCond .eq 4, 3) := by decide +kernel
theorem dX15_rule_52 : decode cX15_rule 52 = .ok (.bipush 12, 2) := by decide +kernel
theorem dX15_rule_54 : decode cX15_rule 54 = .ok (.aload_n 0, 1) := by decide +kernel
theorem dX15_rule_55 : decode cX15_rule 55 = .ok (.getfield 164, 3) := by decide +kernel
theorem dX15_rule_58 : decode cX15_rule 58 = .ok (.iadd, 1) := by decide +kernel
theorem dX15_rule_59 : decode cX15_rule 59 = .ok (.istore_n 1, 1) := by decide +kernel
theorem dX15_rule_60 : decode cX15_rule 60 = .ok (.aload_n 0, 1) := by decide +kernel
theorem dX15_rule_61 : decode cX15_rule 61 = .ok (.dup, 1) := by decide +kernel
theorem dX15_rule_62 : decode cX15_rule 62 = .ok (.getfield 164, 3) := by decide +kernel
theorem dX15_rule_65 : decode cX15_rule 65 = .ok (.iconst 1, 1) := by decide +kernel
theorem dX15_rule_66 : decode cX15_rule 66 = .ok (.iadd, 1) := by decide +kernel
theorem dX15_rule_67 : decode cX15_rule 67 = .ok (.putfield 164, 3) := by decide +kernel
theorem dX15_rule_70 : decode cX15_rule 70 = .ok (.aload_n 0, 1) := by decide +kernel
theorem dX15_rule_71 : decode cX15_rule 71 = .ok (.getfield 20, 3) := by decide +kernel
theorem dX15_rule_74 : decode cX15_rule 74 = .ok (.iload_n 1, 1) := by decide +kernel
theorem dX15_rule_75 : decode cX15_rule 75 = .ok (.aload_n 0, 1) := by decide +kernel
theorem dX15_rule_76 : decode cX15_rule 76 = .ok (.getfield 102, 3) := by decide +kernel
theorem dX15_rule_79 : decode cX15_rule 79 = .ok (.lastore, 1) := by decide +kernel
theorem dX15_rule_80 : decode cX15_rule 80 = .ok (.aload_n 0, 1) := by decide +kernel
theorem dX15_rule_81 : decode cX15_rule 81 = .ok (.getfield 23, 3) := by decide +kernel
theorem dX15_rule_84 : decode cX15_rule 84 = .ok (.iload_n 1, 1) := by decide +kernel
theorem dX15_rule_85 : decode cX15_rule 85 = .ok (.aload_n 0, 1) := by decide +kernel
theorem dX15_rule_86 : decode cX15_rule 86 = .ok (.getfield 155, 3) := by decide +kernel
theorem dX15_rule_89 : decode cX15_rule 89 = .ok (.iastore, 1) := by decide +kernel
theorem dX15_rule_90 : decode cX15_rule 90 = .ok (.aload_n 0, 1) := by decide +kernel
theorem dX15_rule_91 : decode cX15_rule 91 = .ok (.getfield 26, 3) := by decide +kernel
theorem dX15_rule_94 : decode cX15_rule 94 = .ok (.iload_n 1, 1) := by decide +kernel
theorem dX15_rule_95 : decode cX15_rule 95 = .ok (.iconst 0, 1) := by decide +kernel
theorem dX15_rule_96 : decode cX15_rule 96 = .ok (.iastore, 1) := by decide +kernel
theorem dX15_rule_97 : decode cX15_rule 97 = .ok (.aload_n 0, 1) := by decide +kernel
theorem dX15_rule_98 : decode cX15_rule 98 = .ok (.getfield 29, 3) := by decide +kernel
theorem dX15_rule_101 : decode cX15_rule 101 = .ok (.iload_n 1, 1) := by decide +kernel
theorem dX15_rule_102 : decode cX15_rule 102 = .ok (.iconst 0, 1) := by decide +kernel
theorem dX15_rule_103 : decode cX15_rule 103 = .ok (.iastore, 1) := by decide +kernel
theorem dX15_rule_104 : decode cX15_rule 104 = .ok (.aload_n 0, 1) := by decide +kernel
theorem dX15_rule_105 : decode cX15_rule 105 = .ok (.iconst 1, 1) := by decide +kernel
theorem dX15_rule_106 : decode cX15_rule 106 = .ok (.invokevirtual 147, 3) := by decide +kernel
theorem dX15_rule_109 : decode cX15_rule 109 = .ok (.aload_n 0, 1) := by decide +kernel
theorem dX15_rule_110 : decode cX15_rule 110 = .ok (.aload_n 0, 1) := by decide +kernel
theorem dX15_rule_111 : decode cX15_rule 111 = .ok (.getfield 99, 3) := by decide +kernel
theorem dX15_rule_114 : decode cX15_rule 114 = .ok (.bipush 58, 2) := by decide +kernel
theorem dX15_rule_116 : decode cX15_rule 116 = .ok (.if_icmp .ne 7, 3) := by decide +kernel
theorem dX15_rule_123 : decode cX15_rule 123 = .ok (.iconst 0, 1) := by decide +kernel
theorem dX15_rule_124 : decode cX15_rule 124 = .ok (.invokevirtual 147, 3) := by decide +kernel
theorem dX15_rule_127 : decode cX15_rule 127 = .ok (.aload_n 0, 1) := by decide +kernel
theorem dX15_rule_128 : decode cX15_rule 128 = .ok (.getfield 121, 3) := by decide +kernel
theorem dX15_rule_131 : decode cX15_rule 131 = .ok (.ifCond .ne 7, 3) := by decide +kernel
theorem dX15_rule_138 : decode cX15_rule 138 = .ok (.aload_n 0, 1) := by decide +kernel
theorem dX15_rule_139 : decode cX15_rule 139 = .ok (.getfield 121, 3) := by decide +kernel
theorem dX15_rule_142 : decode cX15_rule 142 = .ok (.ifCond .ne 41, 3) := by decide +kernel
theorem dX15_rule_145 : decode cX15_rule 145 = .ok (.aload_n 0, 1) := by decide +kernel
theorem dX15_rule_146 : decode cX15_rule 146 = .ok (.getfield 99, 3) := by decide +kernel
theorem dX15_rule_149 : decode cX15_rule 149 = .ok (.bipush 33, 2) := by decide +kernel
theorem dX15_rule_151 : decode cX15_rule 151 = .ok (.if_icmp .ne 32, 3) := by decide +kernel
theorem dX15_rule_154 : decode cX15_rule 154 = .ok (.aload_n 0, 1) := by decide +kernel
theorem dX15_rule_155 : decode cX15_rule 155 = .ok (.iconst 1, 1) := by decide +kernel
theorem dX15_rule_156 : decode cX15_rule 156 = .ok (.invokevirtual 147, 3) := by decide +kernel
theorem dX15_rule_159 : decode cX15_rule 159 = .ok (.aload_n 0, 1) := by decide +kernel
theorem dX15_rule_160 : decode cX15_rule 160 = .ok (.getfield 121, 3) := by decide +kernel
theorem dX15_rule_163 : decode cX15_rule 163 = .ok (.ifCond .ne (-25), 3) := by decide +kernel
theorem dX15_rule_166 : decode cX15_rule 166 = .ok (.aload_n 0, 1) := by decide +kernel
theorem dX15_rule_167 : decode cX15_rule 167 = .ok (.getfield 26, 3) := by decide +kernel
theorem dX15_rule_170 : decode cX15_rule 170 = .ok (.iload_n 1, 1) := by decide +kernel
theorem dX15_rule_171 : decode cX15_rule 171 = .ok (.dup2, 1) := by decide +kernel
theorem dX15_rule_172 : decode cX15_rule 172 = .ok (.iaload, 1) := by decide +kernel
theorem dX15_rule_173 : decode cX15_rule 173 = .ok (.iconst 1, 1) := by decide +kernel
theorem dX15_rule_174 : decode cX15_rule 174 = .ok (.iadd, 1) := by decide +kernel
theorem dX15_rule_175 : decode cX15_rule 175 = .ok (.iastore, 1) := by decide +kernel
theorem dX15_rule_176 : decode cX15_rule 176 = .ok (.aload_n 0, 1) := by decide +kernel
theorem dX15_rule_177 : decode cX15_rule 177 = .ok (.invokevirtual 171, 3) := by decide +kernel
theorem dX15_rule_180 : decode cX15_rule 180 = .ok (.goto (-42), 3) := by decide +kernel
theorem dX15_rule_183 : decode cX15_rule 183 = .ok (.aload_n 0, 1) := by decide +kernel
theorem dX15_rule_184 : decode cX15_rule 184 = .ok (.getfield 121, 3) := by decide +kernel
theorem dX15_rule_187 : decode cX15_rule 187 = .ok (.ifCond .ne 45, 3) := by decide +kernel
theorem dX15_rule_232 : decode cX15_rule 232 = .ok (.return_, 1) := by decide +kernel
theorem dX15_rule_190 : decode cX15_rule 190 = .ok (.aload_n 0, 1) := by decide +kernel
theorem dX15_rule_191 : decode cX15_rule 191 = .ok (.getfield 99, 3) := by decide +kernel
theorem dX15_rule_194 : decode cX15_rule 194 = .ok (.bipush 64, 2) := by decide +kernel
theorem dX15_rule_196 : decode cX15_rule 196 = .ok (.if_icmp .ne 36, 3) := by decide +kernel
theorem dX15_rule_199 : decode cX15_rule 199 = .ok (.aload_n 0, 1) := by decide +kernel
theorem dX15_rule_200 : decode cX15_rule 200 = .ok (.iconst 1, 1) := by decide +kernel
theorem dX15_rule_201 : decode cX15_rule 201 = .ok (.invokevirtual 147, 3) := by decide +kernel
theorem dX15_rule_204 : decode cX15_rule 204 = .ok (.aload_n 0, 1) := by decide +kernel
theorem dX15_rule_205 : decode cX15_rule 205 = .ok (.getfield 29, 3) := by decide +kernel
theorem dX15_rule_208 : decode cX15_rule 208 = .ok (.iload_n 1, 1) := by decide +kernel
theorem dX15_rule_209 : decode cX15_rule 209 = .ok (.aload_n 0, 1) := by decide +kernel
theorem dX15_rule_210 : decode cX15_rule 210 = .ok (.getfield 102, 3) := by decide +kernel
theorem dX15_rule_213 : decode cX15_rule 213 = .ok (.l2i, 1) := by decide +kernel
theorem dX15_rule_214 : decode cX15_rule 214 = .ok (.iastore, 1) := by decide +kernel
theorem dX15_rule_215 : decode cX15_rule 215 = .ok (.aload_n 0, 1) := by decide +kernel
theorem dX15_rule_216 : decode cX15_rule 216 = .ok (.aload_n 0, 1) := by decide +kernel
theorem dX15_rule_217 : decode cX15_rule 217 = .ok (.getfield 99, 3) := by decide +kernel
theorem dX15_rule_220 : decode cX15_rule 220 = .ok (.iconst 1, 1) := by decide +kernel
theorem dX15_rule_221 : decode cX15_rule 221 = .ok (.if_icmp .ne 7, 3) := by decide +kernel
theorem dX15_rule_228 : decode cX15_rule 228 = .ok (.iconst 0, 1) := by decide +kernel
theorem dX15_rule_229 : decode cX15_rule 229 = .ok (.invokevirtual 147, 3) := by decide +kernel
theorem dX15_rule_224 : decode cX15_rule 224 = .ok (.iconst 1, 1) := by decide +kernel
theorem dX15_rule_225 : decode cX15_rule 225 = .ok (.goto 4, 3) := by decide +kernel
theorem dX15_rule_134 : decode cX15_rule 134 = .ok (.aload_n 0, 1) := by decide +kernel
theorem dX15_rule_135 : decode cX15_rule 135 = .ok (.invokevirtual 171, 3) := by decide +kernel
theorem dX15_rule_119 : decode cX15_rule 119 = .ok (.iconst 1, 1) := by decide +kernel
theorem dX15_rule_120 : decode cX15_rule 120 = .ok (.goto 4, 3) := by decide +kernel
theorem dX15_rule_51 : decode cX15_rule 51 = .ok (.return_, 1) := by decide +kernel
theorem dX15_rule_8 : decode cX15_rule 8 = .ok (.aload_n 0, 1) := by decide +kernel
theorem dX15_rule_9 : decode cX15_rule 9 = .ok (.getfield 99, 3) := by decide +kernel
theorem dX15_rule_12 : decode cX15_rule 12 = .ok (.iconst 2, 1) := by decide +kernel
theorem dX15_rule_13 : decode cX15_rule 13 = .ok (.if_icmp .ne 23, 3) := by decide +kernel
theorem dX15_rule_16 : decode cX15_rule 16 = .ok (.aload_n 0, 1) := by decide +kernel
theorem dX15_rule_17 : decode cX15_rule 17 = .ok (.getfield 164, 3) := by decide +kernel
theorem dX15_rule_20 : decode cX15_rule 20 = .ok (.bipush 12, 2) := by decide +kernel
theorem dX15_rule_22 : decode cX15_rule 22 = .ok (.if_icmp .eq 14, 3) := by decide +kernel
theorem dX15_rule_25 : decode cX15_rule 25 = .ok (.aload_n 0, 1) := by decide +kernel
theorem dX15_rule_26 : decode cX15_rule 26 = .ok (.aload_n 0, 1) := by decide +kernel
theorem dX15_rule_27 : decode cX15_rule 27 = .ok (.getfield 102, 3) := by decide +kernel
theorem dX15_rule_30 : decode cX15_rule 30 = .ok (.invokevirtual 167, 3) := by decide +kernel
theorem dX15_rule_33 : decode cX15_rule 33 = .ok (.ifCond .ne 7, 3) := by decide +kernel
theorem dX15_rule_40 : decode cX15_rule 40 = .ok (.iconst 0, 1) := by decide +kernel
theorem dX15_adopt_0 : decode cX15_adopt 0 = .ok (.aload_n 0, 1) := by decide +kernel
theorem dX15_adopt_1 : decode cX15_adopt 1 = .ok (.aload_n 0, 1) := by decide +kernel
theorem dX15_adopt_2 : decode cX15_adopt 2 = .ok (.getfield 164, 3) := by decide +kernel
theorem dX15_adopt_5 : decode cX15_adopt 5 = .ok (.putfield 174, 3) := by decide +kernel
theorem dX15_adopt_8 : decode cX15_adopt 8 = .ok (.aload_n 0, 1) := by decide +kernel
theorem dX15_adopt_9 : decode cX15_adopt 9 = .ok (.aload_n 0, 1) := by decide +kernel
theorem dX15_adopt_10 : decode cX15_adopt 10 = .ok (.getfield 155, 3) := by decide +kernel
theorem dX15_adopt_13 : decode cX15_adopt 13 = .ok (.putfield 177, 3) := by decide +kernel
theorem dX15_adopt_16 : decode cX15_adopt 16 = .ok (.aload_n 0, 1) := by decide +kernel
theorem dX15_adopt_17 : decode cX15_adopt 17 = .ok (.aload_n 0, 1) := by decide +kernel
theorem dX15_adopt_18 : decode cX15_adopt 18 = .ok (.getfield 134, 3) := by decide +kernel
theorem dX15_adopt_21 : decode cX15_adopt 21 = .ok (.putfield 180, 3) := by decide +kernel
theorem dX15_adopt_24 : decode cX15_adopt 24 = .ok (.iconst 0, 1) := by decide +kernel
theorem dX15_adopt_25 : decode cX15_adopt 25 = .ok (.istore_n 1, 1) := by decide +kernel
theorem dX15_adopt_26 : decode cX15_adopt 26 = .ok (.iload_n 1, 1) := by decide +kernel
theorem dX15_adopt_27 : decode cX15_adopt 27 = .ok (.aload_n 0, 1) := by decide +kernel
theorem dX15_adopt_28 : decode cX15_adopt 28 = .ok (.getfield 174, 3) := by decide +kernel
theorem dX15_adopt_31 : decode cX15_adopt 31 = .ok (.if_icmp .ge 69, 3) := by decide +kernel
theorem dX15_adopt_34 : decode cX15_adopt 34 = .ok (.aload_n 0, 1) := by decide +kernel
theorem dX15_adopt_35 : decode cX15_adopt 35 = .ok (.getfield 20, 3) := by decide +kernel
theorem dX15_adopt_38 : decode cX15_adopt 38 = .ok (.iload_n 1, 1) := by decide +kernel
theorem dX15_adopt_39 : decode cX15_adopt 39 = .ok (.aload_n 0, 1) := by decide +kernel
theorem dX15_adopt_40 : decode cX15_adopt 40 = .ok (.getfield 20, 3) := by decide +kernel
theorem dX15_adopt_43 : decode cX15_adopt 43 = .ok (.bipush 12, 2) := by decide +kernel
theorem dX15_adopt_45 : decode cX15_adopt 45 = .ok (.iload_n 1, 1) := by decide +kernel
theorem dX15_adopt_46 : decode cX15_adopt 46 = .ok (.iadd, 1) := by decide +kernel
theorem dX15_adopt_47 : decode cX15_adopt 47 = .ok (.laload, 1) := by decide +kernel
theorem dX15_adopt_48 : decode cX15_adopt 48 = .ok (.lastore, 1) := by decide +kernel
theorem dX15_adopt_49 : decode cX15_adopt 49 = .ok (.aload_n 0, 1) := by decide +kernel
theorem dX15_adopt_50 : decode cX15_adopt 50 = .ok (.getfield 23, 3) := by decide +kernel
theorem dX15_adopt_53 : decode cX15_adopt 53 = .ok (.iload_n 1, 1) := by decide +kernel
theorem dX15_adopt_54 : decode cX15_adopt 54 = .ok (.aload_n 0, 1) := by decide +kernel
theorem dX15_adopt_55 : decode cX15_adopt 55 = .ok (.getfield 23, 3) := by decide +kernel
theorem dX15_adopt_58 : decode cX15_adopt 58 = .ok (.bipush 12, 2) := by decide +kernel
theorem dX15_adopt_60 : decode cX15_adopt 60 = .ok (.iload_n 1, 1) := by decide +kernel
theorem dX15_adopt_61 : decode cX15_adopt 61 = .ok (.iadd, 1) := by decide +kernel
theorem dX15_adopt_62 : decode cX15_adopt 62 = .ok (.iaload, 1) := by decide +kernel
theorem dX15_adopt_63 : decode cX15_adopt 63 = .ok (.iastore, 1) := by decide +kernel
theorem dX15_adopt_64 : decode cX15_adopt 64 = .ok (.aload_n 0, 1) := by decide +kernel
theorem dX15_adopt_65 : decode cX15_adopt 65 = .ok (.getfield 26, 3) := by decide +kernel
theorem dX15_adopt_68 : decode cX15_adopt 68 = .ok (.iload_n 1, 1) := by decide +kernel
theorem dX15_adopt_69 : decode cX15_adopt 69 = .ok (.aload_n 0, 1) := by decide +kernel
theorem dX15_adopt_70 : decode cX15_adopt 70 = .ok (.getfield 26, 3) := by decide +kernel
theorem dX15_adopt_73 : decode cX15_adopt 73 = .ok (.bipush 12, 2) := by decide +kernel
theorem dX15_adopt_75 : decode cX15_adopt 75 = .ok (.iload_n 1, 1) := by decide +kernel
theorem dX15_adopt_76 : decode cX15_adopt 76 = .ok (.iadd, 1) := by decide +kernel
theorem dX15_adopt_77 : decode cX15_adopt 77 = .ok (.iaload, 1) := by decide +kernel
theorem dX15_adopt_78 : decode cX15_adopt 78 = .ok (.iastore, 1) := by decide +kernel
theorem dX15_adopt_79 : decode cX15_adopt 79 = .ok (.aload_n 0, 1) := by decide +kernel
theorem dX15_adopt_80 : decode cX15_adopt 80 = .ok (.getfield 29, 3) := by decide +kernel
theorem dX15_adopt_83 : decode cX15_adopt 83 = .ok (.iload_n 1, 1) := by decide +kernel
theorem dX15_adopt_84 : decode cX15_adopt 84 = .ok (.aload_n 0, 1) := by decide +kernel
theorem dX15_adopt_85 : decode cX15_adopt 85 = .ok (.getfield 29, 3) := by decide +kernel
theorem dX15_adopt_88 : decode cX15_adopt 88 = .ok (.bipush 12, 2) := by decide +kernel
theorem dX15_adopt_90 : decode cX15_adopt 90 = .ok (.iload_n 1, 1) := by decide +kernel
theorem dX15_adopt_91 : decode cX15_adopt 91 = .ok (.iadd, 1) := by decide +kernel
theorem dX15_adopt_92 : decode cX15_adopt 92 = .ok (.iaload, 1) := by decide +kernel
theorem dX15_adopt_93 : decode cX15_adopt 93 = .ok (.iastore, 1) := by decide +kernel
theorem dX15_adopt_94 : decode cX15_adopt 94 = .ok (.iinc 1 1, 3) := by decide +kernel
theorem dX15_adopt_97 : decode cX15_adopt 97 = .ok (.goto (-71), 3) := by decide +kernel
theorem dX15_adopt_100 : decode cX15_adopt 100 = .ok (.iconst 0, 1) := by decide +kernel
theorem dX15_adopt_101 : decode cX15_adopt 101 = .ok (.istore_n 1, 1) := by decide +kernel
theorem dX15_adopt_102 : decode cX15_adopt 102 = .ok (.iload_n 1, 1) := by decide +kernel
theorem dX15_adopt_103 : decode cX15_adopt 103 = .ok (.aload_n 0, 1) := by decide +kernel
theorem dX15_adopt_104 : decode cX15_adopt 104 = .ok (.getfield 177, 3) := by decide +kernel
theorem dX15_adopt_107 : decode cX15_adopt 107 = .ok (.if_icmp .ge 69, 3) := by decide +kernel
theorem dX15_adopt_110 : decode cX15_adopt 110 = .ok (.aload_n 0, 1) := by decide +kernel
theorem dX15_adopt_111 : decode cX15_adopt 111 = .ok (.getfield 32, 3) := by decide +kernel
theorem dX15_adopt_114 : decode cX15_adopt 114 = .ok (.iload_n 1, 1) := by decide +kernel
theorem dX15_adopt_115 : decode cX15_adopt 115 = .ok (.aload_n 0, 1) := by decide +kernel
theorem dX15_adopt_116 : decode cX15_adopt 116 = .ok (.getfield 32, 3) := by decide +kernel
theorem dX15_adopt_119 : decode cX15_adopt 119 = .ok (.bipush 60, 2) := by decide +kernel
theorem dX15_adopt_121 : decode cX15_adopt 121 = .ok (.iload_n 1, 1) := by decide +kernel
theorem dX15_adopt_122 : decode cX15_adopt 122 = .ok (.iadd, 1) := by decide +kernel
theorem dX15_adopt_123 : decode cX15_adopt 123 = .ok (.iaload, 1) := by decide +kernel
theorem dX15_adopt_124 : decode cX15_adopt 124 = .ok (.iastore, 1) := by decide +kernel
theorem dX15_adopt_125 : decode cX15_adopt 125 = .ok (.aload_n 0, 1) := by decide +kernel
theorem dX15_adopt_126 : decode cX15_adopt 126 = .ok (.getfield 35, 3) := by decide +kernel
theorem dX15_adopt_129 : decode cX15_adopt 129 = .ok (.iload_n 1, 1) := by decide +kernel
theorem dX15_adopt_130 : decode cX15_adopt 130 = .ok (.aload_n 0, 1) := by decide +kernel
theorem dX15_adopt_131 : decode cX15_adopt 131 = .ok (.getfield 35, 3) := by decide +kernel
theorem dX15_adopt_134 : decode cX15_adopt 134 = .ok (.bipush 60, 2) := by decide +kernel
theorem dX15_adopt_136 : decode cX15_adopt 136 = .ok (.iload_n 1, 1) := by decide +kernel
theorem dX15_adopt_137 : decode cX15_adopt 137 = .ok (.iadd, 1) := by decide +kernel
theorem dX15_adopt_138 : decode cX15_adopt 138 = .ok (.iaload, 1) := by decide +kernel
theorem dX15_adopt_139 : decode cX15_adopt 139 = .ok (.iastore, 1) := by decide +kernel
theorem dX15_adopt_140 : decode cX15_adopt 140 = .ok (.aload_n 0, 1) := by decide +kernel
theorem dX15_adopt_141 : decode cX15_adopt 141 = .ok (.getfield 38, 3) := by decide +kernel
theorem dX15_adopt_144 : decode cX15_adopt 144 = .ok (.iload_n 1, 1) := by decide +kernel
theorem dX15_adopt_145 : decode cX15_adopt 145 = .ok (.aload_n 0, 1) := by decide +kernel
theorem dX15_adopt_146 : decode cX15_adopt 146 = .ok (.getfield 38, 3) := by decide +kernel
theorem dX15_adopt_149 : decode cX15_adopt 149 = .ok (.bipush 60, 2) := by decide +kernel
theorem dX15_adopt_151 : decode cX15_adopt 151 = .ok (.iload_n 1, 1) := by decide +kernel
theorem dX15_adopt_152 : decode cX15_adopt 152 = .ok (.iadd, 1) := by decide +kernel
theorem dX15_adopt_153 : decode cX15_adopt 153 = .ok (.iaload, 1) := by decide +kernel
theorem dX15_adopt_154 : decode cX15_adopt 154 = .ok (.iastore, 1) := by decide +kernel
theorem dX15_adopt_155 : decode cX15_adopt 155 = .ok (.aload_n 0, 1) := by decide +kernel
theorem dX15_adopt_156 : decode cX15_adopt 156 = .ok (.getfield 41, 3) := by decide +kernel
theorem dX15_adopt_159 : decode cX15_adopt 159 = .ok (.iload_n 1, 1) := by decide +kernel
theorem dX15_adopt_160 : decode cX15_adopt 160 = .ok (.aload_n 0, 1) := by decide +kernel
theorem dX15_adopt_161 : decode cX15_adopt 161 = .ok (.getfield 41, 3) := by decide +kernel
theorem dX15_adopt_164 : decode cX15_adopt 164 = .ok (.bipush 60, 2) := by decide +kernel
theorem dX15_adopt_166 : decode cX15_adopt 166 = .ok (.iload_n 1, 1) := by decide +kernel
theorem dX15_adopt_167 : decode cX15_adopt 167 = .ok (.iadd, 1) := by decide +kernel
theorem dX15_adopt_168 : decode cX15_adopt 168 = .ok (.iaload, 1) := by decide +kernel
theorem dX15_adopt_169 : decode cX15_adopt 169 = .ok (.iastore, 1) := by decide +kernel
theorem dX15_adopt_170 : decode cX15_adopt 170 = .ok (.iinc 1 1, 3) := by decide +kernel
theorem dX15_adopt_173 : decode cX15_adopt 173 = .ok (.goto (-71), 3) := by decide +kernel
theorem dX15_adopt_176 : decode cX15_adopt 176 = .ok (.iconst 0, 1) := by decide +kernel
theorem dX15_adopt_177 : decode cX15_adopt 177 = .ok (.istore_n 1, 1) := by decide +kernel
theorem dX15_adopt_178 : decode cX15_adopt 178 = .ok (.iload_n 1, 1) := by decide +kernel
theorem dX15_adopt_179 : decode cX15_adopt 179 = .ok (.aload_n 0, 1) := by decide +kernel
theorem dX15_adopt_180 : decode cX15_adopt 180 = .ok (.getfield 180, 3) := by decide +kernel
theorem dX15_adopt_183 : decode cX15_adopt 183 = .ok (.if_icmp .ge 41, 3) := by decide +kernel
theorem dX15_adopt_186 : decode cX15_adopt 186 = .ok (.aload_n 0, 1) := by decide +kernel
theorem dX15_adopt_187 : decode cX15_adopt 187 = .ok (.getfield 44, 3) := by decide +kernel
theorem dX15_adopt_190 : decode cX15_adopt 190 = .ok (.iload_n 1, 1) := by decide +kernel
theorem dX15_adopt_191 : decode cX15_adopt 191 = .ok (.aload_n 0, 1) := by decide +kernel
theorem dX15_adopt_192 : decode cX15_adopt 192 = .ok (.getfield 44, 3) := by decide +kernel
theorem dX15_adopt_195 : decode cX15_adopt 195 = .ok (.sipush 400, 3) := by decide +kernel
theorem dX15_adopt_198 : decode cX15_adopt 198 = .ok (.iload_n 1, 1) := by decide +kernel
theorem dX15_adopt_199 : decode cX15_adopt 199 = .ok (.iadd, 1) := by decide +kernel
theorem dX15_adopt_200 : decode cX15_adopt 200 = .ok (.iaload, 1) := by decide +kernel
theorem dX15_adopt_201 : decode cX15_adopt 201 = .ok (.iastore, 1) := by decide +kernel
theorem dX15_adopt_202 : decode cX15_adopt 202 = .ok (.aload_n 0, 1) := by decide +kernel
theorem dX15_adopt_203 : decode cX15_adopt 203 = .ok (.getfield 47, 3) := by decide +kernel
theorem dX15_adopt_206 : decode cX15_adopt 206 = .ok (.iload_n 1, 1) := by decide +kernel
theorem dX15_adopt_207 : decode cX15_adopt 207 = .ok (.aload_n 0, 1) := by decide +kernel
theorem dX15_adopt_208 : decode cX15_adopt 208 = .ok (.getfield 47, 3) := by decide +kernel
theorem dX15_adopt_211 : decode cX15_adopt 211 = .ok (.sipush 400, 3) := by decide +kernel
theorem dX15_adopt_214 : decode cX15_adopt 214 = .ok (.iload_n 1, 1) := by decide +kernel
theorem dX15_adopt_215 : decode cX15_adopt 215 = .ok (.iadd, 1) := by decide +kernel
theorem dX15_adopt_216 : decode cX15_adopt 216 = .ok (.laload, 1) := by decide +kernel
theorem dX15_adopt_217 : decode cX15_adopt 217 = .ok (.lastore, 1) := by decide +kernel
theorem dX15_adopt_218 : decode cX15_adopt 218 = .ok (.iinc 1 1, 3) := by decide +kernel
theorem dX15_adopt_221 : decode cX15_adopt 221 = .ok (.goto (-43), 3) := by decide +kernel
theorem dX15_adopt_224 : decode cX15_adopt 224 = .ok (.return_, 1) := by decide +kernel
theorem dX15_read_0 : decode cX15_read 0 = .ok (.aload_n 0, 1) := by decide +kernel
theorem dX15_read_1 : decode cX15_read 1 = .ok (.iconst 0, 1) := by decide +kernel
theorem dX15_read_2 : decode cX15_read 2 = .ok (.putfield 93, 3) := by decide +kernel
theorem dX15_read_5 : decode cX15_read 5 = .ok (.aload_n 0, 1) := by decide +kernel
theorem dX15_read_6 : decode cX15_read 6 = .ok (.iconst 0, 1) := by decide +kernel
theorem dX15_read_7 : decode cX15_read 7 = .ok (.putfield 106, 3) := by decide +kernel
theorem dX15_read_10 : decode cX15_read 10 = .ok (.aload_n 0, 1) := by decide +kernel
theorem dX15_read_11 : decode cX15_read 11 = .ok (.iconst 0, 1) := by decide +kernel
theorem dX15_read_12 : decode cX15_read 12 = .ok (.putfield 121, 3) := by decide +kernel
theorem dX15_read_15 : decode cX15_read 15 = .ok (.aload_n 0, 1) := by decide +kernel
theorem dX15_read_16 : decode cX15_read 16 = .ok (.iconst 0, 1) := by decide +kernel
theorem dX15_read_17 : decode cX15_read 17 = .ok (.putfield 164, 3) := by decide +kernel
theorem dX15_read_20 : decode cX15_read 20 = .ok (.aload_n 0, 1) := by decide +kernel
theorem dX15_read_21 : decode cX15_read 21 = .ok (.iconst 0, 1) := by decide +kernel
theorem dX15_read_22 : decode cX15_read 22 = .ok (.putfield 155, 3) := by decide +kernel
theorem dX15_read_25 : decode cX15_read 25 = .ok (.aload_n 0, 1) := by decide +kernel
theorem dX15_read_26 : decode cX15_read 26 = .ok (.iconst 0, 1) := by decide +kernel
theorem dX15_read_27 : decode cX15_read 27 = .ok (.putfield 134, 3) := by decide +kernel
theorem dX15_read_30 : decode cX15_read 30 = .ok (.aload_n 0, 1) := by decide +kernel
theorem dX15_read_31 : decode cX15_read 31 = .ok (.invokevirtual 131, 3) := by decide +kernel
theorem dX15_read_34 : decode cX15_read 34 = .ok (.aload_n 0, 1) := by decide +kernel
theorem dX15_read_35 : decode cX15_read 35 = .ok (.invokevirtual 183, 3) := by decide +kernel
theorem dX15_read_38 : decode cX15_read 38 = .ok (.aload_n 0, 1) := by decide +kernel
theorem dX15_read_39 : decode cX15_read 39 = .ok (.getfield 121, 3) := by decide +kernel
theorem dX15_read_42 : decode cX15_read 42 = .ok (.ifCond .ne 49, 3) := by decide +kernel
theorem dX15_read_45 : decode cX15_read 45 = .ok (.aload_n 0, 1) := by decide +kernel
theorem dX15_read_46 : decode cX15_read 46 = .ok (.getfield 99, 3) := by decide +kernel
theorem dX15_read_49 : decode cX15_read 49 = .ok (.ifCond .eq 42, 3) := by decide +kernel
theorem dX15_read_52 : decode cX15_read 52 = .ok (.aload_n 0, 1) := by decide +kernel
theorem dX15_read_53 : decode cX15_read 53 = .ok (.aload_n 0, 1) := by decide +kernel
theorem dX15_read_54 : decode cX15_read 54 = .ok (.getfield 99, 3) := by decide +kernel
theorem dX15_read_57 : decode cX15_read 57 = .ok (.bipush 59, 2) := by decide +kernel
theorem dX15_read_59 : decode cX15_read 59 = .ok (.if_icmp .ne 7, 3) := by decide +kernel
theorem dX15_read_66 : decode cX15_read 66 = .ok (.iconst 0, 1) := by decide +kernel
theorem dX15_read_67 : decode cX15_read 67 = .ok (.invokevirtual 147, 3) := by decide +kernel
theorem dX15_read_70 : decode cX15_read 70 = .ok (.aload_n 0, 1) := by decide +kernel
theorem dX15_read_71 : decode cX15_read 71 = .ok (.getfield 121, 3) := by decide +kernel
theorem dX15_read_74 : decode cX15_read 74 = .ok (.ifCond .ne (-36), 3) := by decide +kernel
theorem dX15_read_77 : decode cX15_read 77 = .ok (.aload_n 0, 1) := by decide +kernel
theorem dX15_read_78 : decode cX15_read 78 = .ok (.getfield 99, 3) := by decide +kernel
theorem dX15_read_81 : decode cX15_read 81 = .ok (.ifCond .eq (-43), 3) := by decide +kernel
theorem dX15_read_84 : decode cX15_read 84 = .ok (.aload_n 0, 1) := by decide +kernel
theorem dX15_read_85 : decode cX15_read 85 = .ok (.invokevirtual 183, 3) := by decide +kernel
theorem dX15_read_88 : decode cX15_read 88 = .ok (.goto (-50), 3) := by decide +kernel
theorem dX15_read_62 : decode cX15_read 62 = .ok (.iconst 1, 1) := by decide +kernel
theorem dX15_read_63 : decode cX15_read 63 = .ok (.goto 4, 3) := by decide +kernel
theorem dX15_read_91 : decode cX15_read 91 = .ok (.aload_n 0, 1) := by decide +kernel
theorem dX15_read_92 : decode cX15_read 92 = .ok (.getfield 121, 3) := by decide +kernel
theorem dX15_read_95 : decode cX15_read 95 = .ok (.ifCond .eq 10, 3) := by decide +kernel
theorem dX15_read_105 : decode cX15_read 105 = .ok (.aload_n 0, 1) := by decide +kernel
theorem dX15_read_106 : decode cX15_read 106 = .ok (.invokevirtual 186, 3) := by decide +kernel
theorem dX15_read_109 : decode cX15_read 109 = .ok (.aload_n 0, 1) := by decide +kernel
theorem dX15_read_110 : decode cX15_read 110 = .ok (.iconst 0, 1) := by decide +kernel
theorem dX15_read_111 : decode cX15_read 111 = .ok (.putfield 90, 3) := by decide +kernel
theorem dX15_read_114 : decode cX15_read 114 = .ok (.aload_n 0, 1) := by decide +kernel
theorem dX15_read_115 : decode cX15_read 115 = .ok (.iconst (-1), 1) := by decide +kernel
theorem dX15_read_116 : decode cX15_read 116 = .ok (.putfield 50, 3) := by decide +kernel
theorem dX15_read_119 : decode cX15_read 119 = .ok (.aload_n 0, 1) := by decide +kernel
theorem dX15_read_120 : decode cX15_read 120 = .ok (.getfield 174, 3) := by decide +kernel
theorem dX15_read_123 : decode cX15_read 123 = .ok (.ireturn, 1) := by decide +kernel
theorem dX15_read_98 : decode cX15_read 98 = .ok (.iconst (-1), 1) := by decide +kernel
theorem dX15_read_99 : decode cX15_read 99 = .ok (.aload_n 0, 1) := by decide +kernel
theorem dX15_read_100 : decode cX15_read 100 = .ok (.getfield 96, 3) := by decide +kernel
theorem dX15_read_103 : decode cX15_read 103 = .ok (.isub, 1) := by decide +kernel
theorem dX15_read_104 : decode cX15_read 104 = .ok (.ireturn, 1) := by decide +kernel
theorem dX15_isName_0 : decode cX15_isName 0 = .ok (.iconst 1, 1) := by decide +kernel
theorem dX15_isName_1 : decode cX15_isName 1 = .ok (.istore_n 2, 1) := by decide +kernel
theorem dX15_isName_2 : decode cX15_isName 2 = .ok (.iconst 0, 1) := by decide +kernel
theorem dX15_isName_3 : decode cX15_isName 3 = .ok (.istore_n 3, 1) := by decide +kernel
theorem dX15_isName_4 : decode cX15_isName 4 = .ok (.bipush 7, 2) := by decide +kernel
theorem dX15_isName_6 : decode cX15_isName 6 = .ok (.istore 4, 2) := by decide +kernel
theorem dX15_isName_8 : decode cX15_isName 8 = .ok (.iload 4, 2) := by decide +kernel
theorem dX15_isName_10 : decode cX15_isName 10 = .ok (.ifCond .lt 59, 3) := by decide +kernel
theorem dX15_isName_13 : decode cX15_isName 13 = .ok (.lload_n 0, 1) := by decide +kernel
theorem dX15_isName_14 : decode cX15_isName 14 = .ok (.iload 4, 2) := by decide +kernel
theorem dX15_isName_16 : decode cX15_isName 16 = .ok (.invokestatic 86, 3) := by decide +kernel
theorem dX15_isName_19 : decode cX15_isName 19 = .ok (.istore 5, 2) := by decide +kernel
theorem dX15_isName_21 : decode cX15_isName 21 = .ok (.iload_n 2, 1) := by decide +kernel
theorem dX15_isName_22 : decode cX15_isName 22 = .ok (.ifCond .eq 24, 3) := by decide +kernel
theorem dX15_isName_46 : decode cX15_isName 46 = .ok (.iconst 0, 1) := by decide +kernel
theorem dX15_isName_47 : decode cX15_isName 47 = .ok (.istore_n 2, 1) := by decide +kernel
theorem dX15_isName_48 : decode cX15_isName 48 = .ok (.iload_n 3, 1) := by decide +kernel
theorem dX15_isName_49 : decode cX15_isName 49 = .ok (.ifCond .ne 8, 3) := by decide +kernel
theorem dX15_isName_57 : decode cX15_isName 57 = .ok (.iconst 1, 1) := by decide +kernel
theorem dX15_isName_58 : decode cX15_isName 58 = .ok (.goto 4, 3) := by decide +kernel
theorem dX15_isName_62 : decode cX15_isName 62 = .ok (.istore_n 3, 1) := by decide +kernel
theorem dX15_isName_63 : decode cX15_isName 63 = .ok (.iinc 4 (-1), 3) := by decide +kernel
theorem dX15_isName_66 : decode cX15_isName 66 = .ok (.goto (-58), 3) := by decide +kernel
theorem dX15_isName_52 : decode cX15_isName 52 = .ok (.iload 5, 2) := by decide +kernel
theorem dX15_isName_54 : decode cX15_isName 54 = .ok (.ifCond .le 7, 3) := by decide +kernel
theorem dX15_isName_61 : decode cX15_isName 61 = .ok (.iconst 0, 1) := by decide +kernel
theorem dX15_isName_25 : decode cX15_isName 25 = .ok (.iload 5, 2) := by decide +kernel
theorem dX15_isName_27 : decode cX15_isName 27 = .ok (.invokestatic 125, 3) := by decide +kernel
theorem dX15_isName_30 : decode cX15_isName 30 = .ok (.ifCond .ne 12, 3) := by decide +kernel
theorem dX15_isName_42 : decode cX15_isName 42 = .ok (.iconst 1, 1) := by decide +kernel
theorem dX15_isName_43 : decode cX15_isName 43 = .ok (.goto 4, 3) := by decide +kernel
theorem dX15_isName_33 : decode cX15_isName 33 = .ok (.iload 5, 2) := by decide +kernel
theorem dX15_isName_35 : decode cX15_isName 35 = .ok (.ifCond .ne 11, 3) := by decide +kernel
theorem dX15_isName_38 : decode cX15_isName 38 = .ok (.iload_n 3, 1) := by decide +kernel
theorem dX15_isName_39 : decode cX15_isName 39 = .ok (.ifCond .ne 7, 3) := by decide +kernel
theorem dX15_isName_69 : decode cX15_isName 69 = .ok (.iload_n 2, 1) := by decide +kernel
theorem dX15_isName_70 : decode cX15_isName 70 = .ok (.ifCond .eq 11, 3) := by decide +kernel
theorem dX15_isName_81 : decode cX15_isName 81 = .ok (.iconst 0, 1) := by decide +kernel
theorem dX15_isName_82 : decode cX15_isName 82 = .ok (.ireturn, 1) := by decide +kernel
theorem dX15_isName_73 : decode cX15_isName 73 = .ok (.iload_n 3, 1) := by decide +kernel
theorem dX15_isName_74 : decode cX15_isName 74 = .ok (.ifCond .eq 7, 3) := by decide +kernel
theorem dX15_isName_77 : decode cX15_isName 77 = .ok (.iconst 1, 1) := by decide +kernel
theorem dX15_isName_78 : decode cX15_isName 78 = .ok (.goto 4, 3) := by decide +kernel
theorem zl_X15_84 : Cond.constantLong RX15 84 (255 : Int64) ∈ zk_E.2.2.1 := zk_b17 234 (by decide +kernel) rfl
theorem zl_X15_86 : zm_L zk_E RX15 86 yX15_byteOf (.code yX15_byteOf cX15_byteOf 3 (some .int)) 2 ∧ Cond.static yX15_byteOf ∈ zk_E.2.2.1 := ⟨⟨zk_b17 233 (by decide +kernel) rfl, zk_b1 15 (by decide +kernel) rfl, zk_b17 231 (by decide +kernel) rfl, by decide +kernel, by decide +kernel, by decide +kernel⟩, zk_b17 232 (by decide +kernel) rfl⟩
theorem zl_X15_7 : zm_F zk_E RX15 7 15 0 := ⟨RX15, TX15, 44, rfl, zk_i15, by decide, zk_b13 210 (by decide +kernel) rfl⟩
theorem zl_X15_90 : zm_F zk_E RX15 90 15 1 := ⟨RX15, TX15, 44, rfl, zk_i15, by decide, zk_b13 211 (by decide +kernel) rfl⟩
theorem zt_15_1 : zm_T zk_E RX15 15 1 .int false := ⟨RX15, TX15, 44, tyX15, rfl, tyX15_ok, nmX15, rfl, rfl, rfl⟩
theorem zl_X15_93 : zm_F zk_E RX15 93 15 27 := ⟨RX15, TX15, 44, rfl, zk_i15, by decide, zk_b14 2 (by decide +kernel) rfl⟩
theorem zt_15_27 : zm_T zk_E RX15 15 27 .int false := ⟨RX15, TX15, 44, tyX15, rfl, tyX15_ok, nmX15, rfl, rfl, rfl⟩
theorem zl_X15_96 : zm_F zk_E RX15 96 15 26 := ⟨RX15, TX15, 44, rfl, zk_i15, by decide, zk_b14 1 (by decide +kernel) rfl⟩
theorem zt_15_26 : zm_T zk_E RX15 15 26 .int false := ⟨RX15, TX15, 44, tyX15, rfl, tyX15_ok, nmX15, rfl, rfl, rfl⟩
theorem zl_X15_99 : zm_F zk_E RX15 99 15 28 := ⟨RX15, TX15, 44, rfl, zk_i15, by decide, zk_b14 3 (by decide +kernel) rfl⟩
theorem zt_15_28 : zm_T zk_E RX15 15 28 .int false := ⟨RX15, TX15, 44, tyX15, rfl, tyX15_ok, nmX15, rfl, rfl, rfl⟩
theorem zl_X15_102 : zm_F zk_E RX15 102 15 29 := ⟨RX15, TX15, 44, rfl, zk_i15, by decide, zk_b14 4 (by decide +kernel) rfl⟩
theorem zt_15_29 : zm_T zk_E RX15 15 29 .long false := ⟨RX15, TX15, 44, tyX15, rfl, tyX15_ok, nmX15, rfl, rfl, rfl⟩
theorem zl_X15_106 : zm_F zk_E RX15 106 15 30 := ⟨RX15, TX15, 44, rfl, zk_i15, by decide, zk_b14 5 (by decide +kernel) rfl⟩
theorem zt_15_30 : zm_T zk_E RX15 15 30 .int false := ⟨RX15, TX15, 44, tyX15, rfl, tyX15_ok, nmX15, rfl, rfl, rfl⟩
theorem zl_X15_109 : zm_L zk_E RX15 109 yX15_isDigit (.code yX15_isDigit cX15_isDigit 1 (some .boolean)) 1 ∧ Cond.static yX15_isDigit ∈ zk_E.2.2.1 := ⟨⟨zk_b18 17 (by decide +kernel) rfl, zk_b1 15 (by decide +kernel) rfl, zk_b18 15 (by decide +kernel) rfl, by decide +kernel, by decide +kernel, by decide +kernel⟩, zk_b18 16 (by decide +kernel) rfl⟩
theorem zl_X15_125 : zm_L zk_E RX15 125 yX15_isLetter (.code yX15_isLetter cX15_isLetter 1 (some .boolean)) 1 ∧ Cond.static yX15_isLetter ∈ zk_E.2.2.1 := ⟨⟨zk_b18 26 (by decide +kernel) rfl, zk_b1 15 (by decide +kernel) rfl, zk_b18 24 (by decide +kernel) rfl, by decide +kernel, by decide +kernel, by decide +kernel⟩, zk_b18 25 (by decide +kernel) rfl⟩
theorem zl_X15_113 : zm_L zk_E RX15 113 yX15_charAt (.code yX15_charAt cX15_charAt 2 (some .int)) 1 ∧ Cond.instanceMethod yX15_charAt ∈ zk_E.2.2.1 ∧ Cond.selects yX15_charAt.cls yX15_charAt yX15_charAt ∈ zk_E.2.2.1 := ⟨⟨zk_b18 21 (by decide +kernel) rfl, zk_b1 15 (by decide +kernel) rfl, zk_b18 18 (by decide +kernel) rfl, by decide +kernel, by decide +kernel, by decide +kernel⟩, zk_b18 20 (by decide +kernel) rfl, zk_s13 (q := (yX15_charAt, 44)) 6 (by decide +kernel)⟩
theorem zl_X15_128 : zm_L zk_E RX15 128 yX15_isSign (.code yX15_isSign cX15_isSign 1 (some .boolean)) 1 ∧ Cond.static yX15_isSign ∈ zk_E.2.2.1 := ⟨⟨zk_b18 29 (by decide +kernel) rfl, zk_b1 15 (by decide +kernel) rfl, zk_b18 27 (by decide +kernel) rfl, by decide +kernel, by decide +kernel, by decide +kernel⟩, zk_b18 28 (by decide +kernel) rfl⟩
theorem zl_X15_121 : zm_F zk_E RX15 121 15 31 := ⟨RX15, TX15, 44, rfl, zk_i15, by decide, zk_b14 6 (by decide +kernel) rfl⟩
theorem zt_15_31 : zm_T zk_E RX15 15 31 .boolean false := ⟨RX15, TX15, 44, tyX15, rfl, tyX15_ok, nmX15, rfl, rfl, rfl⟩
theorem zl_X15_117 : Cond.constantLong RX15 117 (10 : Int64) ∈ zk_E.2.2.1 := zk_b18 22 (by decide +kernel) rfl
theorem zl_X15_119 : Cond.constantLong RX15 119 (48 : Int64) ∈ zk_E.2.2.1 := zk_b18 23 (by decide +kernel) rfl
theorem zl_X15_131 : zm_L zk_E RX15 131 yX15_step (.code yX15_step cX15_step 3 none) 0 ∧ Cond.instanceMethod yX15_step ∈ zk_E.2.2.1 ∧ Cond.selects yX15_step.cls yX15_step yX15_step ∈ zk_E.2.2.1 := ⟨⟨zk_b18 14 (by decide +kernel) rfl, zk_b1 15 (by decide +kernel) rfl, zk_b18 11 (by decide +kernel) rfl, by decide +kernel, by decide +kernel, by decide +kernel⟩, zk_b18 13 (by decide +kernel) rfl, zk_s13 (q := (yX15_step, 44)) 5 (by decide +kernel)⟩
theorem zl_X15_44 : zm_F zk_E RX15 44 15 16 := ⟨RX15, TX15, 44, rfl, zk_i15, by decide, zk_b13 229 (by decide +kernel) rfl⟩
theorem zl_X15_134 : zm_F zk_E RX15 134 15 34 := ⟨RX15, TX15, 44, rfl, zk_i15, by decide, zk_b14 9 (by decide +kernel) rfl⟩
theorem zl_X15_47 : zm_F zk_E RX15 47 15 17 := ⟨RX15, TX15, 44, rfl, zk_i15, by decide, zk_b13 230 (by decide +kernel) rfl⟩
theorem zt_15_34 : zm_T zk_E RX15 15 34 .int false := ⟨RX15, TX15, 44, tyX15, rfl, tyX15_ok, nmX15, rfl, rfl, rfl⟩
theorem zl_X15_137 : zm_F zk_E RX15 137 15 36 := ⟨RX15, TX15, 44, rfl, zk_i15, by decide, zk_b14 11 (by decide +kernel) rfl⟩
theorem zl_X15_75 : zm_F zk_E RX15 75 15 35 := ⟨RX15, TX15, 44, rfl, zk_i15, by decide, zk_b14 10 (by decide +kernel) rfl⟩
theorem zt_15_36 : zm_T zk_E RX15 15 36 .int false := ⟨RX15, TX15, 44, tyX15, rfl, tyX15_ok, nmX15, rfl, rfl, rfl⟩
theorem zl_X15_140 : zm_L zk_E RX15 140 yX15_emit (.code yX15_emit cX15_emit 4 none) 2 ∧ Cond.instanceMethod yX15_emit ∈ zk_E.2.2.1 ∧ Cond.selects yX15_emit.cls yX15_emit yX15_emit ∈ zk_E.2.2.1 := ⟨⟨zk_b18 56 (by decide +kernel) rfl, zk_b1 15 (by decide +kernel) rfl, zk_b18 53 (by decide +kernel) rfl, by decide +kernel, by decide +kernel, by decide +kernel⟩, zk_b18 55 (by decide +kernel) rfl, zk_s13 (q := (yX15_emit, 44)) 12 (by decide +kernel)⟩
theorem zl_X15_144 : zm_L zk_E RX15 144 yX15_operation (.code yX15_operation cX15_operation 1 (some .int)) 1 ∧ Cond.static yX15_operation ∈ zk_E.2.2.1 := ⟨⟨zk_b18 52 (by decide +kernel) rfl, zk_b1 15 (by decide +kernel) rfl, zk_b18 50 (by decide +kernel) rfl, by decide +kernel, by decide +kernel, by decide +kernel⟩, zk_b18 51 (by decide +kernel) rfl⟩
theorem zl_X15_151 : zm_L zk_E RX15 151 yX15_unpile (.code yX15_unpile cX15_unpile 2 none) 1 ∧ Cond.instanceMethod yX15_unpile ∈ zk_E.2.2.1 ∧ Cond.selects yX15_unpile.cls yX15_unpile yX15_unpile ∈ zk_E.2.2.1 := ⟨⟨zk_b18 60 (by decide +kernel) rfl, zk_b1 15 (by decide +kernel) rfl, zk_b18 57 (by decide +kernel) rfl, by decide +kernel, by decide +kernel, by decide +kernel⟩, zk_b18 59 (by decide +kernel) rfl, zk_s13 (q := (yX15_unpile, 44)) 13 (by decide +kernel)⟩
theorem zl_X15_147 : zm_L zk_E RX15 147 yX15_take (.code yX15_take cX15_take 2 none) 1 ∧ Cond.instanceMethod yX15_take ∈ zk_E.2.2.1 ∧ Cond.selects yX15_take.cls yX15_take yX15_take ∈ zk_E.2.2.1 := ⟨⟨zk_b18 41 (by decide +kernel) rfl, zk_b1 15 (by decide +kernel) rfl, zk_b18 38 (by decide +kernel) rfl, by decide +kernel, by decide +kernel, by decide +kernel⟩, zk_b18 40 (by decide +kernel) rfl, zk_s13 (q := (yX15_take, 44)) 9 (by decide +kernel)⟩
theorem zl_X15_155 : zm_F zk_E RX15 155 15 33 := ⟨RX15, TX15, 44, rfl, zk_i15, by decide, zk_b14 8 (by decide +kernel) rfl⟩
theorem zt_15_33 : zm_T zk_E RX15 15 33 .int false := ⟨RX15, TX15, 44, tyX15, rfl, tyX15_ok, nmX15, rfl, rfl, rfl⟩
theorem zl_X15_32 : zm_F zk_E RX15 32 15 11 := ⟨RX15, TX15, 44, rfl, zk_i15, by decide, zk_b13 224 (by decide +kernel) rfl⟩
theorem zl_X15_158 : zm_L zk_E RX15 158 yX15_side (.code yX15_side cX15_side 6 none) 0 ∧ Cond.instanceMethod yX15_side ∈ zk_E.2.2.1 ∧ Cond.selects yX15_side.cls yX15_side yX15_side ∈ zk_E.2.2.1 := ⟨⟨zk_b18 49 (by decide +kernel) rfl, zk_b1 15 (by decide +kernel) rfl, zk_b18 46 (by decide +kernel) rfl, by decide +kernel, by decide +kernel, by decide +kernel⟩, zk_b18 48 (by decide +kernel) rfl, zk_s13 (q := (yX15_side, 44)) 11 (by decide +kernel)⟩
theorem zl_X15_35 : zm_F zk_E RX15 35 15 12 := ⟨RX15, TX15, 44, rfl, zk_i15, by decide, zk_b13 225 (by decide +kernel) rfl⟩
theorem zl_X15_41 : zm_F zk_E RX15 41 15 14 := ⟨RX15, TX15, 44, rfl, zk_i15, by decide, zk_b13 227 (by decide +kernel) rfl⟩
theorem zl_X15_161 : zm_L zk_E RX15 161 yX15_relation (.code yX15_relation cX15_relation 1 (some .int)) 1 ∧ Cond.static yX15_relation ∈ zk_E.2.2.1 := ⟨⟨zk_b18 63 (by decide +kernel) rfl, zk_b1 15 (by decide +kernel) rfl, zk_b18 61 (by decide +kernel) rfl, by decide +kernel, by decide +kernel, by decide +kernel⟩, zk_b18 62 (by decide +kernel) rfl⟩
theorem zl_X15_38 : zm_F zk_E RX15 38 15 13 := ⟨RX15, TX15, 44, rfl, zk_i15, by decide, zk_b13 226 (by decide +kernel) rfl⟩
theorem zl_X15_164 : zm_F zk_E RX15 164 15 32 := ⟨RX15, TX15, 44, rfl, zk_i15, by decide, zk_b14 7 (by decide +kernel) rfl⟩
theorem zl_X15_20 : zm_F zk_E RX15 20 15 6 := ⟨RX15, TX15, 44, rfl, zk_i15, by decide, zk_b13 219 (by decide +kernel) rfl⟩
theorem zt_15_32 : zm_T zk_E RX15 15 32 .int false := ⟨RX15, TX15, 44, tyX15, rfl, tyX15_ok, nmX15, rfl, rfl, rfl⟩
theorem zl_X15_23 : zm_F zk_E RX15 23 15 7 := ⟨RX15, TX15, 44, rfl, zk_i15, by decide, zk_b13 220 (by decide +kernel) rfl⟩
theorem zl_X15_26 : zm_F zk_E RX15 26 15 8 := ⟨RX15, TX15, 44, rfl, zk_i15, by decide, zk_b13 221 (by decide +kernel) rfl⟩
theorem zl_X15_29 : zm_F zk_E RX15 29 15 9 := ⟨RX15, TX15, 44, rfl, zk_i15, by decide, zk_b13 222 (by decide +kernel) rfl⟩
theorem zl_X15_171 : zm_L zk_E RX15 171 yX15_clause (.code yX15_clause cX15_clause 2 none) 0 ∧ Cond.instanceMethod yX15_clause ∈ zk_E.2.2.1 ∧ Cond.selects yX15_clause.cls yX15_clause yX15_clause ∈ zk_E.2.2.1 := ⟨⟨zk_b18 45 (by decide +kernel) rfl, zk_b1 15 (by decide +kernel) rfl, zk_b18 42 (by decide +kernel) rfl, by decide +kernel, by decide +kernel, by decide +kernel⟩, zk_b18 44 (by decide +kernel) rfl, zk_s13 (q := (yX15_clause, 44)) 10 (by decide +kernel)⟩
theorem zl_X15_167 : zm_L zk_E RX15 167 yX15_isNew (.code yX15_isNew cX15_isNew 5 (some .boolean)) 1 ∧ Cond.instanceMethod yX15_isNew ∈ zk_E.2.2.1 ∧ Cond.selects yX15_isNew.cls yX15_isNew yX15_isNew ∈ zk_E.2.2.1 := ⟨⟨zk_b18 37 (by decide +kernel) rfl, zk_b1 15 (by decide +kernel) rfl, zk_b18 34 (by decide +kernel) rfl, by decide +kernel, by decide +kernel, by decide +kernel⟩, zk_b18 36 (by decide +kernel) rfl, zk_s13 (q := (yX15_isNew, 44)) 8 (by decide +kernel)⟩
theorem zl_X15_174 : zm_F zk_E RX15 174 15 5 := ⟨RX15, TX15, 44, rfl, zk_i15, by decide, zk_b13 217 (by decide +kernel) rfl⟩
theorem zt_15_5 : zm_T zk_E RX15 15 5 .int false := ⟨RX15, TX15, 44, tyX15, rfl, tyX15_ok, nmX15, rfl, rfl, rfl⟩
theorem zl_X15_177 : zm_F zk_E RX15 177 15 10 := ⟨RX15, TX15, 44, rfl, zk_i15, by decide, zk_b13 223 (by decide +kernel) rfl⟩
theorem zt_15_10 : zm_T zk_E RX15 15 10 .int false := ⟨RX15, TX15, 44, tyX15, rfl, tyX15_ok, nmX15, rfl, rfl, rfl⟩
theorem zl_X15_180 : zm_F zk_E RX15 180 15 15 := ⟨RX15, TX15, 44, rfl, zk_i15, by decide, zk_b13 228 (by decide +kernel) rfl⟩
theorem zt_15_15 : zm_T zk_E RX15 15 15 .int false := ⟨RX15, TX15, 44, tyX15, rfl, tyX15_ok, nmX15, rfl, rfl, rfl⟩
theorem zl_X15_183 : zm_L zk_E RX15 183 yX15_rule (.code yX15_rule cX15_rule 2 none) 0 ∧ Cond.instanceMethod yX15_rule ∈ zk_E.2.2.1 ∧ Cond.selects yX15_rule.cls yX15_rule yX15_rule ∈ zk_E.2.2.1 := ⟨⟨zk_b18 33 (by decide +kernel) rfl, zk_b1 15 (by decide +kernel) rfl, zk_b18 30 (by decide +kernel) rfl, by decide +kernel, by decide +kernel, by decide +kernel⟩, zk_b18 32 (by decide +kernel) rfl, zk_s13 (q := (yX15_rule, 44)) 7 (by decide +kernel)⟩
theorem zl_X15_186 : zm_L zk_E RX15 186 yX15_adopt (.code yX15_adopt cX15_adopt 2 none) 0 ∧ Cond.instanceMethod yX15_adopt ∈ zk_E.2.2.1 ∧ Cond.selects yX15_adopt.cls yX15_adopt yX15_adopt ∈ zk_E.2.2.1 := ⟨⟨zk_b18 67 (by decide +kernel) rfl, zk_b1 15 (by decide +kernel) rfl, zk_b18 64 (by decide +kernel) rfl, by decide +kernel, by decide +kernel, by decide +kernel⟩, zk_b18 66 (by decide +kernel) rfl, zk_s13 (q := (yX15_adopt, 44)) 14 (by decide +kernel)⟩
theorem zl_X15_50 : zm_F zk_E RX15 50 15 18 := ⟨RX15, TX15, 44, rfl, zk_i15, by decide, zk_b13 231 (by decide +kernel) rfl⟩
theorem zt_15_18 : zm_T zk_E RX15 15 18 .int false := ⟨RX15, TX15, 44, tyX15, rfl, tyX15_ok, nmX15, rfl, rfl, rfl⟩
def zf_X14_done_J49 (N : Nat) (k : Nat → Int32 → Int32 → Int32 → zm_S → Option ((Int32 × zm_S) ⊕ ((Int32) × zm_S))) (a0 : Nat) (i1 : Int32) (i3 : Int32) (t0 : Int32) (t1 : Int32) (S : zm_S) : Option ((Int32 × zm_S) ⊕ ((Int32) × zm_S)) := k a0 i1 (t0 + t1) (i3 + (1 : Int32)) S
set_option maxHeartbeats 4000000 in
set_option maxRecDepth 100000 in
theorem zt_X14_done_J49 {p : Program} {l : Launch} {e : Env} {R : Room} {s : State} {m : MethodId} {args : Array Value} {below : List Frame} {meth : Method} {c : Code} {V : zm_V} {mc ms d rc rs : Nat} (hX : zm_X p R s m args meth c RX14 "done" cX14_done 4 zk_E V mc ms) (hr : meth.sig.returnType = (some .int)) (hR : R.frames = d ∧ R.locals = 64 * d) (hd : 1 ≤ d) {N : Nat} {k : Nat → Int32 → Int32 → Int32 → zm_S → Option ((Int32 × zm_S) ⊕ ((Int32) × zm_S))} {a0 : Nat} {i1 : Int32} {i3 : Int32} {t0 : Int32} {t1 : Int32} {res : (Int32 × zm_S) ⊕ ((Int32) × zm_S)} {out : (Int32 × zm_S)}   (hf : ∀ o, res = .inl o → o = out) (hk : ∀ (x2 : Int32) (S' : zm_S), res = .inr (x2, S') → zw p l e R s m args below meth c (vx_MQ below (zm_Qc zk_E V (zo_i out)) (zm_XC zk_E V zo_x) args s mc ms (fun q => V.2.2.2.1 ≤ q)) 4 zk_E V mc ms 57 [(2, .int x2)] [] S' rc rs) (hrec : ∀ (i2' : Int32) (i3' : Int32) (S : zm_S), k a0 i1 i2' i3' S = some res → zw p l e R s m args below meth c (vx_MQ below (zm_Qc zk_E V (zo_i out)) (zm_XC zk_E V zo_x) args s mc ms (fun q => V.2.2.2.1 ≤ q)) 4 zk_E V mc ms 4 [(0, .ref a0), (1, .int i1), (2, .int i2'), (3, .int i3')] [] S rc rs) {S : zm_S} (h : zf_X14_done_J49 N k a0 i1 i3 t0 t1 S = some res) : zw p l e R s m args below meth c (vx_MQ below (zm_Qc zk_E V (zo_i out)) (zm_XC zk_E V zo_x) args s mc ms (fun q => V.2.2.2.1 ≤ q)) 4 zk_E V mc ms 49 [(0, .ref a0), (1, .int i1), (3, .int i3)] [.int t1, .int t0] S rc rs := by
  unfold zf_X14_done_J49 at h
  refine zw_iadd hX dX14_done_49 ?_
  refine zw_istore_n hX dX14_done_50 (by decide) ?_
  refine zw_iinc (v := (i3 + (1 : Int32))) hX dX14_done_51 rfl rfl (by decide) ?_
  refine zw_goto (tgt := 4) hX dX14_done_54 (by decide) ?_
  refine zw_sub (lv' := [(0, .ref a0), (1, .int i1), (2, .int (t0 + t1)), (3, .int (i3 + (1 : Int32)))]) (List.forall_mem_cons.mpr ⟨rfl, (List.forall_mem_cons.mpr ⟨rfl, (List.forall_mem_cons.mpr ⟨rfl, (List.forall_mem_cons.mpr ⟨rfl, zs_nil⟩)⟩)⟩)⟩) ?_
  exact hrec _ _ _ h
def zf_X14_done_J48 (N : Nat) (k : Nat → Int32 → Int32 → Int32 → zm_S → Option ((Int32 × zm_S) ⊕ ((Int32) × zm_S))) (a0 : Nat) (i1 : Int32) (i3 : Int32) (t0 : Int32) (S : zm_S) : Option ((Int32 × zm_S) ⊕ ((Int32) × zm_S)) := zf_X14_done_J49 N (k) a0 i1 i3 t0 (0 : Int32) S
set_option maxHeartbeats 4000000 in
set_option maxRecDepth 100000 in
theorem zt_X14_done_J48 {p : Program} {l : Launch} {e : Env} {R : Room} {s : State} {m : MethodId} {args : Array Value} {below : List Frame} {meth : Method} {c : Code} {V : zm_V} {mc ms d rc rs : Nat} (hX : zm_X p R s m args meth c RX14 "done" cX14_done 4 zk_E V mc ms) (hr : meth.sig.returnType = (some .int)) (hR : R.frames = d ∧ R.locals = 64 * d) (hd : 1 ≤ d) {N : Nat} {k : Nat → Int32 → Int32 → Int32 → zm_S → Option ((Int32 × zm_S) ⊕ ((Int32) × zm_S))} {a0 : Nat} {i1 : Int32} {i3 : Int32} {t0 : Int32} {res : (Int32 × zm_S) ⊕ ((Int32) × zm_S)} {out : (Int32 × zm_S)}   (hf : ∀ o, res = .inl o → o = out) (hk : ∀ (x2 : Int32) (S' : zm_S), res = .inr (x2, S') → zw p l e R s m args below meth c (vx_MQ below (zm_Qc zk_E V (zo_i out)) (zm_XC zk_E V zo_x) args s mc ms (fun q => V.2.2.2.1 ≤ q)) 4 zk_E V mc ms 57 [(2, .int x2)] [] S' rc rs) (hrec : ∀ (i2' : Int32) (i3' : Int32) (S : zm_S), k a0 i1 i2' i3' S = some res → zw p l e R s m args below meth c (vx_MQ below (zm_Qc zk_E V (zo_i out)) (zm_XC zk_E V zo_x) args s mc ms (fun q => V.2.2.2.1 ≤ q)) 4 zk_E V mc ms 4 [(0, .ref a0), (1, .int i1), (2, .int i2'), (3, .int i3')] [] S rc rs) {S : zm_S} (h : zf_X14_done_J48 N k a0 i1 i3 t0 S = some res) : zw p l e R s m args below meth c (vx_MQ below (zm_Qc zk_E V (zo_i out)) (zm_XC zk_E V zo_x) args s mc ms (fun q => V.2.2.2.1 ≤ q)) 4 zk_E V mc ms 48 [(0, .ref a0), (1, .int i1), (3, .int i3)] [.int t0] S rc rs := by
  unfold zf_X14_done_J48 at h
  refine zw_iconst (v := (0 : Int32)) hX dX14_done_48 (by decide) ?_
  refine zw_sub (lv' := [(0, .ref a0), (1, .int i1), (3, .int i3)]) (List.forall_mem_cons.mpr ⟨rfl, (List.forall_mem_cons.mpr ⟨rfl, (List.forall_mem_cons.mpr ⟨rfl, zs_nil⟩)⟩)⟩) ?_
  exact zt_X14_done_J49 hX hr hR hd hf hk hrec h
def zf_X14_done_J44 (N : Nat) (k : Nat → Int32 → Int32 → Int32 → zm_S → Option ((Int32 × zm_S) ⊕ ((Int32) × zm_S))) (a0 : Nat) (i1 : Int32) (i3 : Int32) (t0 : Int32) (S : zm_S) : Option ((Int32 × zm_S) ⊕ ((Int32) × zm_S)) := zf_X14_done_J49 N (k) a0 i1 i3 t0 (1 : Int32) S
set_option maxHeartbeats 4000000 in
set_option maxRecDepth 100000 in
theorem zt_X14_done_J44 {p : Program} {l : Launch} {e : Env} {R : Room} {s : State} {m : MethodId} {args : Array Value} {below : List Frame} {meth : Method} {c : Code} {V : zm_V} {mc ms d rc rs : Nat} (hX : zm_X p R s m args meth c RX14 "done" cX14_done 4 zk_E V mc ms) (hr : meth.sig.returnType = (some .int)) (hR : R.frames = d ∧ R.locals = 64 * d) (hd : 1 ≤ d) {N : Nat} {k : Nat → Int32 → Int32 → Int32 → zm_S → Option ((Int32 × zm_S) ⊕ ((Int32) × zm_S))} {a0 : Nat} {i1 : Int32} {i3 : Int32} {t0 : Int32} {res : (Int32 × zm_S) ⊕ ((Int32) × zm_S)} {out : (Int32 × zm_S)}   (hf : ∀ o, res = .inl o → o = out) (hk : ∀ (x2 : Int32) (S' : zm_S), res = .inr (x2, S') → zw p l e R s m args below meth c (vx_MQ below (zm_Qc zk_E V (zo_i out)) (zm_XC zk_E V zo_x) args s mc ms (fun q => V.2.2.2.1 ≤ q)) 4 zk_E V mc ms 57 [(2, .int x2)] [] S' rc rs) (hrec : ∀ (i2' : Int32) (i3' : Int32) (S : zm_S), k a0 i1 i2' i3' S = some res → zw p l e R s m args below meth c (vx_MQ below (zm_Qc zk_E V (zo_i out)) (zm_XC zk_E V zo_x) args s mc ms (fun q => V.2.2.2.1 ≤ q)) 4 zk_E V mc ms 4 [(0, .ref a0), (1, .int i1), (2, .int i2'), (3, .int i3')] [] S rc rs) {S : zm_S} (h : zf_X14_done_J44 N k a0 i1 i3 t0 S = some res) : zw p l e R s m args below meth c (vx_MQ below (zm_Qc zk_E V (zo_i out)) (zm_XC zk_E V zo_x) args s mc ms (fun q => V.2.2.2.1 ≤ q)) 4 zk_E V mc ms 44 [(0, .ref a0), (1, .int i1), (3, .int i3)] [.int t0] S rc rs := by
  unfold zf_X14_done_J44 at h
  refine zw_iconst (v := (1 : Int32)) hX dX14_done_44 (by decide) ?_
  refine zw_goto (tgt := 49) hX dX14_done_45 (by decide) ?_
  refine zw_sub (lv' := [(0, .ref a0), (1, .int i1), (3, .int i3)]) (List.forall_mem_cons.mpr ⟨rfl, (List.forall_mem_cons.mpr ⟨rfl, (List.forall_mem_cons.mpr ⟨rfl, zs_nil⟩)⟩)⟩) ?_
  exact zt_X14_done_J49 hX hr hR hd hf hk hrec h
def zf_X14_done_L4 (N : Nat) : Nat → Nat → Int32 → Int32 → Int32 → zm_S → Option ((Int32 × zm_S) ⊕ ((Int32) × zm_S))
  | 0, _, _, _, _, _ => none
  | n + 1, a0, i1, i2, i3, S => if (20 : Int32) ≤ i3 then some (.inr (i2, S)) else (zg_r S a0 14 16).bind (fun b1 => (za_x S 2 b1 i3).bind (fun v2 => if v2 = 0 then zf_X14_done_J48 N (zf_X14_done_L4 N n) a0 i1 i3 i2 S else (zg_r S a0 14 26).bind (fun b3 => (za_x S 0 b3 i3).bind (fun v4 => if v4 = (2 : Int32) then if i1 < 0 then zf_X14_done_J44 N (zf_X14_done_L4 N n) a0 i1 i3 i2 S else (zg_r S a0 14 17).bind (fun b5 => (za_x S 0 b5 i3).bind (fun v6 => if v6 = i1 then zf_X14_done_J44 N (zf_X14_done_L4 N n) a0 i1 i3 i2 S else zf_X14_done_J48 N (zf_X14_done_L4 N n) a0 i1 i3 i2 S)) else zf_X14_done_J48 N (zf_X14_done_L4 N n) a0 i1 i3 i2 S))))
set_option maxHeartbeats 4000000 in
set_option maxRecDepth 100000 in
theorem zt_X14_done_L4 {p : Program} {l : Launch} {e : Env} {R : Room} {s : State} {m : MethodId} {args : Array Value} {below : List Frame} {meth : Method} {c : Code} {V : zm_V} {mc ms d rc rs : Nat} (hX : zm_X p R s m args meth c RX14 "done" cX14_done 4 zk_E V mc ms) (hr : meth.sig.returnType = (some .int)) (hR : R.frames = d ∧ R.locals = 64 * d) (hd : 1 ≤ d) {N : Nat} {res : (Int32 × zm_S) ⊕ ((Int32) × zm_S)} {out : (Int32 × zm_S)} (a0 : Nat) (i1 : Int32) (hf : ∀ o, res = .inl o → o = out) (hk : ∀ (x2 : Int32) (S' : zm_S), res = .inr (x2, S') → zw p l e R s m args below meth c (vx_MQ below (zm_Qc zk_E V (zo_i out)) (zm_XC zk_E V zo_x) args s mc ms (fun q => V.2.2.2.1 ≤ q)) 4 zk_E V mc ms 57 [(2, .int x2)] [] S' rc rs) : ∀ (n : Nat) (i2 : Int32) (i3 : Int32) (S : zm_S), zf_X14_done_L4 N n a0 i1 i2 i3 S = some res → zw p l e R s m args below meth c (vx_MQ below (zm_Qc zk_E V (zo_i out)) (zm_XC zk_E V zo_x) args s mc ms (fun q => V.2.2.2.1 ≤ q)) 4 zk_E V mc ms 4 [(0, .ref a0), (1, .int i1), (2, .int i2), (3, .int i3)] [] S rc rs := by
  intro n
  induction n with
  | zero => intro i2 i3 S h; cases h
  | succ n ih =>
    intro i2 i3 S h
    rw [zf_X14_done_L4] at h
    refine zw_iload_n hX dX14_done_4 rfl ?_
    refine zw_bipush (v := (20 : Int32)) hX dX14_done_5 (by decide) ?_
    refine zw_icmp_ge (tgt := 57) hX dX14_done_7 (by decide) (fun c7 => ?_) (fun c7 => ?_)
    · rw [if_pos c7] at h
      refine zw_sub (lv' := [(2, .int i2)]) (List.forall_mem_cons.mpr ⟨rfl, zs_nil⟩) ?_
      exact hk _ _ (Option.some.inj h).symm
    · rw [if_neg c7] at h
      refine zw_iload_n hX dX14_done_10 rfl ?_
      refine zw_aload_n hX dX14_done_11 rfl ?_
      obtain ⟨b1, g, h⟩ := zb_some h
      refine zw_getr hX zl_X14_41 dX14_done_12 g ?_
      refine zw_iload_n hX dX14_done_15 rfl ?_
      obtain ⟨v2, g, h⟩ := zb_some h
      refine zw_xz hX dX14_done_16 g ?_
      refine zw_if_eq (tgt := 48) hX dX14_done_17 (by decide) (fun c17 => ?_) (fun c17 => ?_)
      · rw [if_pos c17] at h
        refine zw_sub (lv' := [(0, .ref a0), (1, .int i1), (3, .int i3)]) (List.forall_mem_cons.mpr ⟨rfl, (List.forall_mem_cons.mpr ⟨rfl, (List.forall_mem_cons.mpr ⟨rfl, zs_nil⟩)⟩)⟩) ?_
        exact zt_X14_done_J48 hX hr hR hd hf hk ih h
      · rw [if_neg c17] at h
        refine zw_aload_n hX dX14_done_20 rfl ?_
        obtain ⟨b3, g, h⟩ := zb_some h
        refine zw_getr hX zl_X14_65 dX14_done_21 g ?_
        refine zw_iload_n hX dX14_done_24 rfl ?_
        obtain ⟨v4, g, h⟩ := zb_some h
        refine zw_xi hX dX14_done_25 g ?_
        refine zw_iconst (v := (2 : Int32)) hX dX14_done_26 (by decide) ?_
        refine zw_icmp_ne (tgt := 48) hX dX14_done_27 (by decide) (fun c27 => ?_) (fun c27 => ?_)
        · rw [if_neg c27] at h
          refine zw_sub (lv' := [(0, .ref a0), (1, .int i1), (3, .int i3)]) (List.forall_mem_cons.mpr ⟨rfl, (List.forall_mem_cons.mpr ⟨rfl, (List.forall_mem_cons.mpr ⟨rfl, zs_nil⟩)⟩)⟩) ?_
          exact zt_X14_done_J48 hX hr hR hd hf hk ih h
        · rw [if_pos c27] at h
          refine zw_iload_n hX dX14_done_30 rfl ?_
          refine zw_if_lt (tgt := 44) hX dX14_done_31 (by decide) (fun c31 => ?_) (fun c31 => ?_)
          · rw [if_pos c31] at h
            refine zw_sub (lv' := [(0, .ref a0), (1, .int i1), (3, .int i3)]) (List.forall_mem_cons.mpr ⟨rfl, (List.forall_mem_cons.mpr ⟨rfl, (List.forall_mem_cons.mpr ⟨rfl, zs_nil⟩)⟩)⟩) ?_
            exact zt_X14_done_J44 hX hr hR hd hf hk ih h
          · rw [if_neg c31] at h
            refine zw_aload_n hX dX14_done_34 rfl ?_
            obtain ⟨b5, g, h⟩ := zb_some h
            refine zw_getr hX zl_X14_44 dX14_done_35 g ?_
            refine zw_iload_n hX dX14_done_38 rfl ?_
            obtain ⟨v6, g, h⟩ := zb_some h
            refine zw_xi hX dX14_done_39 g ?_
            refine zw_iload_n hX dX14_done_40 rfl ?_
            refine zw_icmp_ne (tgt := 48) hX dX14_done_41 (by decide) (fun c41 => ?_) (fun c41 => ?_)
            · rw [if_neg c41] at h
              refine zw_sub (lv' := [(0, .ref a0), (1, .int i1), (3, .int i3)]) (List.forall_mem_cons.mpr ⟨rfl, (List.forall_mem_cons.mpr ⟨rfl, (List.forall_mem_cons.mpr ⟨rfl, zs_nil⟩)⟩)⟩) ?_
              exact zt_X14_done_J48 hX hr hR hd hf hk ih h
            · rw [if_pos c41] at h
              refine zw_sub (lv' := [(0, .ref a0), (1, .int i1), (3, .int i3)]) (List.forall_mem_cons.mpr ⟨rfl, (List.forall_mem_cons.mpr ⟨rfl, (List.forall_mem_cons.mpr ⟨rfl, zs_nil⟩)⟩)⟩) ?_
              exact zt_X14_done_J44 hX hr hR hd hf hk ih h
def zf_X14_done (N : Nat) (a0 : Nat) (i1 : Int32) (S : zm_S) : Option (Int32 × zm_S) := (zf_X14_done_L4 N N a0 i1 (0 : Int32) (0 : Int32) S).bind (fun r => match r with | .inl o => some o | .inr (v8, S7) => some (v8, S7))
set_option maxHeartbeats 4000000 in
set_option maxRecDepth 100000 in
theorem zt_X14_done {l : Launch} {V : zm_V} {N : Nat} {S : zm_S} {out : (Int32 × zm_S)} {d : Nat} {a0 : Nat} {i1 : Int32} (hd : 1 ≤ d) (h : zf_X14_done N a0 i1 S = some out) : zm_Met l zk_E V yX14_done (.code yX14_done cX14_done 4 (some .int)) d [.ref a0, .int i1] S 0 0 (zo_i out) zo_x := by
  refine zm_of (by decide +kernel) (Nat.le_of_ble_eq_true rfl) ?_
  intro p e R s m args below meth c hRR hX hr hxt
  have hR : R.frames = d ∧ R.locals = 64 * d := by rw [hRR]; exact ⟨rfl, rfl⟩
  have hX : zm_X p R s m args meth c RX14 "done" cX14_done 4 zk_E V 0 0 := hX
  unfold zf_X14_done at h
  refine zw_sub (lv' := [(0, .ref a0), (1, .int i1)]) (List.forall_mem_cons.mpr ⟨rfl, (List.forall_mem_cons.mpr ⟨rfl, zs_nil⟩)⟩) ?_
  refine zw_iconst (v := (0 : Int32)) hX dX14_done_0 (by decide) ?_
  refine zw_istore_n hX dX14_done_1 (by decide) ?_
  refine zw_iconst (v := (0 : Int32)) hX dX14_done_2 (by decide) ?_
  refine zw_istore_n hX dX14_done_3 (by decide) ?_
  obtain ⟨r, g, h⟩ := zb_some h
  refine zw_sub (lv' := [(0, .ref a0), (1, .int i1), (2, .int (0 : Int32)), (3, .int (0 : Int32))]) (List.forall_mem_cons.mpr ⟨rfl, (List.forall_mem_cons.mpr ⟨rfl, (List.forall_mem_cons.mpr ⟨rfl, (List.forall_mem_cons.mpr ⟨rfl, zs_nil⟩)⟩)⟩)⟩) ?_
  refine zt_X14_done_L4 hX hr hR hd (res := r) (out := out) a0 i1 ?_ ?_ N _ _ _ g
  · intro o ho
    subst ho
    exact Option.some.inj h
  · intro v8 S7 hx
    subst hx
    try dsimp only at h
    refine zw_iload_n hX dX14_done_57 rfl ?_
    obtain rfl := Option.some.inj h
    exact zw_iret hX hr dX14_done_58 rfl ⟨rfl, rfl⟩
def zf_X14_act (N : Nat) (a0 : Nat) (i1 : Int32) (i2 : Int32) (S : zm_S) : Option (Int32 × zm_S) := if i2 = 0 then (zg_r S a0 14 26).bind (fun b11 => (za_x S 0 b11 i1).bind (fun v12 => some (v12, S))) else if i2 = (1 : Int32) then (zg_r S a0 14 27).bind (fun b9 => (za_x S 0 b9 i1).bind (fun v10 => some (v10, S))) else if i2 = (2 : Int32) then (zg_r S a0 14 17).bind (fun b7 => (za_x S 0 b7 i1).bind (fun v8 => some (v8, S))) else if i2 = (3 : Int32) then (zg_r S a0 14 18).bind (fun b5 => (za_x S 0 b5 i1).bind (fun v6 => some (v6, S))) else if i2 = (4 : Int32) then (zg_r S a0 14 19).bind (fun b3 => (za_x S 0 b3 i1).bind (fun v4 => some (v4, S))) else (zg_r S a0 14 20).bind (fun b1 => (za_x S 2 b1 i1).bind (fun v2 => if v2 = 0 then some ((0 : Int32), S) else some ((1 : Int32), S)))
set_option maxHeartbeats 4000000 in
set_option maxRecDepth 100000 in
theorem zt_X14_act {l : Launch} {V : zm_V} {N : Nat} {S : zm_S} {out : (Int32 × zm_S)} {d : Nat} {a0 : Nat} {i1 : Int32} {i2 : Int32} (hd : 1 ≤ d) (h : zf_X14_act N a0 i1 i2 S = some out) : zm_Met l zk_E V yX14_act (.code yX14_act cX14_act 3 (some .int)) d [.ref a0, .int i1, .int i2] S 0 0 (zo_i out) zo_x := by
  refine zm_of (by decide +kernel) (Nat.le_of_ble_eq_true rfl) ?_
  intro p e R s m args below meth c hRR hX hr hxt
  have hR : R.frames = d ∧ R.locals = 64 * d := by rw [hRR]; exact ⟨rfl, rfl⟩
  have hX : zm_X p R s m args meth c RX14 "act" cX14_act 3 zk_E V 0 0 := hX
  unfold zf_X14_act at h
  refine zw_sub (lv' := [(0, .ref a0), (1, .int i1), (2, .int i2)]) (List.forall_mem_cons.mpr ⟨rfl, (List.forall_mem_cons.mpr ⟨rfl, (List.forall_mem_cons.mpr ⟨rfl, zs_nil⟩)⟩)⟩) ?_
  refine zw_iload_n hX dX14_act_0 rfl ?_
  refine zw_if_ne (tgt := 13) hX dX14_act_1 (by decide) (fun c1 => ?_) (fun c1 => ?_)
  · rw [if_neg c1] at h
    refine zw_iload_n hX dX14_act_13 rfl ?_
    refine zw_iconst (v := (1 : Int32)) hX dX14_act_14 (by decide) ?_
    refine zw_icmp_ne (tgt := 27) hX dX14_act_15 (by decide) (fun c15 => ?_) (fun c15 => ?_)
    · rw [if_neg c15] at h
      refine zw_iload_n hX dX14_act_27 rfl ?_
      refine zw_iconst (v := (2 : Int32)) hX dX14_act_28 (by decide) ?_
      refine zw_icmp_ne (tgt := 41) hX dX14_act_29 (by decide) (fun c29 => ?_) (fun c29 => ?_)
      · rw [if_neg c29] at h
        refine zw_iload_n hX dX14_act_41 rfl ?_
        refine zw_iconst (v := (3 : Int32)) hX dX14_act_42 (by decide) ?_
        refine zw_icmp_ne (tgt := 55) hX dX14_act_43 (by decide) (fun c43 => ?_) (fun c43 => ?_)
        · rw [if_neg c43] at h
          refine zw_iload_n hX dX14_act_55 rfl ?_
          refine zw_iconst (v := (4 : Int32)) hX dX14_act_56 (by decide) ?_
          refine zw_icmp_ne (tgt := 69) hX dX14_act_57 (by decide) (fun c57 => ?_) (fun c57 => ?_)
          · rw [if_neg c57] at h
            refine zw_aload_n hX dX14_act_69 rfl ?_
            obtain ⟨b1, g, h⟩ := zb_some h
            refine zw_getr hX zl_X14_53 dX14_act_70 g ?_
            refine zw_iload_n hX dX14_act_73 rfl ?_
            obtain ⟨v2, g, h⟩ := zb_some h
            refine zw_xz hX dX14_act_74 g ?_
            refine zw_if_eq (tgt := 82) hX dX14_act_75 (by decide) (fun c75 => ?_) (fun c75 => ?_)
            · rw [if_pos c75] at h
              refine zw_iconst (v := (0 : Int32)) hX dX14_act_82 (by decide) ?_
              obtain rfl := Option.some.inj h
              exact zw_iret hX hr dX14_act_83 rfl ⟨rfl, rfl⟩
            · rw [if_neg c75] at h
              refine zw_iconst (v := (1 : Int32)) hX dX14_act_78 (by decide) ?_
              refine zw_goto (tgt := 83) hX dX14_act_79 (by decide) ?_
              obtain rfl := Option.some.inj h
              exact zw_iret hX hr dX14_act_83 rfl ⟨rfl, rfl⟩
          · rw [if_pos c57] at h
            refine zw_aload_n hX dX14_act_60 rfl ?_
            obtain ⟨b3, g, h⟩ := zb_some h
            refine zw_getr hX zl_X14_50 dX14_act_61 g ?_
            refine zw_iload_n hX dX14_act_64 rfl ?_
            obtain ⟨v4, g, h⟩ := zb_some h
            refine zw_xi hX dX14_act_65 g ?_
            refine zw_goto (tgt := 83) hX dX14_act_66 (by decide) ?_
            obtain rfl := Option.some.inj h
            exact zw_iret hX hr dX14_act_83 rfl ⟨rfl, rfl⟩
        · rw [if_pos c43] at h
          refine zw_aload_n hX dX14_act_46 rfl ?_
          obtain ⟨b5, g, h⟩ := zb_some h
          refine zw_getr hX zl_X14_47 dX14_act_47 g ?_
          refine zw_iload_n hX dX14_act_50 rfl ?_
          obtain ⟨v6, g, h⟩ := zb_some h
          refine zw_xi hX dX14_act_51 g ?_
          refine zw_goto (tgt := 83) hX dX14_act_52 (by decide) ?_
          obtain rfl := Option.some.inj h
          exact zw_iret hX hr dX14_act_83 rfl ⟨rfl, rfl⟩
      · rw [if_pos c29] at h
        refine zw_aload_n hX dX14_act_32 rfl ?_
        obtain ⟨b7, g, h⟩ := zb_some h
        refine zw_getr hX zl_X14_44 dX14_act_33 g ?_
        refine zw_iload_n hX dX14_act_36 rfl ?_
        obtain ⟨v8, g, h⟩ := zb_some h
        refine zw_xi hX dX14_act_37 g ?_
        refine zw_goto (tgt := 83) hX dX14_act_38 (by decide) ?_
        obtain rfl := Option.some.inj h
        exact zw_iret hX hr dX14_act_83 rfl ⟨rfl, rfl⟩
    · rw [if_pos c15] at h
      refine zw_aload_n hX dX14_act_18 rfl ?_
      obtain ⟨b9, g, h⟩ := zb_some h
      refine zw_getr hX zl_X14_68 dX14_act_19 g ?_
      refine zw_iload_n hX dX14_act_22 rfl ?_
      obtain ⟨v10, g, h⟩ := zb_some h
      refine zw_xi hX dX14_act_23 g ?_
      refine zw_goto (tgt := 83) hX dX14_act_24 (by decide) ?_
      obtain rfl := Option.some.inj h
      exact zw_iret hX hr dX14_act_83 rfl ⟨rfl, rfl⟩
  · rw [if_pos c1] at h
    refine zw_aload_n hX dX14_act_4 rfl ?_
    obtain ⟨b11, g, h⟩ := zb_some h
    refine zw_getr hX zl_X14_65 dX14_act_5 g ?_
    refine zw_iload_n hX dX14_act_8 rfl ?_
    obtain ⟨v12, g, h⟩ := zb_some h
    refine zw_xi hX dX14_act_9 g ?_
    refine zw_goto (tgt := 83) hX dX14_act_10 (by decide) ?_
    obtain rfl := Option.some.inj h
    exact zw_iret hX hr dX14_act_83 rfl ⟨rfl, rfl⟩
def zf_X14_event (N : Nat) (a0 : Nat) (i1 : Int32) (i2 : Int32) (S : zm_S) : Option (Int32 × zm_S) := (zg_i S a0 14 30).bind (fun v1 => if i2 = 0 then (zg_r S a0 14 31).bind (fun b6 => (za_x S 0 b6 ((v1 - (1 : Int32)) - i1)).bind (fun v7 => some (v7, S))) else if i2 = (1 : Int32) then (zg_r S a0 14 32).bind (fun b4 => (za_x S 0 b4 ((v1 - (1 : Int32)) - i1)).bind (fun v5 => some (v5, S))) else (zg_r S a0 14 33).bind (fun b2 => (za_x S 0 b2 ((v1 - (1 : Int32)) - i1)).bind (fun v3 => some (v3, S))))
set_option maxHeartbeats 4000000 in
set_option maxRecDepth 100000 in
theorem zt_X14_event {l : Launch} {V : zm_V} {N : Nat} {S : zm_S} {out : (Int32 × zm_S)} {d : Nat} {a0 : Nat} {i1 : Int32} {i2 : Int32} (hd : 1 ≤ d) (h : zf_X14_event N a0 i1 i2 S = some out) : zm_Met l zk_E V yX14_event (.code yX14_event cX14_event 4 (some .int)) d [.ref a0, .int i1, .int i2] S 0 0 (zo_i out) zo_x := by
  refine zm_of (by decide +kernel) (Nat.le_of_ble_eq_true rfl) ?_
  intro p e R s m args below meth c hRR hX hr hxt
  have hR : R.frames = d ∧ R.locals = 64 * d := by rw [hRR]; exact ⟨rfl, rfl⟩
  have hX : zm_X p R s m args meth c RX14 "event" cX14_event 4 zk_E V 0 0 := hX
  unfold zf_X14_event at h
  refine zw_sub (lv' := [(0, .ref a0), (1, .int i1), (2, .int i2)]) (List.forall_mem_cons.mpr ⟨rfl, (List.forall_mem_cons.mpr ⟨rfl, (List.forall_mem_cons.mpr ⟨rfl, zs_nil⟩)⟩)⟩) ?_
  refine zw_aload_n hX dX14_event_0 rfl ?_
  obtain ⟨v1, g, h⟩ := zb_some h
  refine zw_geti hX zl_X14_221 dX14_event_1 g ?_
  refine zw_iconst (v := (1 : Int32)) hX dX14_event_4 (by decide) ?_
  refine zw_isub hX dX14_event_5 ?_
  refine zw_iload_n hX dX14_event_6 rfl ?_
  refine zw_isub hX dX14_event_7 ?_
  refine zw_istore_n hX dX14_event_8 (by decide) ?_
  refine zw_iload_n hX dX14_event_9 rfl ?_
  refine zw_if_ne (tgt := 22) hX dX14_event_10 (by decide) (fun c10 => ?_) (fun c10 => ?_)
  · rw [if_neg c10] at h
    refine zw_iload_n hX dX14_event_22 rfl ?_
    refine zw_iconst (v := (1 : Int32)) hX dX14_event_23 (by decide) ?_
    refine zw_icmp_ne (tgt := 36) hX dX14_event_24 (by decide) (fun c24 => ?_) (fun c24 => ?_)
    · rw [if_neg c24] at h
      refine zw_aload_n hX dX14_event_36 rfl ?_
      obtain ⟨b2, g, h⟩ := zb_some h
      refine zw_getr hX zl_X14_83 dX14_event_37 g ?_
      refine zw_iload_n hX dX14_event_40 rfl ?_
      obtain ⟨v3, g, h⟩ := zb_some h
      refine zw_xi hX dX14_event_41 g ?_
      obtain rfl := Option.some.inj h
      exact zw_iret hX hr dX14_event_42 rfl ⟨rfl, rfl⟩
    · rw [if_pos c24] at h
      refine zw_aload_n hX dX14_event_27 rfl ?_
      obtain ⟨b4, g, h⟩ := zb_some h
      refine zw_getr hX zl_X14_80 dX14_event_28 g ?_
      refine zw_iload_n hX dX14_event_31 rfl ?_
      obtain ⟨v5, g, h⟩ := zb_some h
      refine zw_xi hX dX14_event_32 g ?_
      refine zw_goto (tgt := 42) hX dX14_event_33 (by decide) ?_
      obtain rfl := Option.some.inj h
      exact zw_iret hX hr dX14_event_42 rfl ⟨rfl, rfl⟩
  · rw [if_pos c10] at h
    refine zw_aload_n hX dX14_event_13 rfl ?_
    obtain ⟨b6, g, h⟩ := zb_some h
    refine zw_getr hX zl_X14_77 dX14_event_14 g ?_
    refine zw_iload_n hX dX14_event_17 rfl ?_
    obtain ⟨v7, g, h⟩ := zb_some h
    refine zw_xi hX dX14_event_18 g ?_
    refine zw_goto (tgt := 42) hX dX14_event_19 (by decide) ?_
    obtain rfl := Option.some.inj h
    exact zw_iret hX hr dX14_event_42 rfl ⟨rfl, rfl⟩
def zf_X15_byteOf (N : Nat) (j0 : Int64) (i2 : Int32) (S : zm_S) : Option (Int32 × zm_S) := some ((((j0 >>> ((((8 : Int32) * i2)).toInt64 &&& 63)) &&& (255 : Int64))).toInt32, S)
set_option maxHeartbeats 4000000 in
set_option maxRecDepth 100000 in
theorem zt_X15_byteOf {l : Launch} {V : zm_V} {N : Nat} {S : zm_S} {out : (Int32 × zm_S)} {d : Nat} {j0 : Int64} {i2 : Int32} (hd : 1 ≤ d) (h : zf_X15_byteOf N j0 i2 S = some out) : zm_Met l zk_E V yX15_byteOf (.code yX15_byteOf cX15_byteOf 3 (some .int)) d [.long j0, .int i2] S 0 0 (zo_i out) zo_x := by
  refine zm_of (by decide +kernel) (Nat.le_of_ble_eq_true rfl) ?_
  intro p e R s m args below meth c hRR hX hr hxt
  have hR : R.frames = d ∧ R.locals = 64 * d := by rw [hRR]; exact ⟨rfl, rfl⟩
  have hX : zm_X p R s m args meth c RX15 "byteOf" cX15_byteOf 3 zk_E V 0 0 := hX
  unfold zf_X15_byteOf at h
  refine zw_sub (lv' := [(0, .long j0), (2, .int i2)]) (List.forall_mem_cons.mpr ⟨rfl, (List.forall_mem_cons.mpr ⟨rfl, zs_nil⟩)⟩) ?_
  refine zw_lload_n hX dX15_byteOf_0 rfl ?_
  refine zw_bipush (v := (8 : Int32)) hX dX15_byteOf_1 (by decide) ?_
  refine zw_iload_n hX dX15_byteOf_3 rfl ?_
  refine zw_imul hX dX15_byteOf_4 ?_
  refine zw_lshr hX dX15_byteOf_5 ?_
  refine zw_ldc2 (v := (255 : Int64)) hX dX15_byteOf_6 zl_X15_84 ?_
  refine zw_land hX dX15_byteOf_9 ?_
  refine zw_l2i hX dX15_byteOf_10 ?_
  obtain rfl := Option.some.inj h
  exact zw_iret hX hr dX15_byteOf_11 rfl ⟨rfl, rfl⟩
def zf_X15_characters_J49 (N : Nat) (k : Int64 → Int32 → Int32 → zm_S → Option ((Int32 × zm_S) ⊕ ((Int32) × zm_S))) (j0 : Int64) (i3 : Int32) (t0 : Int32) (t1 : Int32) (S : zm_S) : Option ((Int32 × zm_S) ⊕ ((Int32) × zm_S)) := k j0 (t0 + t1) (i3 + (1 : Int32)) S
set_option maxHeartbeats 4000000 in
set_option maxRecDepth 100000 in
theorem zt_X15_characters_J49 {p : Program} {l : Launch} {e : Env} {R : Room} {s : State} {m : MethodId} {args : Array Value} {below : List Frame} {meth : Method} {c : Code} {V : zm_V} {mc ms d rc rs : Nat} (hX : zm_X p R s m args meth c RX15 "characters" cX15_characters 5 zk_E V mc ms) (hr : meth.sig.returnType = (some .int)) (hR : R.frames = d ∧ R.locals = 64 * d) (hd : 2 ≤ d) {N : Nat} {k : Int64 → Int32 → Int32 → zm_S → Option ((Int32 × zm_S) ⊕ ((Int32) × zm_S))} {j0 : Int64} {i3 : Int32} {t0 : Int32} {t1 : Int32} {res : (Int32 × zm_S) ⊕ ((Int32) × zm_S)} {out : (Int32 × zm_S)}   (hf : ∀ o, res = .inl o → o = out) (hk : ∀ (x2 : Int32) (S' : zm_S), res = .inr (x2, S') → zw p l e R s m args below meth c (vx_MQ below (zm_Qc zk_E V (zo_i out)) (zm_XC zk_E V zo_x) args s mc ms (fun q => V.2.2.2.1 ≤ q)) 5 zk_E V mc ms 57 [(2, .int x2)] [] S' rc rs) (hrec : ∀ (i2' : Int32) (i3' : Int32) (S : zm_S), k j0 i2' i3' S = some res → zw p l e R s m args below meth c (vx_MQ below (zm_Qc zk_E V (zo_i out)) (zm_XC zk_E V zo_x) args s mc ms (fun q => V.2.2.2.1 ≤ q)) 5 zk_E V mc ms 4 [(0, .long j0), (2, .int i2'), (3, .int i3')] [] S rc rs) {S : zm_S} (h : zf_X15_characters_J49 N k j0 i3 t0 t1 S = some res) : zw p l e R s m args below meth c (vx_MQ below (zm_Qc zk_E V (zo_i out)) (zm_XC zk_E V zo_x) args s mc ms (fun q => V.2.2.2.1 ≤ q)) 5 zk_E V mc ms 49 [(0, .long j0), (3, .int i3)] [.int t1, .int t0] S rc rs := by
  unfold zf_X15_characters_J49 at h
  refine zw_iadd hX dX15_characters_49 ?_
  refine zw_istore_n hX dX15_characters_50 (by decide) ?_
  refine zw_iinc (v := (i3 + (1 : Int32))) hX dX15_characters_51 rfl rfl (by decide) ?_
  refine zw_goto (tgt := 4) hX dX15_characters_54 (by decide) ?_
  refine zw_sub (lv' := [(0, .long j0), (2, .int (t0 + t1)), (3, .int (i3 + (1 : Int32)))]) (List.forall_mem_cons.mpr ⟨rfl, (List.forall_mem_cons.mpr ⟨rfl, (List.forall_mem_cons.mpr ⟨rfl, zs_nil⟩)⟩)⟩) ?_
  exact hrec _ _ _ h
def zf_X15_characters_J29 (N : Nat) (k : Int64 → Int32 → Int32 → zm_S → Option ((Int32 × zm_S) ⊕ ((Int32) × zm_S))) (j0 : Int64) (i2 : Int32) (i3 : Int32) (i4 : Int32) (S : zm_S) : Option ((Int32 × zm_S) ⊕ ((Int32) × zm_S)) := if i4 ≤ (126 : Int32) then if i4 ≤ 0 then zf_X15_characters_J49 N (k) j0 i3 i2 (0 : Int32) S else zf_X15_characters_J49 N (k) j0 i3 i2 (1 : Int32) S else some (.inl ((-1 : Int32), S))
set_option maxHeartbeats 4000000 in
set_option maxRecDepth 100000 in
theorem zt_X15_characters_J29 {p : Program} {l : Launch} {e : Env} {R : Room} {s : State} {m : MethodId} {args : Array Value} {below : List Frame} {meth : Method} {c : Code} {V : zm_V} {mc ms d rc rs : Nat} (hX : zm_X p R s m args meth c RX15 "characters" cX15_characters 5 zk_E V mc ms) (hr : meth.sig.returnType = (some .int)) (hR : R.frames = d ∧ R.locals = 64 * d) (hd : 2 ≤ d) {N : Nat} {k : Int64 → Int32 → Int32 → zm_S → Option ((Int32 × zm_S) ⊕ ((Int32) × zm_S))} {j0 : Int64} {i2 : Int32} {i3 : Int32} {i4 : Int32} {res : (Int32 × zm_S) ⊕ ((Int32) × zm_S)} {out : (Int32 × zm_S)}   (hf : ∀ o, res = .inl o → o = out) (hk : ∀ (x2 : Int32) (S' : zm_S), res = .inr (x2, S') → zw p l e R s m args below meth c (vx_MQ below (zm_Qc zk_E V (zo_i out)) (zm_XC zk_E V zo_x) args s mc ms (fun q => V.2.2.2.1 ≤ q)) 5 zk_E V mc ms 57 [(2, .int x2)] [] S' rc rs) (hrec : ∀ (i2' : Int32) (i3' : Int32) (S : zm_S), k j0 i2' i3' S = some res → zw p l e R s m args below meth c (vx_MQ below (zm_Qc zk_E V (zo_i out)) (zm_XC zk_E V zo_x) args s mc ms (fun q => V.2.2.2.1 ≤ q)) 5 zk_E V mc ms 4 [(0, .long j0), (2, .int i2'), (3, .int i3')] [] S rc rs) {S : zm_S} (h : zf_X15_characters_J29 N k j0 i2 i3 i4 S = some res) : zw p l e R s m args below meth c (vx_MQ below (zm_Qc zk_E V (zo_i out)) (zm_XC zk_E V zo_x) args s mc ms (fun q => V.2.2.2.1 ≤ q)) 5 zk_E V mc ms 29 [(0, .long j0), (2, .int i2), (3, .int i3), (4, .int i4)] [] S rc rs := by
  unfold zf_X15_characters_J29 at h
  refine zw_iload hX dX15_characters_29 rfl ?_
  refine zw_bipush (v := (126 : Int32)) hX dX15_characters_31 (by decide) ?_
  refine zw_icmp_le (tgt := 38) hX dX15_characters_33 (by decide) (fun c33 => ?_) (fun c33 => ?_)
  · rw [if_pos c33] at h
    refine zw_iload_n hX dX15_characters_38 rfl ?_
    refine zw_iload hX dX15_characters_39 rfl ?_
    refine zw_if_le (tgt := 48) hX dX15_characters_41 (by decide) (fun c41 => ?_) (fun c41 => ?_)
    · rw [if_pos c41] at h
      refine zw_iconst (v := (0 : Int32)) hX dX15_characters_48 (by decide) ?_
      refine zw_sub (lv' := [(0, .long j0), (3, .int i3)]) (List.forall_mem_cons.mpr ⟨rfl, (List.forall_mem_cons.mpr ⟨rfl, zs_nil⟩)⟩) ?_
      exact zt_X15_characters_J49 hX hr hR hd hf hk hrec h
    · rw [if_neg c41] at h
      refine zw_iconst (v := (1 : Int32)) hX dX15_characters_44 (by decide) ?_
      refine zw_goto (tgt := 49) hX dX15_characters_45 (by decide) ?_
      refine zw_sub (lv' := [(0, .long j0), (3, .int i3)]) (List.forall_mem_cons.mpr ⟨rfl, (List.forall_mem_cons.mpr ⟨rfl, zs_nil⟩)⟩) ?_
      exact zt_X15_characters_J49 hX hr hR hd hf hk hrec h
  · rw [if_neg c33] at h
    refine zw_iconst (v := (-1 : Int32)) hX dX15_characters_36 (by decide) ?_
    have hz := hf _ (Option.some.inj h).symm
    subst hz
    exact zw_iret hX hr dX15_characters_37 rfl ⟨rfl, rfl⟩
def zf_X15_characters_L4 (N : Nat) : Nat → Int64 → Int32 → Int32 → zm_S → Option ((Int32 × zm_S) ⊕ ((Int32) × zm_S))
  | 0, _, _, _, _ => none
  | n + 1, j0, i2, i3, S => if (8 : Int32) ≤ i3 then some (.inr (i2, S)) else (zf_X15_byteOf N j0 i3 S).bind (fun r3 => if r3.1 ≤ 0 then zf_X15_characters_J29 N (zf_X15_characters_L4 N n) j0 i2 i3 r3.1 r3.2 else if r3.1 < (32 : Int32) then some (.inl ((-1 : Int32), r3.2)) else zf_X15_characters_J29 N (zf_X15_characters_L4 N n) j0 i2 i3 r3.1 r3.2)
set_option maxHeartbeats 4000000 in
set_option maxRecDepth 100000 in
theorem zt_X15_characters_L4 {p : Program} {l : Launch} {e : Env} {R : Room} {s : State} {m : MethodId} {args : Array Value} {below : List Frame} {meth : Method} {c : Code} {V : zm_V} {mc ms d rc rs : Nat} (hX : zm_X p R s m args meth c RX15 "characters" cX15_characters 5 zk_E V mc ms) (hr : meth.sig.returnType = (some .int)) (hR : R.frames = d ∧ R.locals = 64 * d) (hd : 2 ≤ d) {N : Nat} {res : (Int32 × zm_S) ⊕ ((Int32) × zm_S)} {out : (Int32 × zm_S)} (j0 : Int64) (hf : ∀ o, res = .inl o → o = out) (hk : ∀ (x2 : Int32) (S' : zm_S), res = .inr (x2, S') → zw p l e R s m args below meth c (vx_MQ below (zm_Qc zk_E V (zo_i out)) (zm_XC zk_E V zo_x) args s mc ms (fun q => V.2.2.2.1 ≤ q)) 5 zk_E V mc ms 57 [(2, .int x2)] [] S' rc rs) : ∀ (n : Nat) (i2 : Int32) (i3 : Int32) (S : zm_S), zf_X15_characters_L4 N n j0 i2 i3 S = some res → zw p l e R s m args below meth c (vx_MQ below (zm_Qc zk_E V (zo_i out)) (zm_XC zk_E V zo_x) args s mc ms (fun q => V.2.2.2.1 ≤ q)) 5 zk_E V mc ms 4 [(0, .long j0), (2, .int i2), (3, .int i3)] [] S rc rs := by
  intro n
  induction n with
  | zero => intro i2 i3 S h; cases h
  | succ n ih =>
    intro i2 i3 S h
    rw [zf_X15_characters_L4] at h
    refine zw_iload_n hX dX15_characters_4 rfl ?_
    refine zw_bipush (v := (8 : Int32)) hX dX15_characters_5 (by decide) ?_
    refine zw_icmp_ge (tgt := 57) hX dX15_characters_7 (by decide) (fun c7 => ?_) (fun c7 => ?_)
    · rw [if_pos c7] at h
      refine zw_sub (lv' := [(2, .int i2)]) (List.forall_mem_cons.mpr ⟨rfl, zs_nil⟩) ?_
      exact hk _ _ (Option.some.inj h).symm
    · rw [if_neg c7] at h
      refine zw_lload_n hX dX15_characters_10 rfl ?_
      refine zw_iload_n hX dX15_characters_11 rfl ?_
      obtain ⟨r3, g, h⟩ := zb_some h
      refine zc_Si (as := [.long j0, .int i3]) hX (zt_X15_byteOf (d := d - 1) (by omega) g) zl_X15_86 dX15_characters_12 ⟨rfl, rfl, Nat.le_of_ble_eq_true rfl⟩ ⟨by omega, by omega⟩ ?_
      refine zw_istore hX dX15_characters_15 (by decide) ?_
      refine zw_iload hX dX15_characters_17 rfl ?_
      refine zw_if_le (tgt := 29) hX dX15_characters_19 (by decide) (fun c19 => ?_) (fun c19 => ?_)
      · rw [if_pos c19] at h
        refine zw_sub (lv' := [(0, .long j0), (2, .int i2), (3, .int i3), (4, .int r3.1)]) (List.forall_mem_cons.mpr ⟨rfl, (List.forall_mem_cons.mpr ⟨rfl, (List.forall_mem_cons.mpr ⟨rfl, (List.forall_mem_cons.mpr ⟨rfl, zs_nil⟩)⟩)⟩)⟩) ?_
        exact zt_X15_characters_J29 hX hr hR hd hf hk ih h
      · rw [if_neg c19] at h
        refine zw_iload hX dX15_characters_22 rfl ?_
        refine zw_bipush (v := (32 : Int32)) hX dX15_characters_24 (by decide) ?_
        refine zw_icmp_lt (tgt := 36) hX dX15_characters_26 (by decide) (fun c26 => ?_) (fun c26 => ?_)
        · rw [if_pos c26] at h
          refine zw_iconst (v := (-1 : Int32)) hX dX15_characters_36 (by decide) ?_
          have hz := hf _ (Option.some.inj h).symm
          subst hz
          exact zw_iret hX hr dX15_characters_37 rfl ⟨rfl, rfl⟩
        · rw [if_neg c26] at h
          refine zw_sub (lv' := [(0, .long j0), (2, .int i2), (3, .int i3), (4, .int r3.1)]) (List.forall_mem_cons.mpr ⟨rfl, (List.forall_mem_cons.mpr ⟨rfl, (List.forall_mem_cons.mpr ⟨rfl, (List.forall_mem_cons.mpr ⟨rfl, zs_nil⟩)⟩)⟩)⟩) ?_
          exact zt_X15_characters_J29 hX hr hR hd hf hk ih h
def zf_X15_characters (N : Nat) (j0 : Int64) (S : zm_S) : Option (Int32 × zm_S) := (zf_X15_characters_L4 N N j0 (0 : Int32) (0 : Int32) S).bind (fun r => match r with | .inl o => some o | .inr (v5, S4) => some (v5, S4))
set_option maxHeartbeats 4000000 in
set_option maxRecDepth 100000 in
theorem zt_X15_characters {l : Launch} {V : zm_V} {N : Nat} {S : zm_S} {out : (Int32 × zm_S)} {d : Nat} {j0 : Int64} (hd : 2 ≤ d) (h : zf_X15_characters N j0 S = some out) : zm_Met l zk_E V yX15_characters (.code yX15_characters cX15_characters 5 (some .int)) d [.long j0] S 0 0 (zo_i out) zo_x := by
  refine zm_of (by decide +kernel) (Nat.le_of_ble_eq_true rfl) ?_
  intro p e R s m args below meth c hRR hX hr hxt
  have hR : R.frames = d ∧ R.locals = 64 * d := by rw [hRR]; exact ⟨rfl, rfl⟩
  have hX : zm_X p R s m args meth c RX15 "characters" cX15_characters 5 zk_E V 0 0 := hX
  unfold zf_X15_characters at h
  refine zw_sub (lv' := [(0, .long j0)]) (List.forall_mem_cons.mpr ⟨rfl, zs_nil⟩) ?_
  refine zw_iconst (v := (0 : Int32)) hX dX15_characters_0 (by decide) ?_
  refine zw_istore_n hX dX15_characters_1 (by decide) ?_
  refine zw_iconst (v := (0 : Int32)) hX dX15_characters_2 (by decide) ?_
  refine zw_istore_n hX dX15_characters_3 (by decide) ?_
  obtain ⟨r, g, h⟩ := zb_some h
  refine zw_sub (lv' := [(0, .long j0), (2, .int (0 : Int32)), (3, .int (0 : Int32))]) (List.forall_mem_cons.mpr ⟨rfl, (List.forall_mem_cons.mpr ⟨rfl, (List.forall_mem_cons.mpr ⟨rfl, zs_nil⟩)⟩)⟩) ?_
  refine zt_X15_characters_L4 hX hr hR hd (res := r) (out := out) j0 ?_ ?_ N _ _ _ g
  · intro o ho
    subst ho
    exact Option.some.inj h
  · intro v5 S4 hx
    subst hx
    try dsimp only at h
    refine zw_iload_n hX dX15_characters_57 rfl ?_
    obtain rfl := Option.some.inj h
    exact zw_iret hX hr dX15_characters_58 rfl ⟨rfl, rfl⟩
def zf_X15_say_L3 (N : Nat) : Nat → Nat → Int64 → Int32 → zm_S → Option ((Int32 × zm_S) ⊕ ((Unit) × zm_S))
  | 0, _, _, _, _ => none
  | n + 1, a0, j1, i3, S => if i3 < 0 then some (.inr ((), S)) else (zf_X15_byteOf N j1 i3 S).bind (fun r3 => if r3.1 ≤ 0 then zf_X15_say_L3 N n a0 j1 (i3 + (-1 : Int32)) r3.2 else (zg_r r3.2 a0 15 0).bind (fun b4 => (zg_i r3.2 a0 15 1).bind (fun v5 => (zf_X15_byteOf N j1 i3 r3.2).bind (fun r8 => (zs_i r8.2 b4 v5 r8.1).bind (fun S9 => (zg_i S9 a0 15 1).bind (fun v10 => (zp S9 a0 15 1 (.int (v10 + (1 : Int32)))).bind (fun S11 => zf_X15_say_L3 N n a0 j1 (i3 + (-1 : Int32)) S11)))))))
set_option maxHeartbeats 4000000 in
set_option maxRecDepth 100000 in
theorem zt_X15_say_L3 {p : Program} {l : Launch} {e : Env} {R : Room} {s : State} {m : MethodId} {args : Array Value} {below : List Frame} {meth : Method} {c : Code} {V : zm_V} {mc ms d rc rs : Nat} (hX : zm_X p R s m args meth c RX15 "say" cX15_say 4 zk_E V mc ms) (hr : meth.sig.returnType = (some .int)) (hR : R.frames = d ∧ R.locals = 64 * d) (hd : 2 ≤ d) {N : Nat} {res : (Int32 × zm_S) ⊕ ((Unit) × zm_S)} {out : (Int32 × zm_S)} (a0 : Nat) (j1 : Int64) (hf : ∀ o, res = .inl o → o = out) (hk : ∀ (S' : zm_S), res = .inr ((), S') → zw p l e R s m args below meth c (vx_MQ below (zm_Qc zk_E V (zo_i out)) (zm_XC zk_E V zo_x) args s mc ms (fun q => V.2.2.2.1 ≤ q)) 4 zk_E V mc ms 45 [(0, .ref a0)] [] S' rc rs) : ∀ (n : Nat) (i3 : Int32) (S : zm_S), zf_X15_say_L3 N n a0 j1 i3 S = some res → zw p l e R s m args below meth c (vx_MQ below (zm_Qc zk_E V (zo_i out)) (zm_XC zk_E V zo_x) args s mc ms (fun q => V.2.2.2.1 ≤ q)) 4 zk_E V mc ms 3 [(0, .ref a0), (1, .long j1), (3, .int i3)] [] S rc rs := by
  intro n
  induction n with
  | zero => intro i3 S h; cases h
  | succ n ih =>
    intro i3 S h
    rw [zf_X15_say_L3] at h
    refine zw_iload_n hX dX15_say_3 rfl ?_
    refine zw_if_lt (tgt := 45) hX dX15_say_4 (by decide) (fun c4 => ?_) (fun c4 => ?_)
    · rw [if_pos c4] at h
      refine zw_sub (lv' := [(0, .ref a0)]) (List.forall_mem_cons.mpr ⟨rfl, zs_nil⟩) ?_
      exact hk  _ (Option.some.inj h).symm
    · rw [if_neg c4] at h
      refine zw_lload_n hX dX15_say_7 rfl ?_
      refine zw_iload_n hX dX15_say_8 rfl ?_
      obtain ⟨r3, g, h⟩ := zb_some h
      refine zc_Si (as := [.long j1, .int i3]) hX (zt_X15_byteOf (d := d - 1) (by omega) g) zl_X15_86 dX15_say_9 ⟨rfl, rfl, Nat.le_of_ble_eq_true rfl⟩ ⟨by omega, by omega⟩ ?_
      refine zw_if_le (tgt := 39) hX dX15_say_12 (by decide) (fun c12 => ?_) (fun c12 => ?_)
      · rw [if_pos c12] at h
        refine zw_iinc (v := (i3 + (-1 : Int32))) hX dX15_say_39 rfl rfl (by decide) ?_
        refine zw_goto (tgt := 3) hX dX15_say_42 (by decide) ?_
        refine zw_sub (lv' := [(0, .ref a0), (1, .long j1), (3, .int (i3 + (-1 : Int32)))]) (List.forall_mem_cons.mpr ⟨rfl, (List.forall_mem_cons.mpr ⟨rfl, (List.forall_mem_cons.mpr ⟨rfl, zs_nil⟩)⟩)⟩) ?_
        exact ih _ _ h
      · rw [if_neg c12] at h
        refine zw_aload_n hX dX15_say_15 rfl ?_
        obtain ⟨b4, g, h⟩ := zb_some h
        refine zw_getr hX zl_X15_7 dX15_say_16 g ?_
        refine zw_aload_n hX dX15_say_19 rfl ?_
        obtain ⟨v5, g, h⟩ := zb_some h
        refine zw_geti hX zl_X15_90 dX15_say_20 g ?_
        refine zw_lload_n hX dX15_say_23 rfl ?_
        refine zw_iload_n hX dX15_say_24 rfl ?_
        obtain ⟨r8, g, h⟩ := zb_some h
        refine zc_Si (as := [.long j1, .int i3]) hX (zt_X15_byteOf (d := d - 1) (by omega) g) zl_X15_86 dX15_say_25 ⟨rfl, rfl, Nat.le_of_ble_eq_true rfl⟩ ⟨by omega, by omega⟩ ?_
        obtain ⟨S9, g, h⟩ := zb_some h
        refine zw_si hX dX15_say_28 g ?_
        refine zw_aload_n hX dX15_say_29 rfl ?_
        refine zw_dup hX dX15_say_30 rfl ?_
        obtain ⟨v10, g, h⟩ := zb_some h
        refine zw_geti hX zl_X15_90 dX15_say_31 g ?_
        refine zw_iconst (v := (1 : Int32)) hX dX15_say_34 (by decide) ?_
        refine zw_iadd hX dX15_say_35 ?_
        obtain ⟨S11, g, h⟩ := zb_some h
        refine zw_putv hX zl_X15_90 zt_15_1 dX15_say_36 rfl rfl g ?_
        refine zw_iinc (v := (i3 + (-1 : Int32))) hX dX15_say_39 rfl rfl (by decide) ?_
        refine zw_goto (tgt := 3) hX dX15_say_42 (by decide) ?_
        refine zw_sub (lv' := [(0, .ref a0), (1, .long j1), (3, .int (i3 + (-1 : Int32)))]) (List.forall_mem_cons.mpr ⟨rfl, (List.forall_mem_cons.mpr ⟨rfl, (List.forall_mem_cons.mpr ⟨rfl, zs_nil⟩)⟩)⟩) ?_
        exact ih _ _ h
def zf_X15_say (N : Nat) (a0 : Nat) (j1 : Int64) (S : zm_S) : Option (Int32 × zm_S) := (zf_X15_say_L3 N N a0 j1 (7 : Int32) S).bind (fun r => match r with | .inl o => some o | .inr (_, S12) => (zg_i S12 a0 15 1).bind (fun v13 => some (v13, S12)))
set_option maxHeartbeats 4000000 in
set_option maxRecDepth 100000 in
theorem zt_X15_say {l : Launch} {V : zm_V} {N : Nat} {S : zm_S} {out : (Int32 × zm_S)} {d : Nat} {a0 : Nat} {j1 : Int64} (hd : 2 ≤ d) (h : zf_X15_say N a0 j1 S = some out) : zm_Met l zk_E V yX15_say (.code yX15_say cX15_say 4 (some .int)) d [.ref a0, .long j1] S 0 0 (zo_i out) zo_x := by
  refine zm_of (by decide +kernel) (Nat.le_of_ble_eq_true rfl) ?_
  intro p e R s m args below meth c hRR hX hr hxt
  have hR : R.frames = d ∧ R.locals = 64 * d := by rw [hRR]; exact ⟨rfl, rfl⟩
  have hX : zm_X p R s m args meth c RX15 "say" cX15_say 4 zk_E V 0 0 := hX
  unfold zf_X15_say at h
  refine zw_sub (lv' := [(0, .ref a0), (1, .long j1)]) (List.forall_mem_cons.mpr ⟨rfl, (List.forall_mem_cons.mpr ⟨rfl, zs_nil⟩)⟩) ?_
  refine zw_bipush (v := (7 : Int32)) hX dX15_say_0 (by decide) ?_
  refine zw_istore_n hX dX15_say_2 (by decide) ?_
  obtain ⟨r, g, h⟩ := zb_some h
  refine zw_sub (lv' := [(0, .ref a0), (1, .long j1), (3, .int (7 : Int32))]) (List.forall_mem_cons.mpr ⟨rfl, (List.forall_mem_cons.mpr ⟨rfl, (List.forall_mem_cons.mpr ⟨rfl, zs_nil⟩)⟩)⟩) ?_
  refine zt_X15_say_L3 hX hr hR hd (res := r) (out := out) a0 j1 ?_ ?_ N _ _ g
  · intro o ho
    subst ho
    exact Option.some.inj h
  · intro  S12 hx
    subst hx
    try dsimp only at h
    refine zw_aload_n hX dX15_say_45 rfl ?_
    obtain ⟨v13, g, h⟩ := zb_some h
    refine zw_geti hX zl_X15_90 dX15_say_46 g ?_
    obtain rfl := Option.some.inj h
    exact zw_iret hX hr dX15_say_49 rfl ⟨rfl, rfl⟩
def zf_X15_charAt (N : Nat) (a0 : Nat) (i1 : Int32) (S : zm_S) : Option (Int32 × zm_S) := (zg_i S a0 15 1).bind (fun v1 => if v1 ≤ i1 then some ((32 : Int32), S) else (zg_r S a0 15 0).bind (fun b2 => (za_x S 0 b2 i1).bind (fun v3 => some (v3, S))))
set_option maxHeartbeats 4000000 in
set_option maxRecDepth 100000 in
theorem zt_X15_charAt {l : Launch} {V : zm_V} {N : Nat} {S : zm_S} {out : (Int32 × zm_S)} {d : Nat} {a0 : Nat} {i1 : Int32} (hd : 1 ≤ d) (h : zf_X15_charAt N a0 i1 S = some out) : zm_Met l zk_E V yX15_charAt (.code yX15_charAt cX15_charAt 2 (some .int)) d [.ref a0, .int i1] S 0 0 (zo_i out) zo_x := by
  refine zm_of (by decide +kernel) (Nat.le_of_ble_eq_true rfl) ?_
  intro p e R s m args below meth c hRR hX hr hxt
  have hR : R.frames = d ∧ R.locals = 64 * d := by rw [hRR]; exact ⟨rfl, rfl⟩
  have hX : zm_X p R s m args meth c RX15 "charAt" cX15_charAt 2 zk_E V 0 0 := hX
  unfold zf_X15_charAt at h
  refine zw_sub (lv' := [(0, .ref a0), (1, .int i1)]) (List.forall_mem_cons.mpr ⟨rfl, (List.forall_mem_cons.mpr ⟨rfl, zs_nil⟩)⟩) ?_
  refine zw_iload_n hX dX15_charAt_0 rfl ?_
  refine zw_aload_n hX dX15_charAt_1 rfl ?_
  obtain ⟨v1, g, h⟩ := zb_some h
  refine zw_geti hX zl_X15_90 dX15_charAt_2 g ?_
  refine zw_icmp_ge (tgt := 17) hX dX15_charAt_5 (by decide) (fun c5 => ?_) (fun c5 => ?_)
  · rw [if_pos c5] at h
    refine zw_bipush (v := (32 : Int32)) hX dX15_charAt_17 (by decide) ?_
    obtain rfl := Option.some.inj h
    exact zw_iret hX hr dX15_charAt_19 rfl ⟨rfl, rfl⟩
  · rw [if_neg c5] at h
    refine zw_aload_n hX dX15_charAt_8 rfl ?_
    obtain ⟨b2, g, h⟩ := zb_some h
    refine zw_getr hX zl_X15_7 dX15_charAt_9 g ?_
    refine zw_iload_n hX dX15_charAt_12 rfl ?_
    obtain ⟨v3, g, h⟩ := zb_some h
    refine zw_xi hX dX15_charAt_13 g ?_
    refine zw_goto (tgt := 19) hX dX15_charAt_14 (by decide) ?_
    obtain rfl := Option.some.inj h
    exact zw_iret hX hr dX15_charAt_19 rfl ⟨rfl, rfl⟩
def zf_X15_isDigit (N : Nat) (i0 : Int32) (S : zm_S) : Option (Int32 × zm_S) := if i0 ≤ (47 : Int32) then some ((0 : Int32), S) else if (58 : Int32) ≤ i0 then some ((0 : Int32), S) else some ((1 : Int32), S)
set_option maxHeartbeats 4000000 in
set_option maxRecDepth 100000 in
theorem zt_X15_isDigit {l : Launch} {V : zm_V} {N : Nat} {S : zm_S} {out : (Int32 × zm_S)} {d : Nat} {i0 : Int32} (hd : 1 ≤ d) (h : zf_X15_isDigit N i0 S = some out) : zm_Met l zk_E V yX15_isDigit (.code yX15_isDigit cX15_isDigit 1 (some .boolean)) d [.int i0] S 0 0 (zo_i out) zo_x := by
  refine zm_of (by decide +kernel) (Nat.le_of_ble_eq_true rfl) ?_
  intro p e R s m args below meth c hRR hX hr hxt
  have hR : R.frames = d ∧ R.locals = 64 * d := by rw [hRR]; exact ⟨rfl, rfl⟩
  have hX : zm_X p R s m args meth c RX15 "isDigit" cX15_isDigit 1 zk_E V 0 0 := hX
  unfold zf_X15_isDigit at h
  refine zw_sub (lv' := [(0, .int i0)]) (List.forall_mem_cons.mpr ⟨rfl, zs_nil⟩) ?_
  refine zw_iload_n hX dX15_isDigit_0 rfl ?_
  refine zw_bipush (v := (47 : Int32)) hX dX15_isDigit_1 (by decide) ?_
  refine zw_icmp_le (tgt := 16) hX dX15_isDigit_3 (by decide) (fun c3 => ?_) (fun c3 => ?_)
  · rw [if_pos c3] at h
    refine zw_iconst (v := (0 : Int32)) hX dX15_isDigit_16 (by decide) ?_
    obtain rfl := Option.some.inj h
    exact zw_iret hX hr dX15_isDigit_17 rfl ⟨rfl, rfl⟩
  · rw [if_neg c3] at h
    refine zw_iload_n hX dX15_isDigit_6 rfl ?_
    refine zw_bipush (v := (58 : Int32)) hX dX15_isDigit_7 (by decide) ?_
    refine zw_icmp_ge (tgt := 16) hX dX15_isDigit_9 (by decide) (fun c9 => ?_) (fun c9 => ?_)
    · rw [if_pos c9] at h
      refine zw_iconst (v := (0 : Int32)) hX dX15_isDigit_16 (by decide) ?_
      obtain rfl := Option.some.inj h
      exact zw_iret hX hr dX15_isDigit_17 rfl ⟨rfl, rfl⟩
    · rw [if_neg c9] at h
      refine zw_iconst (v := (1 : Int32)) hX dX15_isDigit_12 (by decide) ?_
      refine zw_goto (tgt := 17) hX dX15_isDigit_13 (by decide) ?_
      obtain rfl := Option.some.inj h
      exact zw_iret hX hr dX15_isDigit_17 rfl ⟨rfl, rfl⟩
def zf_X15_isLetter (N : Nat) (i0 : Int32) (S : zm_S) : Option (Int32 × zm_S) := if i0 ≤ (96 : Int32) then some ((0 : Int32), S) else if (123 : Int32) ≤ i0 then some ((0 : Int32), S) else some ((1 : Int32), S)
set_option maxHeartbeats 4000000 in
set_option maxRecDepth 100000 in
theorem zt_X15_isLetter {l : Launch} {V : zm_V} {N : Nat} {S : zm_S} {out : (Int32 × zm_S)} {d : Nat} {i0 : Int32} (hd : 1 ≤ d) (h : zf_X15_isLetter N i0 S = some out) : zm_Met l zk_E V yX15_isLetter (.code yX15_isLetter cX15_isLetter 1 (some .boolean)) d [.int i0] S 0 0 (zo_i out) zo_x := by
  refine zm_of (by decide +kernel) (Nat.le_of_ble_eq_true rfl) ?_
  intro p e R s m args below meth c hRR hX hr hxt
  have hR : R.frames = d ∧ R.locals = 64 * d := by rw [hRR]; exact ⟨rfl, rfl⟩
  have hX : zm_X p R s m args meth c RX15 "isLetter" cX15_isLetter 1 zk_E V 0 0 := hX
  unfold zf_X15_isLetter at h
  refine zw_sub (lv' := [(0, .int i0)]) (List.forall_mem_cons.mpr ⟨rfl, zs_nil⟩) ?_
  refine zw_iload_n hX dX15_isLetter_0 rfl ?_
  refine zw_bipush (v := (96 : Int32)) hX dX15_isLetter_1 (by decide) ?_
  refine zw_icmp_le (tgt := 16) hX dX15_isLetter_3 (by decide) (fun c3 => ?_) (fun c3 => ?_)
  · rw [if_pos c3] at h
    refine zw_iconst (v := (0 : Int32)) hX dX15_isLetter_16 (by decide) ?_
    obtain rfl := Option.some.inj h
    exact zw_iret hX hr dX15_isLetter_17 rfl ⟨rfl, rfl⟩
  · rw [if_neg c3] at h
    refine zw_iload_n hX dX15_isLetter_6 rfl ?_
    refine zw_bipush (v := (123 : Int32)) hX dX15_isLetter_7 (by decide) ?_
    refine zw_icmp_ge (tgt := 16) hX dX15_isLetter_9 (by decide) (fun c9 => ?_) (fun c9 => ?_)
    · rw [if_pos c9] at h
      refine zw_iconst (v := (0 : Int32)) hX dX15_isLetter_16 (by decide) ?_
      obtain rfl := Option.some.inj h
      exact zw_iret hX hr dX15_isLetter_17 rfl ⟨rfl, rfl⟩
    · rw [if_neg c9] at h
      refine zw_iconst (v := (1 : Int32)) hX dX15_isLetter_12 (by decide) ?_
      refine zw_goto (tgt := 17) hX dX15_isLetter_13 (by decide) ?_
      obtain rfl := Option.some.inj h
      exact zw_iret hX hr dX15_isLetter_17 rfl ⟨rfl, rfl⟩
def zf_X15_isSign (N : Nat) (i0 : Int32) (S : zm_S) : Option (Int32 × zm_S) := if i0 = (43 : Int32) then some ((1 : Int32), S) else if i0 = (45 : Int32) then some ((1 : Int32), S) else if i0 = (42 : Int32) then some ((1 : Int32), S) else if i0 = (47 : Int32) then some ((1 : Int32), S) else if i0 = (40 : Int32) then some ((1 : Int32), S) else if i0 = (41 : Int32) then some ((1 : Int32), S) else if i0 = (60 : Int32) then some ((1 : Int32), S) else if i0 = (61 : Int32) then some ((1 : Int32), S) else if i0 = (62 : Int32) then some ((1 : Int32), S) else if i0 = (58 : Int32) then some ((1 : Int32), S) else if i0 = (59 : Int32) then some ((1 : Int32), S) else if i0 = (33 : Int32) then some ((1 : Int32), S) else if i0 = (64 : Int32) then some ((1 : Int32), S) else some ((0 : Int32), S)
set_option maxHeartbeats 4000000 in
set_option maxRecDepth 100000 in
theorem zt_X15_isSign {l : Launch} {V : zm_V} {N : Nat} {S : zm_S} {out : (Int32 × zm_S)} {d : Nat} {i0 : Int32} (hd : 1 ≤ d) (h : zf_X15_isSign N i0 S = some out) : zm_Met l zk_E V yX15_isSign (.code yX15_isSign cX15_isSign 1 (some .boolean)) d [.int i0] S 0 0 (zo_i out) zo_x := by
  refine zm_of (by decide +kernel) (Nat.le_of_ble_eq_true rfl) ?_
  intro p e R s m args below meth c hRR hX hr hxt
  have hR : R.frames = d ∧ R.locals = 64 * d := by rw [hRR]; exact ⟨rfl, rfl⟩
  have hX : zm_X p R s m args meth c RX15 "isSign" cX15_isSign 1 zk_E V 0 0 := hX
  unfold zf_X15_isSign at h
  refine zw_sub (lv' := [(0, .int i0)]) (List.forall_mem_cons.mpr ⟨rfl, zs_nil⟩) ?_
  refine zw_iload_n hX dX15_isSign_0 rfl ?_
  refine zw_bipush (v := (43 : Int32)) hX dX15_isSign_1 (by decide) ?_
  refine zw_icmp_eq (tgt := 78) hX dX15_isSign_3 (by decide) (fun c3 => ?_) (fun c3 => ?_)
  · rw [if_pos c3] at h
    refine zw_iconst (v := (1 : Int32)) hX dX15_isSign_78 (by decide) ?_
    refine zw_goto (tgt := 83) hX dX15_isSign_79 (by decide) ?_
    obtain rfl := Option.some.inj h
    exact zw_iret hX hr dX15_isSign_83 rfl ⟨rfl, rfl⟩
  · rw [if_neg c3] at h
    refine zw_iload_n hX dX15_isSign_6 rfl ?_
    refine zw_bipush (v := (45 : Int32)) hX dX15_isSign_7 (by decide) ?_
    refine zw_icmp_eq (tgt := 78) hX dX15_isSign_9 (by decide) (fun c9 => ?_) (fun c9 => ?_)
    · rw [if_pos c9] at h
      refine zw_iconst (v := (1 : Int32)) hX dX15_isSign_78 (by decide) ?_
      refine zw_goto (tgt := 83) hX dX15_isSign_79 (by decide) ?_
      obtain rfl := Option.some.inj h
      exact zw_iret hX hr dX15_isSign_83 rfl ⟨rfl, rfl⟩
    · rw [if_neg c9] at h
      refine zw_iload_n hX dX15_isSign_12 rfl ?_
      refine zw_bipush (v := (42 : Int32)) hX dX15_isSign_13 (by decide) ?_
      refine zw_icmp_eq (tgt := 78) hX dX15_isSign_15 (by decide) (fun c15 => ?_) (fun c15 => ?_)
      · rw [if_pos c15] at h
        refine zw_iconst (v := (1 : Int32)) hX dX15_isSign_78 (by decide) ?_
        refine zw_goto (tgt := 83) hX dX15_isSign_79 (by decide) ?_
        obtain rfl := Option.some.inj h
        exact zw_iret hX hr dX15_isSign_83 rfl ⟨rfl, rfl⟩
      · rw [if_neg c15] at h
        refine zw_iload_n hX dX15_isSign_18 rfl ?_
        refine zw_bipush (v := (47 : Int32)) hX dX15_isSign_19 (by decide) ?_
        refine zw_icmp_eq (tgt := 78) hX dX15_isSign_21 (by decide) (fun c21 => ?_) (fun c21 => ?_)
        · rw [if_pos c21] at h
          refine zw_iconst (v := (1 : Int32)) hX dX15_isSign_78 (by decide) ?_
          refine zw_goto (tgt := 83) hX dX15_isSign_79 (by decide) ?_
          obtain rfl := Option.some.inj h
          exact zw_iret hX hr dX15_isSign_83 rfl ⟨rfl, rfl⟩
        · rw [if_neg c21] at h
          refine zw_iload_n hX dX15_isSign_24 rfl ?_
          refine zw_bipush (v := (40 : Int32)) hX dX15_isSign_25 (by decide) ?_
          refine zw_icmp_eq (tgt := 78) hX dX15_isSign_27 (by decide) (fun c27 => ?_) (fun c27 => ?_)
          · rw [if_pos c27] at h
            refine zw_iconst (v := (1 : Int32)) hX dX15_isSign_78 (by decide) ?_
            refine zw_goto (tgt := 83) hX dX15_isSign_79 (by decide) ?_
            obtain rfl := Option.some.inj h
            exact zw_iret hX hr dX15_isSign_83 rfl ⟨rfl, rfl⟩
          · rw [if_neg c27] at h
            refine zw_iload_n hX dX15_isSign_30 rfl ?_
            refine zw_bipush (v := (41 : Int32)) hX dX15_isSign_31 (by decide) ?_
            refine zw_icmp_eq (tgt := 78) hX dX15_isSign_33 (by decide) (fun c33 => ?_) (fun c33 => ?_)
            · rw [if_pos c33] at h
              refine zw_iconst (v := (1 : Int32)) hX dX15_isSign_78 (by decide) ?_
              refine zw_goto (tgt := 83) hX dX15_isSign_79 (by decide) ?_
              obtain rfl := Option.some.inj h
              exact zw_iret hX hr dX15_isSign_83 rfl ⟨rfl, rfl⟩
            · rw [if_neg c33] at h
              refine zw_iload_n hX dX15_isSign_36 rfl ?_
              refine zw_bipush (v := (60 : Int32)) hX dX15_isSign_37 (by decide) ?_
              refine zw_icmp_eq (tgt := 78) hX dX15_isSign_39 (by decide) (fun c39 => ?_) (fun c39 => ?_)
              · rw [if_pos c39] at h
                refine zw_iconst (v := (1 : Int32)) hX dX15_isSign_78 (by decide) ?_
                refine zw_goto (tgt := 83) hX dX15_isSign_79 (by decide) ?_
                obtain rfl := Option.some.inj h
                exact zw_iret hX hr dX15_isSign_83 rfl ⟨rfl, rfl⟩
              · rw [if_neg c39] at h
                refine zw_iload_n hX dX15_isSign_42 rfl ?_
                refine zw_bipush (v := (61 : Int32)) hX dX15_isSign_43 (by decide) ?_
                refine zw_icmp_eq (tgt := 78) hX dX15_isSign_45 (by decide) (fun c45 => ?_) (fun c45 => ?_)
                · rw [if_pos c45] at h
                  refine zw_iconst (v := (1 : Int32)) hX dX15_isSign_78 (by decide) ?_
                  refine zw_goto (tgt := 83) hX dX15_isSign_79 (by decide) ?_
                  obtain rfl := Option.some.inj h
                  exact zw_iret hX hr dX15_isSign_83 rfl ⟨rfl, rfl⟩
                · rw [if_neg c45] at h
                  refine zw_iload_n hX dX15_isSign_48 rfl ?_
                  refine zw_bipush (v := (62 : Int32)) hX dX15_isSign_49 (by decide) ?_
                  refine zw_icmp_eq (tgt := 78) hX dX15_isSign_51 (by decide) (fun c51 => ?_) (fun c51 => ?_)
                  · rw [if_pos c51] at h
                    refine zw_iconst (v := (1 : Int32)) hX dX15_isSign_78 (by decide) ?_
                    refine zw_goto (tgt := 83) hX dX15_isSign_79 (by decide) ?_
                    obtain rfl := Option.some.inj h
                    exact zw_iret hX hr dX15_isSign_83 rfl ⟨rfl, rfl⟩
                  · rw [if_neg c51] at h
                    refine zw_iload_n hX dX15_isSign_54 rfl ?_
                    refine zw_bipush (v := (58 : Int32)) hX dX15_isSign_55 (by decide) ?_
                    refine zw_icmp_eq (tgt := 78) hX dX15_isSign_57 (by decide) (fun c57 => ?_) (fun c57 => ?_)
                    · rw [if_pos c57] at h
                      refine zw_iconst (v := (1 : Int32)) hX dX15_isSign_78 (by decide) ?_
                      refine zw_goto (tgt := 83) hX dX15_isSign_79 (by decide) ?_
                      obtain rfl := Option.some.inj h
                      exact zw_iret hX hr dX15_isSign_83 rfl ⟨rfl, rfl⟩
                    · rw [if_neg c57] at h
                      refine zw_iload_n hX dX15_isSign_60 rfl ?_
                      refine zw_bipush (v := (59 : Int32)) hX dX15_isSign_61 (by decide) ?_
                      refine zw_icmp_eq (tgt := 78) hX dX15_isSign_63 (by decide) (fun c63 => ?_) (fun c63 => ?_)
                      · rw [if_pos c63] at h
                        refine zw_iconst (v := (1 : Int32)) hX dX15_isSign_78 (by decide) ?_
                        refine zw_goto (tgt := 83) hX dX15_isSign_79 (by decide) ?_
                        obtain rfl := Option.some.inj h
                        exact zw_iret hX hr dX15_isSign_83 rfl ⟨rfl, rfl⟩
                      · rw [if_neg c63] at h
                        refine zw_iload_n hX dX15_isSign_66 rfl ?_
                        refine zw_bipush (v := (33 : Int32)) hX dX15_isSign_67 (by decide) ?_
                        refine zw_icmp_eq (tgt := 78) hX dX15_isSign_69 (by decide) (fun c69 => ?_) (fun c69 => ?_)
                        · rw [if_pos c69] at h
                          refine zw_iconst (v := (1 : Int32)) hX dX15_isSign_78 (by decide) ?_
                          refine zw_goto (tgt := 83) hX dX15_isSign_79 (by decide) ?_
                          obtain rfl := Option.some.inj h
                          exact zw_iret hX hr dX15_isSign_83 rfl ⟨rfl, rfl⟩
                        · rw [if_neg c69] at h
                          refine zw_iload_n hX dX15_isSign_72 rfl ?_
                          refine zw_bipush (v := (64 : Int32)) hX dX15_isSign_73 (by decide) ?_
                          refine zw_icmp_ne (tgt := 82) hX dX15_isSign_75 (by decide) (fun c75 => ?_) (fun c75 => ?_)
                          · rw [if_neg c75] at h
                            refine zw_iconst (v := (0 : Int32)) hX dX15_isSign_82 (by decide) ?_
                            obtain rfl := Option.some.inj h
                            exact zw_iret hX hr dX15_isSign_83 rfl ⟨rfl, rfl⟩
                          · rw [if_pos c75] at h
                            refine zw_iconst (v := (1 : Int32)) hX dX15_isSign_78 (by decide) ?_
                            refine zw_goto (tgt := 83) hX dX15_isSign_79 (by decide) ?_
                            obtain rfl := Option.some.inj h
                            exact zw_iret hX hr dX15_isSign_83 rfl ⟨rfl, rfl⟩
def zf_X15_step_L0 (N : Nat) : Nat → Nat → zm_S → Option ((Unit × zm_S) ⊕ ((Unit) × zm_S))
  | 0, _, _ => none
  | n + 1, a0, S => (zg_i S a0 15 27).bind (fun v1 => (zg_i S a0 15 1).bind (fun v2 => if v2 ≤ v1 then some (.inr ((), S)) else (zg_r S a0 15 0).bind (fun b3 => (zg_i S a0 15 27).bind (fun v4 => (za_x S 0 b3 v4).bind (fun v5 => if v5 = (32 : Int32) then (zg_i S a0 15 27).bind (fun v6 => (zp S a0 15 27 (.int (v6 + (1 : Int32)))).bind (fun S7 => zf_X15_step_L0 N n a0 S7)) else some (.inr ((), S)))))))
set_option maxHeartbeats 4000000 in
set_option maxRecDepth 100000 in
theorem zt_X15_step_L0 {p : Program} {l : Launch} {e : Env} {R : Room} {s : State} {m : MethodId} {args : Array Value} {below : List Frame} {meth : Method} {c : Code} {V : zm_V} {mc ms d rc rs : Nat} (hX : zm_X p R s m args meth c RX15 "step" cX15_step 3 zk_E V mc ms) (hr : meth.sig.returnType = none) (hR : R.frames = d ∧ R.locals = 64 * d) (hd : 2 ≤ d) {N : Nat} {res : (Unit × zm_S) ⊕ ((Unit) × zm_S)} {out : (Unit × zm_S)} (a0 : Nat) (hf : ∀ o, res = .inl o → o = out) (hk : ∀ (S' : zm_S), res = .inr ((), S') → zw p l e R s m args below meth c (vx_MQ below (zm_Qc zk_E V (zo_v out)) (zm_XC zk_E V zo_x) args s mc ms (fun q => V.2.2.2.1 ≤ q)) 3 zk_E V mc ms 38 [(0, .ref a0)] [] S' rc rs) : ∀ (n : Nat)  (S : zm_S), zf_X15_step_L0 N n a0 S = some res → zw p l e R s m args below meth c (vx_MQ below (zm_Qc zk_E V (zo_v out)) (zm_XC zk_E V zo_x) args s mc ms (fun q => V.2.2.2.1 ≤ q)) 3 zk_E V mc ms 0 [(0, .ref a0)] [] S rc rs := by
  intro n
  induction n with
  | zero => intro  S h; cases h
  | succ n ih =>
    intro  S h
    rw [zf_X15_step_L0] at h
    refine zw_aload_n hX dX15_step_0 rfl ?_
    obtain ⟨v1, g, h⟩ := zb_some h
    refine zw_geti hX zl_X15_93 dX15_step_1 g ?_
    refine zw_aload_n hX dX15_step_4 rfl ?_
    obtain ⟨v2, g, h⟩ := zb_some h
    refine zw_geti hX zl_X15_90 dX15_step_5 g ?_
    refine zw_icmp_ge (tgt := 38) hX dX15_step_8 (by decide) (fun c8 => ?_) (fun c8 => ?_)
    · rw [if_pos c8] at h
      refine zw_sub (lv' := [(0, .ref a0)]) (List.forall_mem_cons.mpr ⟨rfl, zs_nil⟩) ?_
      exact hk  _ (Option.some.inj h).symm
    · rw [if_neg c8] at h
      refine zw_aload_n hX dX15_step_11 rfl ?_
      obtain ⟨b3, g, h⟩ := zb_some h
      refine zw_getr hX zl_X15_7 dX15_step_12 g ?_
      refine zw_aload_n hX dX15_step_15 rfl ?_
      obtain ⟨v4, g, h⟩ := zb_some h
      refine zw_geti hX zl_X15_93 dX15_step_16 g ?_
      obtain ⟨v5, g, h⟩ := zb_some h
      refine zw_xi hX dX15_step_19 g ?_
      refine zw_bipush (v := (32 : Int32)) hX dX15_step_20 (by decide) ?_
      refine zw_icmp_ne (tgt := 38) hX dX15_step_22 (by decide) (fun c22 => ?_) (fun c22 => ?_)
      · rw [if_neg c22] at h
        refine zw_sub (lv' := [(0, .ref a0)]) (List.forall_mem_cons.mpr ⟨rfl, zs_nil⟩) ?_
        exact hk  _ (Option.some.inj h).symm
      · rw [if_pos c22] at h
        refine zw_aload_n hX dX15_step_25 rfl ?_
        refine zw_dup hX dX15_step_26 rfl ?_
        obtain ⟨v6, g, h⟩ := zb_some h
        refine zw_geti hX zl_X15_93 dX15_step_27 g ?_
        refine zw_iconst (v := (1 : Int32)) hX dX15_step_30 (by decide) ?_
        refine zw_iadd hX dX15_step_31 ?_
        obtain ⟨S7, g, h⟩ := zb_some h
        refine zw_putv hX zl_X15_93 zt_15_27 dX15_step_32 rfl rfl g ?_
        refine zw_goto (tgt := 0) hX dX15_step_35 (by decide) ?_
        refine zw_sub (lv' := [(0, .ref a0)]) (List.forall_mem_cons.mpr ⟨rfl, zs_nil⟩) ?_
        exact ih  _ h
def zf_X15_step_J387 (N : Nat) (t0 : Nat) (S : zm_S) : Option (Unit × zm_S) := (zp S t0 15 31 (.int (1 : Int32))).bind (fun S38 => some ((), S38))
set_option maxHeartbeats 4000000 in
set_option maxRecDepth 100000 in
theorem zt_X15_step_J387 {p : Program} {l : Launch} {e : Env} {R : Room} {s : State} {m : MethodId} {args : Array Value} {below : List Frame} {meth : Method} {c : Code} {V : zm_V} {mc ms d rc rs : Nat} (hX : zm_X p R s m args meth c RX15 "step" cX15_step 3 zk_E V mc ms) (hr : meth.sig.returnType = none) (hR : R.frames = d ∧ R.locals = 64 * d) (hd : 2 ≤ d) {N : Nat} {t0 : Nat} {out : (Unit × zm_S)} {S : zm_S} (h : zf_X15_step_J387 N t0 S = some out) : zw p l e R s m args below meth c (vx_MQ below (zm_Qc zk_E V (zo_v out)) (zm_XC zk_E V zo_x) args s mc ms (fun q => V.2.2.2.1 ≤ q)) 3 zk_E V mc ms 387 [] [.ref t0] S rc rs := by
  unfold zf_X15_step_J387 at h
  refine zw_iconst (v := (1 : Int32)) hX dX15_step_387 (by decide) ?_
  refine zw_goto (tgt := 392) hX dX15_step_388 (by decide) ?_
  obtain ⟨S38, g, h⟩ := zb_some h
  refine zw_putv hX zl_X15_121 zt_15_31 dX15_step_392 rfl (by decide) g ?_
  obtain rfl := Option.some.inj h
  exact zw_vret hX hr dX15_step_395 ⟨rfl, rfl⟩
def zf_X15_step_J370 (N : Nat) (a0 : Nat) (S : zm_S) : Option (Unit × zm_S) := (zg_i S a0 15 31).bind (fun v37 => if v37 = 0 then (zg_i S a0 15 30).bind (fun v39 => if v39 ≤ (120 : Int32) then (zp S a0 15 31 (.int (0 : Int32))).bind (fun S40 => some ((), S40)) else zf_X15_step_J387 N a0 S) else zf_X15_step_J387 N a0 S)
set_option maxHeartbeats 4000000 in
set_option maxRecDepth 100000 in
theorem zt_X15_step_J370 {p : Program} {l : Launch} {e : Env} {R : Room} {s : State} {m : MethodId} {args : Array Value} {below : List Frame} {meth : Method} {c : Code} {V : zm_V} {mc ms d rc rs : Nat} (hX : zm_X p R s m args meth c RX15 "step" cX15_step 3 zk_E V mc ms) (hr : meth.sig.returnType = none) (hR : R.frames = d ∧ R.locals = 64 * d) (hd : 2 ≤ d) {N : Nat} {a0 : Nat} {out : (Unit × zm_S)} {S : zm_S} (h : zf_X15_step_J370 N a0 S = some out) : zw p l e R s m args below meth c (vx_MQ below (zm_Qc zk_E V (zo_v out)) (zm_XC zk_E V zo_x) args s mc ms (fun q => V.2.2.2.1 ≤ q)) 3 zk_E V mc ms 370 [(0, .ref a0)] [] S rc rs := by
  unfold zf_X15_step_J370 at h
  refine zw_aload_n hX dX15_step_370 rfl ?_
  refine zw_aload_n hX dX15_step_371 rfl ?_
  obtain ⟨v37, g, h⟩ := zb_some h
  refine zw_geti hX zl_X15_121 dX15_step_372 g ?_
  refine zw_if_ne (tgt := 387) hX dX15_step_375 (by decide) (fun c375 => ?_) (fun c375 => ?_)
  · rw [if_neg c375] at h
    refine zw_sub (lv' := []) zs_nil ?_
    exact zt_X15_step_J387 hX hr hR hd h
  · rw [if_pos c375] at h
    refine zw_aload_n hX dX15_step_378 rfl ?_
    obtain ⟨v39, g, h⟩ := zb_some h
    refine zw_geti hX zl_X15_106 dX15_step_379 g ?_
    refine zw_bipush (v := (120 : Int32)) hX dX15_step_382 (by decide) ?_
    refine zw_icmp_le (tgt := 391) hX dX15_step_384 (by decide) (fun c384 => ?_) (fun c384 => ?_)
    · rw [if_pos c384] at h
      refine zw_iconst (v := (0 : Int32)) hX dX15_step_391 (by decide) ?_
      obtain ⟨S40, g, h⟩ := zb_some h
      refine zw_putv hX zl_X15_121 zt_15_31 dX15_step_392 rfl (by decide) g ?_
      obtain rfl := Option.some.inj h
      exact zw_vret hX hr dX15_step_395 ⟨rfl, rfl⟩
    · rw [if_neg c384] at h
      refine zw_sub (lv' := []) zs_nil ?_
      exact zt_X15_step_J387 hX hr hR hd h
def zf_X15_step_J367 (N : Nat) (a0 : Nat) (t0 : Nat) (t1 : Int32) (S : zm_S) : Option (Unit × zm_S) := (zp_z S t0 15 31 t1).bind (fun S36 => zf_X15_step_J370 N a0 S36)
set_option maxHeartbeats 4000000 in
set_option maxRecDepth 100000 in
theorem zt_X15_step_J367 {p : Program} {l : Launch} {e : Env} {R : Room} {s : State} {m : MethodId} {args : Array Value} {below : List Frame} {meth : Method} {c : Code} {V : zm_V} {mc ms d rc rs : Nat} (hX : zm_X p R s m args meth c RX15 "step" cX15_step 3 zk_E V mc ms) (hr : meth.sig.returnType = none) (hR : R.frames = d ∧ R.locals = 64 * d) (hd : 2 ≤ d) {N : Nat} {a0 : Nat} {t0 : Nat} {t1 : Int32} {out : (Unit × zm_S)} {S : zm_S} (h : zf_X15_step_J367 N a0 t0 t1 S = some out) : zw p l e R s m args below meth c (vx_MQ below (zm_Qc zk_E V (zo_v out)) (zm_XC zk_E V zo_x) args s mc ms (fun q => V.2.2.2.1 ≤ q)) 3 zk_E V mc ms 367 [(0, .ref a0)] [.int t1, .ref t0] S rc rs := by
  unfold zf_X15_step_J367 at h
  obtain ⟨S36, g, h⟩ := zb_some h
  obtain ⟨gz, g⟩ := zp_z_spec g
  refine zw_putv hX zl_X15_121 zt_15_31 dX15_step_367 (zn_z gz) (zf_z gz) g ?_
  refine zw_sub (lv' := [(0, .ref a0)]) (List.forall_mem_cons.mpr ⟨rfl, zs_nil⟩) ?_
  exact zt_X15_step_J370 hX hr hR hd h
def zf_X15_step_J350 (N : Nat) (a0 : Nat) (i1 : Int32) (t0 : Nat) (t1 : Int32) (t2 : Int32) (S : zm_S) : Option (Unit × zm_S) := (zp S t0 15 27 (.int (t1 + t2))).bind (fun S32 => (zf_X15_isSign N i1 S32).bind (fun r35 => if r35.1 = 0 then zf_X15_step_J367 N a0 a0 (1 : Int32) r35.2 else zf_X15_step_J367 N a0 a0 (0 : Int32) r35.2))
set_option maxHeartbeats 4000000 in
set_option maxRecDepth 100000 in
theorem zt_X15_step_J350 {p : Program} {l : Launch} {e : Env} {R : Room} {s : State} {m : MethodId} {args : Array Value} {below : List Frame} {meth : Method} {c : Code} {V : zm_V} {mc ms d rc rs : Nat} (hX : zm_X p R s m args meth c RX15 "step" cX15_step 3 zk_E V mc ms) (hr : meth.sig.returnType = none) (hR : R.frames = d ∧ R.locals = 64 * d) (hd : 2 ≤ d) {N : Nat} {a0 : Nat} {i1 : Int32} {t0 : Nat} {t1 : Int32} {t2 : Int32} {out : (Unit × zm_S)} {S : zm_S} (h : zf_X15_step_J350 N a0 i1 t0 t1 t2 S = some out) : zw p l e R s m args below meth c (vx_MQ below (zm_Qc zk_E V (zo_v out)) (zm_XC zk_E V zo_x) args s mc ms (fun q => V.2.2.2.1 ≤ q)) 3 zk_E V mc ms 350 [(0, .ref a0), (1, .int i1)] [.int t2, .int t1, .ref t0] S rc rs := by
  unfold zf_X15_step_J350 at h
  refine zw_iadd hX dX15_step_350 ?_
  obtain ⟨S32, g, h⟩ := zb_some h
  refine zw_putv hX zl_X15_93 zt_15_27 dX15_step_351 rfl rfl g ?_
  refine zw_aload_n hX dX15_step_354 rfl ?_
  refine zw_iload_n hX dX15_step_355 rfl ?_
  obtain ⟨r35, g, h⟩ := zb_some h
  refine zc_Si (as := [.int i1]) hX (zt_X15_isSign (d := d - 1) (by omega) g) zl_X15_128 dX15_step_356 ⟨rfl, rfl, Nat.le_of_ble_eq_true rfl⟩ ⟨by omega, by omega⟩ ?_
  refine zw_if_ne (tgt := 366) hX dX15_step_359 (by decide) (fun c359 => ?_) (fun c359 => ?_)
  · rw [if_neg c359] at h
    refine zw_iconst (v := (0 : Int32)) hX dX15_step_366 (by decide) ?_
    refine zw_sub (lv' := [(0, .ref a0)]) (List.forall_mem_cons.mpr ⟨rfl, zs_nil⟩) ?_
    exact zt_X15_step_J367 hX hr hR hd h
  · rw [if_pos c359] at h
    refine zw_iconst (v := (1 : Int32)) hX dX15_step_362 (by decide) ?_
    refine zw_goto (tgt := 367) hX dX15_step_363 (by decide) ?_
    refine zw_sub (lv' := [(0, .ref a0)]) (List.forall_mem_cons.mpr ⟨rfl, zs_nil⟩) ?_
    exact zt_X15_step_J367 hX hr hR hd h
def zf_X15_step_J333 (N : Nat) (a0 : Nat) (i1 : Int32) (i2 : Int32) (t0 : Nat) (t1 : Int32) (S : zm_S) : Option (Unit × zm_S) := (zp S t0 15 28 (.int t1)).bind (fun S30 => (zg_i S30 a0 15 27).bind (fun v31 => if i2 = 0 then zf_X15_step_J350 N a0 i1 a0 v31 (1 : Int32) S30 else zf_X15_step_J350 N a0 i1 a0 v31 (2 : Int32) S30))
set_option maxHeartbeats 4000000 in
set_option maxRecDepth 100000 in
theorem zt_X15_step_J333 {p : Program} {l : Launch} {e : Env} {R : Room} {s : State} {m : MethodId} {args : Array Value} {below : List Frame} {meth : Method} {c : Code} {V : zm_V} {mc ms d rc rs : Nat} (hX : zm_X p R s m args meth c RX15 "step" cX15_step 3 zk_E V mc ms) (hr : meth.sig.returnType = none) (hR : R.frames = d ∧ R.locals = 64 * d) (hd : 2 ≤ d) {N : Nat} {a0 : Nat} {i1 : Int32} {i2 : Int32} {t0 : Nat} {t1 : Int32} {out : (Unit × zm_S)} {S : zm_S} (h : zf_X15_step_J333 N a0 i1 i2 t0 t1 S = some out) : zw p l e R s m args below meth c (vx_MQ below (zm_Qc zk_E V (zo_v out)) (zm_XC zk_E V zo_x) args s mc ms (fun q => V.2.2.2.1 ≤ q)) 3 zk_E V mc ms 333 [(0, .ref a0), (1, .int i1), (2, .int i2)] [.int t1, .ref t0] S rc rs := by
  unfold zf_X15_step_J333 at h
  obtain ⟨S30, g, h⟩ := zb_some h
  refine zw_putv hX zl_X15_99 zt_15_28 dX15_step_333 rfl rfl g ?_
  refine zw_aload_n hX dX15_step_336 rfl ?_
  refine zw_dup hX dX15_step_337 rfl ?_
  obtain ⟨v31, g, h⟩ := zb_some h
  refine zw_geti hX zl_X15_93 dX15_step_338 g ?_
  refine zw_iload_n hX dX15_step_341 rfl ?_
  refine zw_if_eq (tgt := 349) hX dX15_step_342 (by decide) (fun c342 => ?_) (fun c342 => ?_)
  · rw [if_pos c342] at h
    refine zw_iconst (v := (1 : Int32)) hX dX15_step_349 (by decide) ?_
    refine zw_sub (lv' := [(0, .ref a0), (1, .int i1)]) (List.forall_mem_cons.mpr ⟨rfl, (List.forall_mem_cons.mpr ⟨rfl, zs_nil⟩)⟩) ?_
    exact zt_X15_step_J350 hX hr hR hd h
  · rw [if_neg c342] at h
    refine zw_iconst (v := (2 : Int32)) hX dX15_step_345 (by decide) ?_
    refine zw_goto (tgt := 350) hX dX15_step_346 (by decide) ?_
    refine zw_sub (lv' := [(0, .ref a0), (1, .int i1)]) (List.forall_mem_cons.mpr ⟨rfl, (List.forall_mem_cons.mpr ⟨rfl, zs_nil⟩)⟩) ?_
    exact zt_X15_step_J350 hX hr hR hd h
def zf_X15_step_J318 (N : Nat) (a0 : Nat) (i1 : Int32) (t0 : Int32) (S : zm_S) : Option (Unit × zm_S) := if t0 = 0 then zf_X15_step_J333 N a0 i1 t0 a0 i1 S else zf_X15_step_J333 N a0 i1 t0 a0 (i1 + (256 : Int32)) S
set_option maxHeartbeats 4000000 in
set_option maxRecDepth 100000 in
theorem zt_X15_step_J318 {p : Program} {l : Launch} {e : Env} {R : Room} {s : State} {m : MethodId} {args : Array Value} {below : List Frame} {meth : Method} {c : Code} {V : zm_V} {mc ms d rc rs : Nat} (hX : zm_X p R s m args meth c RX15 "step" cX15_step 3 zk_E V mc ms) (hr : meth.sig.returnType = none) (hR : R.frames = d ∧ R.locals = 64 * d) (hd : 2 ≤ d) {N : Nat} {a0 : Nat} {i1 : Int32} {t0 : Int32} {out : (Unit × zm_S)} {S : zm_S} (h : zf_X15_step_J318 N a0 i1 t0 S = some out) : zw p l e R s m args below meth c (vx_MQ below (zm_Qc zk_E V (zo_v out)) (zm_XC zk_E V zo_x) args s mc ms (fun q => V.2.2.2.1 ≤ q)) 3 zk_E V mc ms 318 [(0, .ref a0), (1, .int i1)] [.int t0] S rc rs := by
  unfold zf_X15_step_J318 at h
  refine zw_istore_n hX dX15_step_318 (by decide) ?_
  refine zw_aload_n hX dX15_step_319 rfl ?_
  refine zw_iload_n hX dX15_step_320 rfl ?_
  refine zw_if_eq (tgt := 332) hX dX15_step_321 (by decide) (fun c321 => ?_) (fun c321 => ?_)
  · rw [if_pos c321] at h
    refine zw_iload_n hX dX15_step_332 rfl ?_
    refine zw_sub (lv' := [(0, .ref a0), (1, .int i1), (2, .int t0)]) (List.forall_mem_cons.mpr ⟨rfl, (List.forall_mem_cons.mpr ⟨rfl, (List.forall_mem_cons.mpr ⟨rfl, zs_nil⟩)⟩)⟩) ?_
    exact zt_X15_step_J333 hX hr hR hd h
  · rw [if_neg c321] at h
    refine zw_iload_n hX dX15_step_324 rfl ?_
    refine zw_sipush (v := (256 : Int32)) hX dX15_step_325 (by decide) ?_
    refine zw_iadd hX dX15_step_328 ?_
    refine zw_goto (tgt := 333) hX dX15_step_329 (by decide) ?_
    refine zw_sub (lv' := [(0, .ref a0), (1, .int i1), (2, .int t0)]) (List.forall_mem_cons.mpr ⟨rfl, (List.forall_mem_cons.mpr ⟨rfl, (List.forall_mem_cons.mpr ⟨rfl, zs_nil⟩)⟩)⟩) ?_
    exact zt_X15_step_J333 hX hr hR hd h
def zf_X15_step_J317 (N : Nat) (a0 : Nat) (i1 : Int32) (S : zm_S) : Option (Unit × zm_S) := zf_X15_step_J318 N a0 i1 (0 : Int32) S
set_option maxHeartbeats 4000000 in
set_option maxRecDepth 100000 in
theorem zt_X15_step_J317 {p : Program} {l : Launch} {e : Env} {R : Room} {s : State} {m : MethodId} {args : Array Value} {below : List Frame} {meth : Method} {c : Code} {V : zm_V} {mc ms d rc rs : Nat} (hX : zm_X p R s m args meth c RX15 "step" cX15_step 3 zk_E V mc ms) (hr : meth.sig.returnType = none) (hR : R.frames = d ∧ R.locals = 64 * d) (hd : 2 ≤ d) {N : Nat} {a0 : Nat} {i1 : Int32} {out : (Unit × zm_S)} {S : zm_S} (h : zf_X15_step_J317 N a0 i1 S = some out) : zw p l e R s m args below meth c (vx_MQ below (zm_Qc zk_E V (zo_v out)) (zm_XC zk_E V zo_x) args s mc ms (fun q => V.2.2.2.1 ≤ q)) 3 zk_E V mc ms 317 [(0, .ref a0), (1, .int i1)] [] S rc rs := by
  unfold zf_X15_step_J317 at h
  refine zw_iconst (v := (0 : Int32)) hX dX15_step_317 (by decide) ?_
  refine zw_sub (lv' := [(0, .ref a0), (1, .int i1)]) (List.forall_mem_cons.mpr ⟨rfl, (List.forall_mem_cons.mpr ⟨rfl, zs_nil⟩)⟩) ?_
  exact zt_X15_step_J318 hX hr hR hd h
def zf_X15_step_J298 (N : Nat) (a0 : Nat) (i1 : Int32) (S : zm_S) : Option (Unit × zm_S) := (zg_i S a0 15 26).bind (fun v26 => (zi S a0 15).bind (fun _ => (zf_X15_charAt N a0 (v26 + (1 : Int32)) S).bind (fun r29 => if r29.1 = (61 : Int32) then zf_X15_step_J318 N a0 i1 (1 : Int32) r29.2 else zf_X15_step_J317 N a0 i1 r29.2)))
set_option maxHeartbeats 4000000 in
set_option maxRecDepth 100000 in
theorem zt_X15_step_J298 {p : Program} {l : Launch} {e : Env} {R : Room} {s : State} {m : MethodId} {args : Array Value} {below : List Frame} {meth : Method} {c : Code} {V : zm_V} {mc ms d rc rs : Nat} (hX : zm_X p R s m args meth c RX15 "step" cX15_step 3 zk_E V mc ms) (hr : meth.sig.returnType = none) (hR : R.frames = d ∧ R.locals = 64 * d) (hd : 2 ≤ d) {N : Nat} {a0 : Nat} {i1 : Int32} {out : (Unit × zm_S)} {S : zm_S} (h : zf_X15_step_J298 N a0 i1 S = some out) : zw p l e R s m args below meth c (vx_MQ below (zm_Qc zk_E V (zo_v out)) (zm_XC zk_E V zo_x) args s mc ms (fun q => V.2.2.2.1 ≤ q)) 3 zk_E V mc ms 298 [(0, .ref a0), (1, .int i1)] [] S rc rs := by
  unfold zf_X15_step_J298 at h
  refine zw_aload_n hX dX15_step_298 rfl ?_
  refine zw_aload_n hX dX15_step_299 rfl ?_
  obtain ⟨v26, g, h⟩ := zb_some h
  refine zw_geti hX zl_X15_96 dX15_step_300 g ?_
  refine zw_iconst (v := (1 : Int32)) hX dX15_step_303 (by decide) ?_
  refine zw_iadd hX dX15_step_304 ?_
  obtain ⟨_, gi, h⟩ := zb_some h
  obtain ⟨r29, g, h⟩ := zb_some h
  refine zc_Vi (as := [.int (v26 + (1 : Int32))]) hX gi (zt_X15_charAt (d := d - 1) (by omega) g) zl_X15_113 rfl dX15_step_305 ⟨rfl, rfl, Nat.le_of_ble_eq_true rfl⟩ ⟨by omega, by omega⟩ ?_
  refine zw_bipush (v := (61 : Int32)) hX dX15_step_308 (by decide) ?_
  refine zw_icmp_ne (tgt := 317) hX dX15_step_310 (by decide) (fun c310 => ?_) (fun c310 => ?_)
  · rw [if_neg c310] at h
    refine zw_sub (lv' := [(0, .ref a0), (1, .int i1)]) (List.forall_mem_cons.mpr ⟨rfl, (List.forall_mem_cons.mpr ⟨rfl, zs_nil⟩)⟩) ?_
    exact zt_X15_step_J317 hX hr hR hd h
  · rw [if_pos c310] at h
    refine zw_iconst (v := (1 : Int32)) hX dX15_step_313 (by decide) ?_
    refine zw_goto (tgt := 318) hX dX15_step_314 (by decide) ?_
    refine zw_sub (lv' := [(0, .ref a0), (1, .int i1)]) (List.forall_mem_cons.mpr ⟨rfl, (List.forall_mem_cons.mpr ⟨rfl, zs_nil⟩)⟩) ?_
    exact zt_X15_step_J318 hX hr hR hd h
def zf_X15_step_L212 (N : Nat) : Nat → Nat → zm_S → Option ((Unit × zm_S) ⊕ ((Unit) × zm_S))
  | 0, _, _ => none
  | n + 1, a0, S => (zg_i S a0 15 27).bind (fun v42 => (zi S a0 15).bind (fun _ => (zf_X15_charAt N a0 v42 S).bind (fun r45 => (zf_X15_isLetter N r45.1 r45.2).bind (fun r48 => if r48.1 = 0 then some (.inr ((), r48.2)) else (zg_l r48.2 a0 15 29).bind (fun w49 => (zg_i r48.2 a0 15 27).bind (fun v50 => (zi r48.2 a0 15).bind (fun _ => (zf_X15_charAt N a0 v50 r48.2).bind (fun r53 => (zp r53.2 a0 15 29 (.long ((w49 <<< (((8 : Int32)).toInt64 &&& 63)) ||| (r53.1).toInt64))).bind (fun S54 => (zg_i S54 a0 15 27).bind (fun v55 => (zp S54 a0 15 27 (.int (v55 + (1 : Int32)))).bind (fun S56 => zf_X15_step_L212 N n a0 S56)))))))))))
set_option maxHeartbeats 4000000 in
set_option maxRecDepth 100000 in
theorem zt_X15_step_L212 {p : Program} {l : Launch} {e : Env} {R : Room} {s : State} {m : MethodId} {args : Array Value} {below : List Frame} {meth : Method} {c : Code} {V : zm_V} {mc ms d rc rs : Nat} (hX : zm_X p R s m args meth c RX15 "step" cX15_step 3 zk_E V mc ms) (hr : meth.sig.returnType = none) (hR : R.frames = d ∧ R.locals = 64 * d) (hd : 2 ≤ d) {N : Nat} {res : (Unit × zm_S) ⊕ ((Unit) × zm_S)} {out : (Unit × zm_S)} (a0 : Nat) (hf : ∀ o, res = .inl o → o = out) (hk : ∀ (S' : zm_S), res = .inr ((), S') → zw p l e R s m args below meth c (vx_MQ below (zm_Qc zk_E V (zo_v out)) (zm_XC zk_E V zo_x) args s mc ms (fun q => V.2.2.2.1 ≤ q)) 3 zk_E V mc ms 260 [(0, .ref a0)] [] S' rc rs) : ∀ (n : Nat)  (S : zm_S), zf_X15_step_L212 N n a0 S = some res → zw p l e R s m args below meth c (vx_MQ below (zm_Qc zk_E V (zo_v out)) (zm_XC zk_E V zo_x) args s mc ms (fun q => V.2.2.2.1 ≤ q)) 3 zk_E V mc ms 212 [(0, .ref a0)] [] S rc rs := by
  intro n
  induction n with
  | zero => intro  S h; cases h
  | succ n ih =>
    intro  S h
    rw [zf_X15_step_L212] at h
    refine zw_aload_n hX dX15_step_212 rfl ?_
    refine zw_aload_n hX dX15_step_213 rfl ?_
    obtain ⟨v42, g, h⟩ := zb_some h
    refine zw_geti hX zl_X15_93 dX15_step_214 g ?_
    obtain ⟨_, gi, h⟩ := zb_some h
    obtain ⟨r45, g, h⟩ := zb_some h
    refine zc_Vi (as := [.int v42]) hX gi (zt_X15_charAt (d := d - 1) (by omega) g) zl_X15_113 rfl dX15_step_217 ⟨rfl, rfl, Nat.le_of_ble_eq_true rfl⟩ ⟨by omega, by omega⟩ ?_
    obtain ⟨r48, g, h⟩ := zb_some h
    refine zc_Si (as := [.int r45.1]) hX (zt_X15_isLetter (d := d - 1) (by omega) g) zl_X15_125 dX15_step_220 ⟨rfl, rfl, Nat.le_of_ble_eq_true rfl⟩ ⟨by omega, by omega⟩ ?_
    refine zw_if_eq (tgt := 260) hX dX15_step_223 (by decide) (fun c223 => ?_) (fun c223 => ?_)
    · rw [if_pos c223] at h
      refine zw_sub (lv' := [(0, .ref a0)]) (List.forall_mem_cons.mpr ⟨rfl, zs_nil⟩) ?_
      exact hk  _ (Option.some.inj h).symm
    · rw [if_neg c223] at h
      refine zw_aload_n hX dX15_step_226 rfl ?_
      refine zw_aload_n hX dX15_step_227 rfl ?_
      obtain ⟨w49, g, h⟩ := zb_some h
      refine zw_getl hX zl_X15_102 dX15_step_228 g ?_
      refine zw_bipush (v := (8 : Int32)) hX dX15_step_231 (by decide) ?_
      refine zw_lshl hX dX15_step_233 ?_
      refine zw_aload_n hX dX15_step_234 rfl ?_
      refine zw_aload_n hX dX15_step_235 rfl ?_
      obtain ⟨v50, g, h⟩ := zb_some h
      refine zw_geti hX zl_X15_93 dX15_step_236 g ?_
      obtain ⟨_, gi, h⟩ := zb_some h
      obtain ⟨r53, g, h⟩ := zb_some h
      refine zc_Vi (as := [.int v50]) hX gi (zt_X15_charAt (d := d - 1) (by omega) g) zl_X15_113 rfl dX15_step_239 ⟨rfl, rfl, Nat.le_of_ble_eq_true rfl⟩ ⟨by omega, by omega⟩ ?_
      refine zw_i2l hX dX15_step_242 ?_
      refine zw_lor hX dX15_step_243 ?_
      obtain ⟨S54, g, h⟩ := zb_some h
      refine zw_putv hX zl_X15_102 zt_15_29 dX15_step_244 rfl rfl g ?_
      refine zw_aload_n hX dX15_step_247 rfl ?_
      refine zw_dup hX dX15_step_248 rfl ?_
      obtain ⟨v55, g, h⟩ := zb_some h
      refine zw_geti hX zl_X15_93 dX15_step_249 g ?_
      refine zw_iconst (v := (1 : Int32)) hX dX15_step_252 (by decide) ?_
      refine zw_iadd hX dX15_step_253 ?_
      obtain ⟨S56, g, h⟩ := zb_some h
      refine zw_putv hX zl_X15_93 zt_15_27 dX15_step_254 rfl rfl g ?_
      refine zw_goto (tgt := 212) hX dX15_step_257 (by decide) ?_
      refine zw_sub (lv' := [(0, .ref a0)]) (List.forall_mem_cons.mpr ⟨rfl, zs_nil⟩) ?_
      exact ih  _ h
def zf_X15_step_J280 (N : Nat) (a0 : Nat) (t0 : Nat) (t1 : Int32) (S : zm_S) : Option (Unit × zm_S) := (zp_z S t0 15 31 t1).bind (fun S60 => zf_X15_step_J370 N a0 S60)
set_option maxHeartbeats 4000000 in
set_option maxRecDepth 100000 in
theorem zt_X15_step_J280 {p : Program} {l : Launch} {e : Env} {R : Room} {s : State} {m : MethodId} {args : Array Value} {below : List Frame} {meth : Method} {c : Code} {V : zm_V} {mc ms d rc rs : Nat} (hX : zm_X p R s m args meth c RX15 "step" cX15_step 3 zk_E V mc ms) (hr : meth.sig.returnType = none) (hR : R.frames = d ∧ R.locals = 64 * d) (hd : 2 ≤ d) {N : Nat} {a0 : Nat} {t0 : Nat} {t1 : Int32} {out : (Unit × zm_S)} {S : zm_S} (h : zf_X15_step_J280 N a0 t0 t1 S = some out) : zw p l e R s m args below meth c (vx_MQ below (zm_Qc zk_E V (zo_v out)) (zm_XC zk_E V zo_x) args s mc ms (fun q => V.2.2.2.1 ≤ q)) 3 zk_E V mc ms 280 [(0, .ref a0)] [.int t1, .ref t0] S rc rs := by
  unfold zf_X15_step_J280 at h
  obtain ⟨S60, g, h⟩ := zb_some h
  obtain ⟨gz, g⟩ := zp_z_spec g
  refine zw_putv hX zl_X15_121 zt_15_31 dX15_step_280 (zn_z gz) (zf_z gz) g ?_
  refine zw_goto (tgt := 370) hX dX15_step_283 (by decide) ?_
  refine zw_sub (lv' := [(0, .ref a0)]) (List.forall_mem_cons.mpr ⟨rfl, zs_nil⟩) ?_
  exact zt_X15_step_J370 hX hr hR hd h
def zf_X15_step_J158 (N : Nat) (k : Nat → zm_S → Option ((Unit × zm_S) ⊕ ((Unit) × zm_S))) (a0 : Nat) (t0 : Nat) (t1 : Int64) (S : zm_S) : Option ((Unit × zm_S) ⊕ ((Unit) × zm_S)) := (zp S t0 15 29 (.long t1)).bind (fun S72 => (zg_i S72 a0 15 27).bind (fun v73 => (zp S72 a0 15 27 (.int (v73 + (1 : Int32)))).bind (fun S74 => k a0 S74)))
set_option maxHeartbeats 4000000 in
set_option maxRecDepth 100000 in
theorem zt_X15_step_J158 {p : Program} {l : Launch} {e : Env} {R : Room} {s : State} {m : MethodId} {args : Array Value} {below : List Frame} {meth : Method} {c : Code} {V : zm_V} {mc ms d rc rs : Nat} (hX : zm_X p R s m args meth c RX15 "step" cX15_step 3 zk_E V mc ms) (hr : meth.sig.returnType = none) (hR : R.frames = d ∧ R.locals = 64 * d) (hd : 2 ≤ d) {N : Nat} {k : Nat → zm_S → Option ((Unit × zm_S) ⊕ ((Unit) × zm_S))} {a0 : Nat} {t0 : Nat} {t1 : Int64} {res : (Unit × zm_S) ⊕ ((Unit) × zm_S)} {out : (Unit × zm_S)}   (hf : ∀ o, res = .inl o → o = out) (hk : ∀ (S' : zm_S), res = .inr ((), S') → zw p l e R s m args below meth c (vx_MQ below (zm_Qc zk_E V (zo_v out)) (zm_XC zk_E V zo_x) args s mc ms (fun q => V.2.2.2.1 ≤ q)) 3 zk_E V mc ms 174 [(0, .ref a0)] [] S' rc rs) (hrec : ∀  (S : zm_S), k a0 S = some res → zw p l e R s m args below meth c (vx_MQ below (zm_Qc zk_E V (zo_v out)) (zm_XC zk_E V zo_x) args s mc ms (fun q => V.2.2.2.1 ≤ q)) 3 zk_E V mc ms 100 [(0, .ref a0)] [] S rc rs) {S : zm_S} (h : zf_X15_step_J158 N k a0 t0 t1 S = some res) : zw p l e R s m args below meth c (vx_MQ below (zm_Qc zk_E V (zo_v out)) (zm_XC zk_E V zo_x) args s mc ms (fun q => V.2.2.2.1 ≤ q)) 3 zk_E V mc ms 158 [(0, .ref a0)] [.long t1, .ref t0] S rc rs := by
  unfold zf_X15_step_J158 at h
  obtain ⟨S72, g, h⟩ := zb_some h
  refine zw_putv hX zl_X15_102 zt_15_29 dX15_step_158 rfl rfl g ?_
  refine zw_aload_n hX dX15_step_161 rfl ?_
  refine zw_dup hX dX15_step_162 rfl ?_
  obtain ⟨v73, g, h⟩ := zb_some h
  refine zw_geti hX zl_X15_93 dX15_step_163 g ?_
  refine zw_iconst (v := (1 : Int32)) hX dX15_step_166 (by decide) ?_
  refine zw_iadd hX dX15_step_167 ?_
  obtain ⟨S74, g, h⟩ := zb_some h
  refine zw_putv hX zl_X15_93 zt_15_27 dX15_step_168 rfl rfl g ?_
  refine zw_goto (tgt := 100) hX dX15_step_171 (by decide) ?_
  refine zw_sub (lv' := [(0, .ref a0)]) (List.forall_mem_cons.mpr ⟨rfl, zs_nil⟩) ?_
  exact hrec  _ h
def zf_X15_step_L100 (N : Nat) : Nat → Nat → zm_S → Option ((Unit × zm_S) ⊕ ((Unit) × zm_S))
  | 0, _, _ => none
  | n + 1, a0, S => (zg_i S a0 15 27).bind (fun v62 => (zi S a0 15).bind (fun _ => (zf_X15_charAt N a0 v62 S).bind (fun r65 => (zf_X15_isDigit N r65.1 r65.2).bind (fun r68 => if r68.1 = 0 then some (.inr ((), r68.2)) else (zg_i r68.2 a0 15 27).bind (fun v69 => (zg_i r68.2 a0 15 26).bind (fun v70 => if (9 : Int32) ≤ (v69 - v70) then (zg_l r68.2 a0 15 29).bind (fun w71 => zf_X15_step_J158 N (zf_X15_step_L100 N n) a0 a0 w71 r68.2) else (zg_l r68.2 a0 15 29).bind (fun w75 => (zg_i r68.2 a0 15 27).bind (fun v76 => (zi r68.2 a0 15).bind (fun _ => (zf_X15_charAt N a0 v76 r68.2).bind (fun r79 => zf_X15_step_J158 N (zf_X15_step_L100 N n) a0 a0 ((((10 : Int64) * w75) + (r79.1).toInt64) - (48 : Int64)) r79.2))))))))))
set_option maxHeartbeats 4000000 in
set_option maxRecDepth 100000 in
theorem zt_X15_step_L100 {p : Program} {l : Launch} {e : Env} {R : Room} {s : State} {m : MethodId} {args : Array Value} {below : List Frame} {meth : Method} {c : Code} {V : zm_V} {mc ms d rc rs : Nat} (hX : zm_X p R s m args meth c RX15 "step" cX15_step 3 zk_E V mc ms) (hr : meth.sig.returnType = none) (hR : R.frames = d ∧ R.locals = 64 * d) (hd : 2 ≤ d) {N : Nat} {res : (Unit × zm_S) ⊕ ((Unit) × zm_S)} {out : (Unit × zm_S)} (a0 : Nat) (hf : ∀ o, res = .inl o → o = out) (hk : ∀ (S' : zm_S), res = .inr ((), S') → zw p l e R s m args below meth c (vx_MQ below (zm_Qc zk_E V (zo_v out)) (zm_XC zk_E V zo_x) args s mc ms (fun q => V.2.2.2.1 ≤ q)) 3 zk_E V mc ms 174 [(0, .ref a0)] [] S' rc rs) : ∀ (n : Nat)  (S : zm_S), zf_X15_step_L100 N n a0 S = some res → zw p l e R s m args below meth c (vx_MQ below (zm_Qc zk_E V (zo_v out)) (zm_XC zk_E V zo_x) args s mc ms (fun q => V.2.2.2.1 ≤ q)) 3 zk_E V mc ms 100 [(0, .ref a0)] [] S rc rs := by
  intro n
  induction n with
  | zero => intro  S h; cases h
  | succ n ih =>
    intro  S h
    rw [zf_X15_step_L100] at h
    refine zw_aload_n hX dX15_step_100 rfl ?_
    refine zw_aload_n hX dX15_step_101 rfl ?_
    obtain ⟨v62, g, h⟩ := zb_some h
    refine zw_geti hX zl_X15_93 dX15_step_102 g ?_
    obtain ⟨_, gi, h⟩ := zb_some h
    obtain ⟨r65, g, h⟩ := zb_some h
    refine zc_Vi (as := [.int v62]) hX gi (zt_X15_charAt (d := d - 1) (by omega) g) zl_X15_113 rfl dX15_step_105 ⟨rfl, rfl, Nat.le_of_ble_eq_true rfl⟩ ⟨by omega, by omega⟩ ?_
    obtain ⟨r68, g, h⟩ := zb_some h
    refine zc_Si (as := [.int r65.1]) hX (zt_X15_isDigit (d := d - 1) (by omega) g) zl_X15_109 dX15_step_108 ⟨rfl, rfl, Nat.le_of_ble_eq_true rfl⟩ ⟨by omega, by omega⟩ ?_
    refine zw_if_eq (tgt := 174) hX dX15_step_111 (by decide) (fun c111 => ?_) (fun c111 => ?_)
    · rw [if_pos c111] at h
      refine zw_sub (lv' := [(0, .ref a0)]) (List.forall_mem_cons.mpr ⟨rfl, zs_nil⟩) ?_
      exact hk  _ (Option.some.inj h).symm
    · rw [if_neg c111] at h
      refine zw_aload_n hX dX15_step_114 rfl ?_
      refine zw_aload_n hX dX15_step_115 rfl ?_
      obtain ⟨v69, g, h⟩ := zb_some h
      refine zw_geti hX zl_X15_93 dX15_step_116 g ?_
      refine zw_aload_n hX dX15_step_119 rfl ?_
      obtain ⟨v70, g, h⟩ := zb_some h
      refine zw_geti hX zl_X15_96 dX15_step_120 g ?_
      refine zw_isub hX dX15_step_123 ?_
      refine zw_bipush (v := (9 : Int32)) hX dX15_step_124 (by decide) ?_
      refine zw_icmp_ge (tgt := 154) hX dX15_step_126 (by decide) (fun c126 => ?_) (fun c126 => ?_)
      · rw [if_pos c126] at h
        refine zw_aload_n hX dX15_step_154 rfl ?_
        obtain ⟨w71, g, h⟩ := zb_some h
        refine zw_getl hX zl_X15_102 dX15_step_155 g ?_
        refine zw_sub (lv' := [(0, .ref a0)]) (List.forall_mem_cons.mpr ⟨rfl, zs_nil⟩) ?_
        exact zt_X15_step_J158 hX hr hR hd hf hk ih h
      · rw [if_neg c126] at h
        refine zw_ldc2 (v := (10 : Int64)) hX dX15_step_129 zl_X15_117 ?_
        refine zw_aload_n hX dX15_step_132 rfl ?_
        obtain ⟨w75, g, h⟩ := zb_some h
        refine zw_getl hX zl_X15_102 dX15_step_133 g ?_
        refine zw_lmul hX dX15_step_136 ?_
        refine zw_aload_n hX dX15_step_137 rfl ?_
        refine zw_aload_n hX dX15_step_138 rfl ?_
        obtain ⟨v76, g, h⟩ := zb_some h
        refine zw_geti hX zl_X15_93 dX15_step_139 g ?_
        obtain ⟨_, gi, h⟩ := zb_some h
        obtain ⟨r79, g, h⟩ := zb_some h
        refine zc_Vi (as := [.int v76]) hX gi (zt_X15_charAt (d := d - 1) (by omega) g) zl_X15_113 rfl dX15_step_142 ⟨rfl, rfl, Nat.le_of_ble_eq_true rfl⟩ ⟨by omega, by omega⟩ ?_
        refine zw_i2l hX dX15_step_145 ?_
        refine zw_ladd hX dX15_step_146 ?_
        refine zw_ldc2 (v := (48 : Int64)) hX dX15_step_147 zl_X15_119 ?_
        refine zw_lsub hX dX15_step_150 ?_
        refine zw_goto (tgt := 158) hX dX15_step_151 (by decide) ?_
        refine zw_sub (lv' := [(0, .ref a0)]) (List.forall_mem_cons.mpr ⟨rfl, zs_nil⟩) ?_
        exact zt_X15_step_J158 hX hr hR hd hf hk ih h
def zf_X15_step_J194 (N : Nat) (a0 : Nat) (t0 : Nat) (t1 : Int32) (S : zm_S) : Option (Unit × zm_S) := (zp_z S t0 15 31 t1).bind (fun S83 => zf_X15_step_J370 N a0 S83)
set_option maxHeartbeats 4000000 in
set_option maxRecDepth 100000 in
theorem zt_X15_step_J194 {p : Program} {l : Launch} {e : Env} {R : Room} {s : State} {m : MethodId} {args : Array Value} {below : List Frame} {meth : Method} {c : Code} {V : zm_V} {mc ms d rc rs : Nat} (hX : zm_X p R s m args meth c RX15 "step" cX15_step 3 zk_E V mc ms) (hr : meth.sig.returnType = none) (hR : R.frames = d ∧ R.locals = 64 * d) (hd : 2 ≤ d) {N : Nat} {a0 : Nat} {t0 : Nat} {t1 : Int32} {out : (Unit × zm_S)} {S : zm_S} (h : zf_X15_step_J194 N a0 t0 t1 S = some out) : zw p l e R s m args below meth c (vx_MQ below (zm_Qc zk_E V (zo_v out)) (zm_XC zk_E V zo_x) args s mc ms (fun q => V.2.2.2.1 ≤ q)) 3 zk_E V mc ms 194 [(0, .ref a0)] [.int t1, .ref t0] S rc rs := by
  unfold zf_X15_step_J194 at h
  obtain ⟨S83, g, h⟩ := zb_some h
  obtain ⟨gz, g⟩ := zp_z_spec g
  refine zw_putv hX zl_X15_121 zt_15_31 dX15_step_194 (zn_z gz) (zf_z gz) g ?_
  refine zw_goto (tgt := 370) hX dX15_step_197 (by decide) ?_
  refine zw_sub (lv' := [(0, .ref a0)]) (List.forall_mem_cons.mpr ⟨rfl, zs_nil⟩) ?_
  exact zt_X15_step_J370 hX hr hR hd h
def zf_X15_step_J38 (N : Nat) (a0 : Nat) (S : zm_S) : Option (Unit × zm_S) := (zg_i S a0 15 27).bind (fun v9 => (zp S a0 15 26 (.int v9)).bind (fun S10 => (zp S10 a0 15 28 (.int (0 : Int32))).bind (fun S11 => (zp S11 a0 15 29 (.long (0 : Int64))).bind (fun S12 => (zg_i S12 a0 15 26).bind (fun v13 => (zg_i S12 a0 15 1).bind (fun v14 => if v13 = v14 then some ((), S12) else (zg_r S12 a0 15 0).bind (fun b15 => (zg_i S12 a0 15 26).bind (fun v16 => (za_x S12 0 b15 v16).bind (fun v17 => (zg_i S12 a0 15 30).bind (fun v18 => (zp S12 a0 15 30 (.int (v18 + (1 : Int32)))).bind (fun S19 => (zf_X15_isDigit N v17 S19).bind (fun r22 => if r22.1 = 0 then (zf_X15_isLetter N v17 r22.2).bind (fun r25 => if r25.1 = 0 then if v17 = (60 : Int32) then zf_X15_step_J298 N a0 v17 r25.2 else if v17 = (62 : Int32) then zf_X15_step_J298 N a0 v17 r25.2 else zf_X15_step_J317 N a0 v17 r25.2 else (zp r25.2 a0 15 28 (.int (2 : Int32))).bind (fun S41 => (zf_X15_step_L212 N N a0 S41).bind (fun r => match r with | .inl o => some o | .inr (_, S57) => (zg_i S57 a0 15 27).bind (fun v58 => (zg_i S57 a0 15 26).bind (fun v59 => if (v58 - v59) ≤ (8 : Int32) then zf_X15_step_J280 N a0 a0 (0 : Int32) S57 else zf_X15_step_J280 N a0 a0 (1 : Int32) S57))))) else (zp r22.2 a0 15 28 (.int (1 : Int32))).bind (fun S61 => (zf_X15_step_L100 N N a0 S61).bind (fun r => match r with | .inl o => some o | .inr (_, S80) => (zg_i S80 a0 15 27).bind (fun v81 => (zg_i S80 a0 15 26).bind (fun v82 => if (v81 - v82) ≤ (9 : Int32) then zf_X15_step_J194 N a0 a0 (0 : Int32) S80 else zf_X15_step_J194 N a0 a0 (1 : Int32) S80))))))))))))))))
set_option maxHeartbeats 4000000 in
set_option maxRecDepth 100000 in
theorem zt_X15_step_J38 {p : Program} {l : Launch} {e : Env} {R : Room} {s : State} {m : MethodId} {args : Array Value} {below : List Frame} {meth : Method} {c : Code} {V : zm_V} {mc ms d rc rs : Nat} (hX : zm_X p R s m args meth c RX15 "step" cX15_step 3 zk_E V mc ms) (hr : meth.sig.returnType = none) (hR : R.frames = d ∧ R.locals = 64 * d) (hd : 2 ≤ d) {N : Nat} {a0 : Nat} {out : (Unit × zm_S)} {S : zm_S} (h : zf_X15_step_J38 N a0 S = some out) : zw p l e R s m args below meth c (vx_MQ below (zm_Qc zk_E V (zo_v out)) (zm_XC zk_E V zo_x) args s mc ms (fun q => V.2.2.2.1 ≤ q)) 3 zk_E V mc ms 38 [(0, .ref a0)] [] S rc rs := by
  unfold zf_X15_step_J38 at h
  refine zw_aload_n hX dX15_step_38 rfl ?_
  refine zw_aload_n hX dX15_step_39 rfl ?_
  obtain ⟨v9, g, h⟩ := zb_some h
  refine zw_geti hX zl_X15_93 dX15_step_40 g ?_
  obtain ⟨S10, g, h⟩ := zb_some h
  refine zw_putv hX zl_X15_96 zt_15_26 dX15_step_43 rfl rfl g ?_
  refine zw_aload_n hX dX15_step_46 rfl ?_
  refine zw_iconst (v := (0 : Int32)) hX dX15_step_47 (by decide) ?_
  obtain ⟨S11, g, h⟩ := zb_some h
  refine zw_putv hX zl_X15_99 zt_15_28 dX15_step_48 rfl rfl g ?_
  refine zw_aload_n hX dX15_step_51 rfl ?_
  refine zw_lconst (v := (0 : Int64)) hX dX15_step_52 (by decide) ?_
  obtain ⟨S12, g, h⟩ := zb_some h
  refine zw_putv hX zl_X15_102 zt_15_29 dX15_step_53 rfl rfl g ?_
  refine zw_aload_n hX dX15_step_56 rfl ?_
  obtain ⟨v13, g, h⟩ := zb_some h
  refine zw_geti hX zl_X15_96 dX15_step_57 g ?_
  refine zw_aload_n hX dX15_step_60 rfl ?_
  obtain ⟨v14, g, h⟩ := zb_some h
  refine zw_geti hX zl_X15_90 dX15_step_61 g ?_
  refine zw_icmp_ne (tgt := 68) hX dX15_step_64 (by decide) (fun c64 => ?_) (fun c64 => ?_)
  · rw [if_neg c64] at h
    refine zw_aload_n hX dX15_step_68 rfl ?_
    obtain ⟨b15, g, h⟩ := zb_some h
    refine zw_getr hX zl_X15_7 dX15_step_69 g ?_
    refine zw_aload_n hX dX15_step_72 rfl ?_
    obtain ⟨v16, g, h⟩ := zb_some h
    refine zw_geti hX zl_X15_96 dX15_step_73 g ?_
    obtain ⟨v17, g, h⟩ := zb_some h
    refine zw_xi hX dX15_step_76 g ?_
    refine zw_istore_n hX dX15_step_77 (by decide) ?_
    refine zw_aload_n hX dX15_step_78 rfl ?_
    refine zw_dup hX dX15_step_79 rfl ?_
    obtain ⟨v18, g, h⟩ := zb_some h
    refine zw_geti hX zl_X15_106 dX15_step_80 g ?_
    refine zw_iconst (v := (1 : Int32)) hX dX15_step_83 (by decide) ?_
    refine zw_iadd hX dX15_step_84 ?_
    obtain ⟨S19, g, h⟩ := zb_some h
    refine zw_putv hX zl_X15_106 zt_15_30 dX15_step_85 rfl rfl g ?_
    refine zw_iload_n hX dX15_step_88 rfl ?_
    obtain ⟨r22, g, h⟩ := zb_some h
    refine zc_Si (as := [.int v17]) hX (zt_X15_isDigit (d := d - 1) (by omega) g) zl_X15_109 dX15_step_89 ⟨rfl, rfl, Nat.le_of_ble_eq_true rfl⟩ ⟨by omega, by omega⟩ ?_
    refine zw_if_eq (tgt := 200) hX dX15_step_92 (by decide) (fun c92 => ?_) (fun c92 => ?_)
    · rw [if_pos c92] at h
      refine zw_iload_n hX dX15_step_200 rfl ?_
      obtain ⟨r25, g, h⟩ := zb_some h
      refine zc_Si (as := [.int v17]) hX (zt_X15_isLetter (d := d - 1) (by omega) g) zl_X15_125 dX15_step_201 ⟨rfl, rfl, Nat.le_of_ble_eq_true rfl⟩ ⟨by omega, by omega⟩ ?_
      refine zw_if_eq (tgt := 286) hX dX15_step_204 (by decide) (fun c204 => ?_) (fun c204 => ?_)
      · rw [if_pos c204] at h
        refine zw_iload_n hX dX15_step_286 rfl ?_
        refine zw_bipush (v := (60 : Int32)) hX dX15_step_287 (by decide) ?_
        refine zw_icmp_eq (tgt := 298) hX dX15_step_289 (by decide) (fun c289 => ?_) (fun c289 => ?_)
        · rw [if_pos c289] at h
          refine zw_sub (lv' := [(0, .ref a0), (1, .int v17)]) (List.forall_mem_cons.mpr ⟨rfl, (List.forall_mem_cons.mpr ⟨rfl, zs_nil⟩)⟩) ?_
          exact zt_X15_step_J298 hX hr hR hd h
        · rw [if_neg c289] at h
          refine zw_iload_n hX dX15_step_292 rfl ?_
          refine zw_bipush (v := (62 : Int32)) hX dX15_step_293 (by decide) ?_
          refine zw_icmp_ne (tgt := 317) hX dX15_step_295 (by decide) (fun c295 => ?_) (fun c295 => ?_)
          · rw [if_neg c295] at h
            refine zw_sub (lv' := [(0, .ref a0), (1, .int v17)]) (List.forall_mem_cons.mpr ⟨rfl, (List.forall_mem_cons.mpr ⟨rfl, zs_nil⟩)⟩) ?_
            exact zt_X15_step_J317 hX hr hR hd h
          · rw [if_pos c295] at h
            refine zw_sub (lv' := [(0, .ref a0), (1, .int v17)]) (List.forall_mem_cons.mpr ⟨rfl, (List.forall_mem_cons.mpr ⟨rfl, zs_nil⟩)⟩) ?_
            exact zt_X15_step_J298 hX hr hR hd h
      · rw [if_neg c204] at h
        refine zw_aload_n hX dX15_step_207 rfl ?_
        refine zw_iconst (v := (2 : Int32)) hX dX15_step_208 (by decide) ?_
        obtain ⟨S41, g, h⟩ := zb_some h
        refine zw_putv hX zl_X15_99 zt_15_28 dX15_step_209 rfl rfl g ?_
        obtain ⟨r, g, h⟩ := zb_some h
        refine zw_sub (lv' := [(0, .ref a0)]) (List.forall_mem_cons.mpr ⟨rfl, zs_nil⟩) ?_
        refine zt_X15_step_L212 hX hr hR hd (res := r) (out := out) a0 ?_ ?_ N  _ g
        · intro o ho
          subst ho
          exact Option.some.inj h
        · intro  S57 hx
          subst hx
          try dsimp only at h
          refine zw_aload_n hX dX15_step_260 rfl ?_
          refine zw_aload_n hX dX15_step_261 rfl ?_
          obtain ⟨v58, g, h⟩ := zb_some h
          refine zw_geti hX zl_X15_93 dX15_step_262 g ?_
          refine zw_aload_n hX dX15_step_265 rfl ?_
          obtain ⟨v59, g, h⟩ := zb_some h
          refine zw_geti hX zl_X15_96 dX15_step_266 g ?_
          refine zw_isub hX dX15_step_269 ?_
          refine zw_bipush (v := (8 : Int32)) hX dX15_step_270 (by decide) ?_
          refine zw_icmp_le (tgt := 279) hX dX15_step_272 (by decide) (fun c272 => ?_) (fun c272 => ?_)
          · rw [if_pos c272] at h
            refine zw_iconst (v := (0 : Int32)) hX dX15_step_279 (by decide) ?_
            refine zw_sub (lv' := [(0, .ref a0)]) (List.forall_mem_cons.mpr ⟨rfl, zs_nil⟩) ?_
            exact zt_X15_step_J280 hX hr hR hd h
          · rw [if_neg c272] at h
            refine zw_iconst (v := (1 : Int32)) hX dX15_step_275 (by decide) ?_
            refine zw_goto (tgt := 280) hX dX15_step_276 (by decide) ?_
            refine zw_sub (lv' := [(0, .ref a0)]) (List.forall_mem_cons.mpr ⟨rfl, zs_nil⟩) ?_
            exact zt_X15_step_J280 hX hr hR hd h
    · rw [if_neg c92] at h
      refine zw_aload_n hX dX15_step_95 rfl ?_
      refine zw_iconst (v := (1 : Int32)) hX dX15_step_96 (by decide) ?_
      obtain ⟨S61, g, h⟩ := zb_some h
      refine zw_putv hX zl_X15_99 zt_15_28 dX15_step_97 rfl rfl g ?_
      obtain ⟨r, g, h⟩ := zb_some h
      refine zw_sub (lv' := [(0, .ref a0)]) (List.forall_mem_cons.mpr ⟨rfl, zs_nil⟩) ?_
      refine zt_X15_step_L100 hX hr hR hd (res := r) (out := out) a0 ?_ ?_ N  _ g
      · intro o ho
        subst ho
        exact Option.some.inj h
      · intro  S80 hx
        subst hx
        try dsimp only at h
        refine zw_aload_n hX dX15_step_174 rfl ?_
        refine zw_aload_n hX dX15_step_175 rfl ?_
        obtain ⟨v81, g, h⟩ := zb_some h
        refine zw_geti hX zl_X15_93 dX15_step_176 g ?_
        refine zw_aload_n hX dX15_step_179 rfl ?_
        obtain ⟨v82, g, h⟩ := zb_some h
        refine zw_geti hX zl_X15_96 dX15_step_180 g ?_
        refine zw_isub hX dX15_step_183 ?_
        refine zw_bipush (v := (9 : Int32)) hX dX15_step_184 (by decide) ?_
        refine zw_icmp_le (tgt := 193) hX dX15_step_186 (by decide) (fun c186 => ?_) (fun c186 => ?_)
        · rw [if_pos c186] at h
          refine zw_iconst (v := (0 : Int32)) hX dX15_step_193 (by decide) ?_
          refine zw_sub (lv' := [(0, .ref a0)]) (List.forall_mem_cons.mpr ⟨rfl, zs_nil⟩) ?_
          exact zt_X15_step_J194 hX hr hR hd h
        · rw [if_neg c186] at h
          refine zw_iconst (v := (1 : Int32)) hX dX15_step_189 (by decide) ?_
          refine zw_goto (tgt := 194) hX dX15_step_190 (by decide) ?_
          refine zw_sub (lv' := [(0, .ref a0)]) (List.forall_mem_cons.mpr ⟨rfl, zs_nil⟩) ?_
          exact zt_X15_step_J194 hX hr hR hd h
  · rw [if_pos c64] at h
    obtain rfl := Option.some.inj h
    exact zw_vret hX hr dX15_step_67 ⟨rfl, rfl⟩
def zf_X15_step (N : Nat) (a0 : Nat) (S : zm_S) : Option (Unit × zm_S) := (zf_X15_step_L0 N N a0 S).bind (fun r => match r with | .inl o => some o | .inr (_, S8) => zf_X15_step_J38 N a0 S8)
set_option maxHeartbeats 4000000 in
set_option maxRecDepth 100000 in
theorem zt_X15_step {l : Launch} {V : zm_V} {N : Nat} {S : zm_S} {out : (Unit × zm_S)} {d : Nat} {a0 : Nat} (hd : 2 ≤ d) (h : zf_X15_step N a0 S = some out) : zm_Met l zk_E V yX15_step (.code yX15_step cX15_step 3 none) d [.ref a0] S 0 0 (zo_v out) zo_x := by
  refine zm_of (by decide +kernel) (Nat.le_of_ble_eq_true rfl) ?_
  intro p e R s m args below meth c hRR hX hr hxt
  have hR : R.frames = d ∧ R.locals = 64 * d := by rw [hRR]; exact ⟨rfl, rfl⟩
  have hX : zm_X p R s m args meth c RX15 "step" cX15_step 3 zk_E V 0 0 := hX
  unfold zf_X15_step at h
  refine zw_sub (lv' := [(0, .ref a0)]) (List.forall_mem_cons.mpr ⟨rfl, zs_nil⟩) ?_
  obtain ⟨r, g, h⟩ := zb_some h
  refine zw_sub (lv' := [(0, .ref a0)]) (List.forall_mem_cons.mpr ⟨rfl, zs_nil⟩) ?_
  refine zt_X15_step_L0 hX hr hR hd (res := r) (out := out) a0 ?_ ?_ N  _ g
  · intro o ho
    subst ho
    exact Option.some.inj h
  · intro  S8 hx
    subst hx
    try dsimp only at h
    refine zw_sub (lv' := [(0, .ref a0)]) (List.forall_mem_cons.mpr ⟨rfl, zs_nil⟩) ?_
    exact zt_X15_step_J38 hX hr hR hd h
def zf_X15_take_J17 (N : Nat) (a0 : Nat) (t0 : Nat) (t1 : Int32) (S : zm_S) : Option (Unit × zm_S) := (zp_z S t0 15 31 t1).bind (fun S2 => (zg_i S2 a0 15 31).bind (fun v3 => if v3 = 0 then (zi S2 a0 15).bind (fun _ => (zf_X15_step N a0 S2).bind (fun r6 => some ((), r6.2))) else some ((), S2)))
set_option maxHeartbeats 4000000 in
set_option maxRecDepth 100000 in
theorem zt_X15_take_J17 {p : Program} {l : Launch} {e : Env} {R : Room} {s : State} {m : MethodId} {args : Array Value} {below : List Frame} {meth : Method} {c : Code} {V : zm_V} {mc ms d rc rs : Nat} (hX : zm_X p R s m args meth c RX15 "take" cX15_take 2 zk_E V mc ms) (hr : meth.sig.returnType = none) (hR : R.frames = d ∧ R.locals = 64 * d) (hd : 3 ≤ d) {N : Nat} {a0 : Nat} {t0 : Nat} {t1 : Int32} {out : (Unit × zm_S)} {S : zm_S} (h : zf_X15_take_J17 N a0 t0 t1 S = some out) : zw p l e R s m args below meth c (vx_MQ below (zm_Qc zk_E V (zo_v out)) (zm_XC zk_E V zo_x) args s mc ms (fun q => V.2.2.2.1 ≤ q)) 2 zk_E V mc ms 17 [(0, .ref a0)] [.int t1, .ref t0] S rc rs := by
  unfold zf_X15_take_J17 at h
  obtain ⟨S2, g, h⟩ := zb_some h
  obtain ⟨gz, g⟩ := zp_z_spec g
  refine zw_putv hX zl_X15_121 zt_15_31 dX15_take_17 (zn_z gz) (zf_z gz) g ?_
  refine zw_aload_n hX dX15_take_20 rfl ?_
  obtain ⟨v3, g, h⟩ := zb_some h
  refine zw_geti hX zl_X15_121 dX15_take_21 g ?_
  refine zw_if_ne (tgt := 31) hX dX15_take_24 (by decide) (fun c24 => ?_) (fun c24 => ?_)
  · rw [if_neg c24] at h
    obtain rfl := Option.some.inj h
    exact zw_vret hX hr dX15_take_31 ⟨rfl, rfl⟩
  · rw [if_pos c24] at h
    refine zw_aload_n hX dX15_take_27 rfl ?_
    obtain ⟨_, gi, h⟩ := zb_some h
    obtain ⟨r6, g, h⟩ := zb_some h
    refine zc_Vv (as := []) hX gi (zt_X15_step (d := d - 1) (by omega) g) zl_X15_131 rfl dX15_take_28 ⟨rfl, rfl, Nat.le_of_ble_eq_true rfl⟩ ⟨by omega, by omega⟩ ?_
    obtain rfl := Option.some.inj h
    exact zw_vret hX hr dX15_take_31 ⟨rfl, rfl⟩
def zf_X15_take_J12 (N : Nat) (a0 : Nat) (t0 : Nat) (S : zm_S) : Option (Unit × zm_S) := zf_X15_take_J17 N a0 t0 (1 : Int32) S
set_option maxHeartbeats 4000000 in
set_option maxRecDepth 100000 in
theorem zt_X15_take_J12 {p : Program} {l : Launch} {e : Env} {R : Room} {s : State} {m : MethodId} {args : Array Value} {below : List Frame} {meth : Method} {c : Code} {V : zm_V} {mc ms d rc rs : Nat} (hX : zm_X p R s m args meth c RX15 "take" cX15_take 2 zk_E V mc ms) (hr : meth.sig.returnType = none) (hR : R.frames = d ∧ R.locals = 64 * d) (hd : 3 ≤ d) {N : Nat} {a0 : Nat} {t0 : Nat} {out : (Unit × zm_S)} {S : zm_S} (h : zf_X15_take_J12 N a0 t0 S = some out) : zw p l e R s m args below meth c (vx_MQ below (zm_Qc zk_E V (zo_v out)) (zm_XC zk_E V zo_x) args s mc ms (fun q => V.2.2.2.1 ≤ q)) 2 zk_E V mc ms 12 [(0, .ref a0)] [.ref t0] S rc rs := by
  unfold zf_X15_take_J12 at h
  refine zw_iconst (v := (1 : Int32)) hX dX15_take_12 (by decide) ?_
  refine zw_goto (tgt := 17) hX dX15_take_13 (by decide) ?_
  refine zw_sub (lv' := [(0, .ref a0)]) (List.forall_mem_cons.mpr ⟨rfl, zs_nil⟩) ?_
  exact zt_X15_take_J17 hX hr hR hd h
def zf_X15_take (N : Nat) (a0 : Nat) (i1 : Int32) (S : zm_S) : Option (Unit × zm_S) := (zg_i S a0 15 31).bind (fun v1 => if v1 = 0 then if i1 = 0 then zf_X15_take_J12 N a0 a0 S else zf_X15_take_J17 N a0 a0 (0 : Int32) S else zf_X15_take_J12 N a0 a0 S)
set_option maxHeartbeats 4000000 in
set_option maxRecDepth 100000 in
theorem zt_X15_take {l : Launch} {V : zm_V} {N : Nat} {S : zm_S} {out : (Unit × zm_S)} {d : Nat} {a0 : Nat} {i1 : Int32} (hd : 3 ≤ d) (h : zf_X15_take N a0 i1 S = some out) : zm_Met l zk_E V yX15_take (.code yX15_take cX15_take 2 none) d [.ref a0, .int i1] S 0 0 (zo_v out) zo_x := by
  refine zm_of (by decide +kernel) (Nat.le_of_ble_eq_true rfl) ?_
  intro p e R s m args below meth c hRR hX hr hxt
  have hR : R.frames = d ∧ R.locals = 64 * d := by rw [hRR]; exact ⟨rfl, rfl⟩
  have hX : zm_X p R s m args meth c RX15 "take" cX15_take 2 zk_E V 0 0 := hX
  unfold zf_X15_take at h
  refine zw_sub (lv' := [(0, .ref a0), (1, .int i1)]) (List.forall_mem_cons.mpr ⟨rfl, (List.forall_mem_cons.mpr ⟨rfl, zs_nil⟩)⟩) ?_
  refine zw_aload_n hX dX15_take_0 rfl ?_
  refine zw_aload_n hX dX15_take_1 rfl ?_
  obtain ⟨v1, g, h⟩ := zb_some h
  refine zw_geti hX zl_X15_121 dX15_take_2 g ?_
  refine zw_if_ne (tgt := 12) hX dX15_take_5 (by decide) (fun c5 => ?_) (fun c5 => ?_)
  · rw [if_neg c5] at h
    refine zw_sub (lv' := [(0, .ref a0)]) (List.forall_mem_cons.mpr ⟨rfl, zs_nil⟩) ?_
    exact zt_X15_take_J12 hX hr hR hd h
  · rw [if_pos c5] at h
    refine zw_iload_n hX dX15_take_8 rfl ?_
    refine zw_if_ne (tgt := 16) hX dX15_take_9 (by decide) (fun c9 => ?_) (fun c9 => ?_)
    · rw [if_neg c9] at h
      refine zw_iconst (v := (0 : Int32)) hX dX15_take_16 (by decide) ?_
      refine zw_sub (lv' := [(0, .ref a0)]) (List.forall_mem_cons.mpr ⟨rfl, zs_nil⟩) ?_
      exact zt_X15_take_J17 hX hr hR hd h
    · rw [if_pos c9] at h
      refine zw_sub (lv' := [(0, .ref a0)]) (List.forall_mem_cons.mpr ⟨rfl, zs_nil⟩) ?_
      exact zt_X15_take_J12 hX hr hR hd h
def zf_X15_emit (N : Nat) (a0 : Nat) (i1 : Int32) (j2 : Int64) (S : zm_S) : Option (Unit × zm_S) := (zg_r S a0 15 16).bind (fun b1 => (zg_i S a0 15 34).bind (fun v2 => (zs_i S b1 ((400 : Int32) + v2) i1).bind (fun S3 => (zg_r S3 a0 15 17).bind (fun b4 => (zg_i S3 a0 15 34).bind (fun v5 => (zs_l S3 b4 ((400 : Int32) + v5) j2).bind (fun S6 => (zg_i S6 a0 15 34).bind (fun v7 => (zp S6 a0 15 34 (.int (v7 + (1 : Int32)))).bind (fun S8 => some ((), S8)))))))))
set_option maxHeartbeats 4000000 in
set_option maxRecDepth 100000 in
theorem zt_X15_emit {l : Launch} {V : zm_V} {N : Nat} {S : zm_S} {out : (Unit × zm_S)} {d : Nat} {a0 : Nat} {i1 : Int32} {j2 : Int64} (hd : 1 ≤ d) (h : zf_X15_emit N a0 i1 j2 S = some out) : zm_Met l zk_E V yX15_emit (.code yX15_emit cX15_emit 4 none) d [.ref a0, .int i1, .long j2] S 0 0 (zo_v out) zo_x := by
  refine zm_of (by decide +kernel) (Nat.le_of_ble_eq_true rfl) ?_
  intro p e R s m args below meth c hRR hX hr hxt
  have hR : R.frames = d ∧ R.locals = 64 * d := by rw [hRR]; exact ⟨rfl, rfl⟩
  have hX : zm_X p R s m args meth c RX15 "emit" cX15_emit 4 zk_E V 0 0 := hX
  unfold zf_X15_emit at h
  refine zw_sub (lv' := [(0, .ref a0), (1, .int i1), (2, .long j2)]) (List.forall_mem_cons.mpr ⟨rfl, (List.forall_mem_cons.mpr ⟨rfl, (List.forall_mem_cons.mpr ⟨rfl, zs_nil⟩)⟩)⟩) ?_
  refine zw_aload_n hX dX15_emit_0 rfl ?_
  obtain ⟨b1, g, h⟩ := zb_some h
  refine zw_getr hX zl_X15_44 dX15_emit_1 g ?_
  refine zw_sipush (v := (400 : Int32)) hX dX15_emit_4 (by decide) ?_
  refine zw_aload_n hX dX15_emit_7 rfl ?_
  obtain ⟨v2, g, h⟩ := zb_some h
  refine zw_geti hX zl_X15_134 dX15_emit_8 g ?_
  refine zw_iadd hX dX15_emit_11 ?_
  refine zw_iload_n hX dX15_emit_12 rfl ?_
  obtain ⟨S3, g, h⟩ := zb_some h
  refine zw_si hX dX15_emit_13 g ?_
  refine zw_aload_n hX dX15_emit_14 rfl ?_
  obtain ⟨b4, g, h⟩ := zb_some h
  refine zw_getr hX zl_X15_47 dX15_emit_15 g ?_
  refine zw_sipush (v := (400 : Int32)) hX dX15_emit_18 (by decide) ?_
  refine zw_aload_n hX dX15_emit_21 rfl ?_
  obtain ⟨v5, g, h⟩ := zb_some h
  refine zw_geti hX zl_X15_134 dX15_emit_22 g ?_
  refine zw_iadd hX dX15_emit_25 ?_
  refine zw_lload_n hX dX15_emit_26 rfl ?_
  obtain ⟨S6, g, h⟩ := zb_some h
  refine zw_sl hX dX15_emit_27 g ?_
  refine zw_aload_n hX dX15_emit_28 rfl ?_
  refine zw_dup hX dX15_emit_29 rfl ?_
  obtain ⟨v7, g, h⟩ := zb_some h
  refine zw_geti hX zl_X15_134 dX15_emit_30 g ?_
  refine zw_iconst (v := (1 : Int32)) hX dX15_emit_33 (by decide) ?_
  refine zw_iadd hX dX15_emit_34 ?_
  obtain ⟨S8, g, h⟩ := zb_some h
  refine zw_putv hX zl_X15_134 zt_15_34 dX15_emit_35 rfl rfl g ?_
  obtain rfl := Option.some.inj h
  exact zw_vret hX hr dX15_emit_38 ⟨rfl, rfl⟩
def zf_X15_unpile_J42 (N : Nat) (k : Nat → Int32 → zm_S → Option ((Unit × zm_S) ⊕ ((Unit) × zm_S))) (a0 : Nat) (i1 : Int32) (S : zm_S) : Option ((Unit × zm_S) ⊕ ((Unit) × zm_S)) := (zg_i S a0 15 36).bind (fun v8 => (zp S a0 15 36 (.int (v8 - (1 : Int32)))).bind (fun S9 => (zg_r S9 a0 15 35).bind (fun b10 => (zg_i S9 a0 15 36).bind (fun v11 => (za_x S9 0 b10 v11).bind (fun v12 => (zi S9 a0 15).bind (fun _ => (zf_X15_emit N a0 v12 (0 : Int64) S9).bind (fun r15 => k a0 i1 r15.2)))))))
set_option maxHeartbeats 4000000 in
set_option maxRecDepth 100000 in
theorem zt_X15_unpile_J42 {p : Program} {l : Launch} {e : Env} {R : Room} {s : State} {m : MethodId} {args : Array Value} {below : List Frame} {meth : Method} {c : Code} {V : zm_V} {mc ms d rc rs : Nat} (hX : zm_X p R s m args meth c RX15 "unpile" cX15_unpile 2 zk_E V mc ms) (hr : meth.sig.returnType = none) (hR : R.frames = d ∧ R.locals = 64 * d) (hd : 2 ≤ d) {N : Nat} {k : Nat → Int32 → zm_S → Option ((Unit × zm_S) ⊕ ((Unit) × zm_S))} {a0 : Nat} {i1 : Int32} {res : (Unit × zm_S) ⊕ ((Unit) × zm_S)} {out : (Unit × zm_S)}   (hf : ∀ o, res = .inl o → o = out) (hk : ∀ (S' : zm_S), res = .inr ((), S') → zw p l e R s m args below meth c (vx_MQ below (zm_Qc zk_E V (zo_v out)) (zm_XC zk_E V zo_x) args s mc ms (fun q => V.2.2.2.1 ≤ q)) 2 zk_E V mc ms 69 [] [] S' rc rs) (hrec : ∀  (S : zm_S), k a0 i1 S = some res → zw p l e R s m args below meth c (vx_MQ below (zm_Qc zk_E V (zo_v out)) (zm_XC zk_E V zo_x) args s mc ms (fun q => V.2.2.2.1 ≤ q)) 2 zk_E V mc ms 0 [(0, .ref a0), (1, .int i1)] [] S rc rs) {S : zm_S} (h : zf_X15_unpile_J42 N k a0 i1 S = some res) : zw p l e R s m args below meth c (vx_MQ below (zm_Qc zk_E V (zo_v out)) (zm_XC zk_E V zo_x) args s mc ms (fun q => V.2.2.2.1 ≤ q)) 2 zk_E V mc ms 42 [(0, .ref a0), (1, .int i1)] [] S rc rs := by
  unfold zf_X15_unpile_J42 at h
  refine zw_aload_n hX dX15_unpile_42 rfl ?_
  refine zw_dup hX dX15_unpile_43 rfl ?_
  obtain ⟨v8, g, h⟩ := zb_some h
  refine zw_geti hX zl_X15_137 dX15_unpile_44 g ?_
  refine zw_iconst (v := (1 : Int32)) hX dX15_unpile_47 (by decide) ?_
  refine zw_isub hX dX15_unpile_48 ?_
  obtain ⟨S9, g, h⟩ := zb_some h
  refine zw_putv hX zl_X15_137 zt_15_36 dX15_unpile_49 rfl rfl g ?_
  refine zw_aload_n hX dX15_unpile_52 rfl ?_
  refine zw_aload_n hX dX15_unpile_53 rfl ?_
  obtain ⟨b10, g, h⟩ := zb_some h
  refine zw_getr hX zl_X15_75 dX15_unpile_54 g ?_
  refine zw_aload_n hX dX15_unpile_57 rfl ?_
  obtain ⟨v11, g, h⟩ := zb_some h
  refine zw_geti hX zl_X15_137 dX15_unpile_58 g ?_
  obtain ⟨v12, g, h⟩ := zb_some h
  refine zw_xi hX dX15_unpile_61 g ?_
  refine zw_lconst (v := (0 : Int64)) hX dX15_unpile_62 (by decide) ?_
  obtain ⟨_, gi, h⟩ := zb_some h
  obtain ⟨r15, g, h⟩ := zb_some h
  refine zc_Vv (as := [.int v12, .long (0 : Int64)]) hX gi (zt_X15_emit (d := d - 1) (by omega) g) zl_X15_140 rfl dX15_unpile_63 ⟨rfl, rfl, Nat.le_of_ble_eq_true rfl⟩ ⟨by omega, by omega⟩ ?_
  refine zw_goto (tgt := 0) hX dX15_unpile_66 (by decide) ?_
  refine zw_sub (lv' := [(0, .ref a0), (1, .int i1)]) (List.forall_mem_cons.mpr ⟨rfl, (List.forall_mem_cons.mpr ⟨rfl, zs_nil⟩)⟩) ?_
  exact hrec  _ h
def zf_X15_unpile_L0 (N : Nat) : Nat → Nat → Int32 → zm_S → Option ((Unit × zm_S) ⊕ ((Unit) × zm_S))
  | 0, _, _, _ => none
  | n + 1, a0, i1, S => (zg_i S a0 15 36).bind (fun v1 => if v1 ≤ 0 then some (.inr ((), S)) else (zg_r S a0 15 35).bind (fun b2 => (zg_i S a0 15 36).bind (fun v3 => (za_x S 0 b2 (v3 - (1 : Int32))).bind (fun v4 => if v4 ≤ (1 : Int32) then some (.inr ((), S)) else (zg_r S a0 15 35).bind (fun b5 => (zg_i S a0 15 36).bind (fun v6 => (za_x S 0 b5 (v6 - (1 : Int32))).bind (fun v7 => if (3 : Int32) < v7 then zf_X15_unpile_J42 N (zf_X15_unpile_L0 N n) a0 i1 S else if (2 : Int32) ≤ i1 then some (.inr ((), S)) else zf_X15_unpile_J42 N (zf_X15_unpile_L0 N n) a0 i1 S)))))))
set_option maxHeartbeats 4000000 in
set_option maxRecDepth 100000 in
theorem zt_X15_unpile_L0 {p : Program} {l : Launch} {e : Env} {R : Room} {s : State} {m : MethodId} {args : Array Value} {below : List Frame} {meth : Method} {c : Code} {V : zm_V} {mc ms d rc rs : Nat} (hX : zm_X p R s m args meth c RX15 "unpile" cX15_unpile 2 zk_E V mc ms) (hr : meth.sig.returnType = none) (hR : R.frames = d ∧ R.locals = 64 * d) (hd : 2 ≤ d) {N : Nat} {res : (Unit × zm_S) ⊕ ((Unit) × zm_S)} {out : (Unit × zm_S)} (a0 : Nat) (i1 : Int32) (hf : ∀ o, res = .inl o → o = out) (hk : ∀ (S' : zm_S), res = .inr ((), S') → zw p l e R s m args below meth c (vx_MQ below (zm_Qc zk_E V (zo_v out)) (zm_XC zk_E V zo_x) args s mc ms (fun q => V.2.2.2.1 ≤ q)) 2 zk_E V mc ms 69 [] [] S' rc rs) : ∀ (n : Nat)  (S : zm_S), zf_X15_unpile_L0 N n a0 i1 S = some res → zw p l e R s m args below meth c (vx_MQ below (zm_Qc zk_E V (zo_v out)) (zm_XC zk_E V zo_x) args s mc ms (fun q => V.2.2.2.1 ≤ q)) 2 zk_E V mc ms 0 [(0, .ref a0), (1, .int i1)] [] S rc rs := by
  intro n
  induction n with
  | zero => intro  S h; cases h
  | succ n ih =>
    intro  S h
    rw [zf_X15_unpile_L0] at h
    refine zw_aload_n hX dX15_unpile_0 rfl ?_
    obtain ⟨v1, g, h⟩ := zb_some h
    refine zw_geti hX zl_X15_137 dX15_unpile_1 g ?_
    refine zw_if_le (tgt := 69) hX dX15_unpile_4 (by decide) (fun c4 => ?_) (fun c4 => ?_)
    · rw [if_pos c4] at h
      refine zw_sub (lv' := []) zs_nil ?_
      exact hk  _ (Option.some.inj h).symm
    · rw [if_neg c4] at h
      refine zw_aload_n hX dX15_unpile_7 rfl ?_
      obtain ⟨b2, g, h⟩ := zb_some h
      refine zw_getr hX zl_X15_75 dX15_unpile_8 g ?_
      refine zw_aload_n hX dX15_unpile_11 rfl ?_
      obtain ⟨v3, g, h⟩ := zb_some h
      refine zw_geti hX zl_X15_137 dX15_unpile_12 g ?_
      refine zw_iconst (v := (1 : Int32)) hX dX15_unpile_15 (by decide) ?_
      refine zw_isub hX dX15_unpile_16 ?_
      obtain ⟨v4, g, h⟩ := zb_some h
      refine zw_xi hX dX15_unpile_17 g ?_
      refine zw_iconst (v := (1 : Int32)) hX dX15_unpile_18 (by decide) ?_
      refine zw_icmp_le (tgt := 69) hX dX15_unpile_19 (by decide) (fun c19 => ?_) (fun c19 => ?_)
      · rw [if_pos c19] at h
        refine zw_sub (lv' := []) zs_nil ?_
        exact hk  _ (Option.some.inj h).symm
      · rw [if_neg c19] at h
        refine zw_aload_n hX dX15_unpile_22 rfl ?_
        obtain ⟨b5, g, h⟩ := zb_some h
        refine zw_getr hX zl_X15_75 dX15_unpile_23 g ?_
        refine zw_aload_n hX dX15_unpile_26 rfl ?_
        obtain ⟨v6, g, h⟩ := zb_some h
        refine zw_geti hX zl_X15_137 dX15_unpile_27 g ?_
        refine zw_iconst (v := (1 : Int32)) hX dX15_unpile_30 (by decide) ?_
        refine zw_isub hX dX15_unpile_31 ?_
        obtain ⟨v7, g, h⟩ := zb_some h
        refine zw_xi hX dX15_unpile_32 g ?_
        refine zw_iconst (v := (3 : Int32)) hX dX15_unpile_33 (by decide) ?_
        refine zw_icmp_gt (tgt := 42) hX dX15_unpile_34 (by decide) (fun c34 => ?_) (fun c34 => ?_)
        · rw [if_pos c34] at h
          refine zw_sub (lv' := [(0, .ref a0), (1, .int i1)]) (List.forall_mem_cons.mpr ⟨rfl, (List.forall_mem_cons.mpr ⟨rfl, zs_nil⟩)⟩) ?_
          exact zt_X15_unpile_J42 hX hr hR hd hf hk ih h
        · rw [if_neg c34] at h
          refine zw_iload_n hX dX15_unpile_37 rfl ?_
          refine zw_iconst (v := (2 : Int32)) hX dX15_unpile_38 (by decide) ?_
          refine zw_icmp_ge (tgt := 69) hX dX15_unpile_39 (by decide) (fun c39 => ?_) (fun c39 => ?_)
          · rw [if_pos c39] at h
            refine zw_sub (lv' := []) zs_nil ?_
            exact hk  _ (Option.some.inj h).symm
          · rw [if_neg c39] at h
            refine zw_sub (lv' := [(0, .ref a0), (1, .int i1)]) (List.forall_mem_cons.mpr ⟨rfl, (List.forall_mem_cons.mpr ⟨rfl, zs_nil⟩)⟩) ?_
            exact zt_X15_unpile_J42 hX hr hR hd hf hk ih h
def zf_X15_unpile (N : Nat) (a0 : Nat) (i1 : Int32) (S : zm_S) : Option (Unit × zm_S) := (zf_X15_unpile_L0 N N a0 i1 S).bind (fun r => match r with | .inl o => some o | .inr (_, S16) => some ((), S16))
set_option maxHeartbeats 4000000 in
set_option maxRecDepth 100000 in
theorem zt_X15_unpile {l : Launch} {V : zm_V} {N : Nat} {S : zm_S} {out : (Unit × zm_S)} {d : Nat} {a0 : Nat} {i1 : Int32} (hd : 2 ≤ d) (h : zf_X15_unpile N a0 i1 S = some out) : zm_Met l zk_E V yX15_unpile (.code yX15_unpile cX15_unpile 2 none) d [.ref a0, .int i1] S 0 0 (zo_v out) zo_x := by
  refine zm_of (by decide +kernel) (Nat.le_of_ble_eq_true rfl) ?_
  intro p e R s m args below meth c hRR hX hr hxt
  have hR : R.frames = d ∧ R.locals = 64 * d := by rw [hRR]; exact ⟨rfl, rfl⟩
  have hX : zm_X p R s m args meth c RX15 "unpile" cX15_unpile 2 zk_E V 0 0 := hX
  unfold zf_X15_unpile at h
  refine zw_sub (lv' := [(0, .ref a0), (1, .int i1)]) (List.forall_mem_cons.mpr ⟨rfl, (List.forall_mem_cons.mpr ⟨rfl, zs_nil⟩)⟩) ?_
  obtain ⟨r, g, h⟩ := zb_some h
  refine zw_sub (lv' := [(0, .ref a0), (1, .int i1)]) (List.forall_mem_cons.mpr ⟨rfl, (List.forall_mem_cons.mpr ⟨rfl, zs_nil⟩)⟩) ?_
  refine zt_X15_unpile_L0 hX hr hR hd (res := r) (out := out) a0 i1 ?_ ?_ N  _ g
  · intro o ho
    subst ho
    exact Option.some.inj h
  · intro  S16 hx
    subst hx
    try dsimp only at h
    obtain rfl := Option.some.inj h
    exact zw_vret hX hr dX15_unpile_69 ⟨rfl, rfl⟩
def zf_X15_operation (N : Nat) (i0 : Int32) (S : zm_S) : Option (Int32 × zm_S) := if i0 = (43 : Int32) then some ((2 : Int32), S) else if i0 = (45 : Int32) then some ((3 : Int32), S) else if i0 = (42 : Int32) then some ((4 : Int32), S) else if i0 = (47 : Int32) then some ((5 : Int32), S) else some ((0 : Int32), S)
set_option maxHeartbeats 4000000 in
set_option maxRecDepth 100000 in
theorem zt_X15_operation {l : Launch} {V : zm_V} {N : Nat} {S : zm_S} {out : (Int32 × zm_S)} {d : Nat} {i0 : Int32} (hd : 1 ≤ d) (h : zf_X15_operation N i0 S = some out) : zm_Met l zk_E V yX15_operation (.code yX15_operation cX15_operation 1 (some .int)) d [.int i0] S 0 0 (zo_i out) zo_x := by
  refine zm_of (by decide +kernel) (Nat.le_of_ble_eq_true rfl) ?_
  intro p e R s m args below meth c hRR hX hr hxt
  have hR : R.frames = d ∧ R.locals = 64 * d := by rw [hRR]; exact ⟨rfl, rfl⟩
  have hX : zm_X p R s m args meth c RX15 "operation" cX15_operation 1 zk_E V 0 0 := hX
  unfold zf_X15_operation at h
  refine zw_sub (lv' := [(0, .int i0)]) (List.forall_mem_cons.mpr ⟨rfl, zs_nil⟩) ?_
  refine zw_iload_n hX dX15_operation_0 rfl ?_
  refine zw_bipush (v := (43 : Int32)) hX dX15_operation_1 (by decide) ?_
  refine zw_icmp_ne (tgt := 10) hX dX15_operation_3 (by decide) (fun c3 => ?_) (fun c3 => ?_)
  · rw [if_neg c3] at h
    refine zw_iload_n hX dX15_operation_10 rfl ?_
    refine zw_bipush (v := (45 : Int32)) hX dX15_operation_11 (by decide) ?_
    refine zw_icmp_ne (tgt := 20) hX dX15_operation_13 (by decide) (fun c13 => ?_) (fun c13 => ?_)
    · rw [if_neg c13] at h
      refine zw_iload_n hX dX15_operation_20 rfl ?_
      refine zw_bipush (v := (42 : Int32)) hX dX15_operation_21 (by decide) ?_
      refine zw_icmp_ne (tgt := 30) hX dX15_operation_23 (by decide) (fun c23 => ?_) (fun c23 => ?_)
      · rw [if_neg c23] at h
        refine zw_iload_n hX dX15_operation_30 rfl ?_
        refine zw_bipush (v := (47 : Int32)) hX dX15_operation_31 (by decide) ?_
        refine zw_icmp_ne (tgt := 40) hX dX15_operation_33 (by decide) (fun c33 => ?_) (fun c33 => ?_)
        · rw [if_neg c33] at h
          refine zw_iconst (v := (0 : Int32)) hX dX15_operation_40 (by decide) ?_
          obtain rfl := Option.some.inj h
          exact zw_iret hX hr dX15_operation_41 rfl ⟨rfl, rfl⟩
        · rw [if_pos c33] at h
          refine zw_iconst (v := (5 : Int32)) hX dX15_operation_36 (by decide) ?_
          refine zw_goto (tgt := 41) hX dX15_operation_37 (by decide) ?_
          obtain rfl := Option.some.inj h
          exact zw_iret hX hr dX15_operation_41 rfl ⟨rfl, rfl⟩
      · rw [if_pos c23] at h
        refine zw_iconst (v := (4 : Int32)) hX dX15_operation_26 (by decide) ?_
        refine zw_goto (tgt := 41) hX dX15_operation_27 (by decide) ?_
        obtain rfl := Option.some.inj h
        exact zw_iret hX hr dX15_operation_41 rfl ⟨rfl, rfl⟩
    · rw [if_pos c13] at h
      refine zw_iconst (v := (3 : Int32)) hX dX15_operation_16 (by decide) ?_
      refine zw_goto (tgt := 41) hX dX15_operation_17 (by decide) ?_
      obtain rfl := Option.some.inj h
      exact zw_iret hX hr dX15_operation_41 rfl ⟨rfl, rfl⟩
  · rw [if_pos c3] at h
    refine zw_iconst (v := (2 : Int32)) hX dX15_operation_6 (by decide) ?_
    refine zw_goto (tgt := 41) hX dX15_operation_7 (by decide) ?_
    obtain rfl := Option.some.inj h
    exact zw_iret hX hr dX15_operation_41 rfl ⟨rfl, rfl⟩
def zf_X15_side_J306 (N : Nat) (k : Nat → Int32 → Int32 → Int32 → Int32 → zm_S → Option ((Unit × zm_S) ⊕ ((Unit) × zm_S))) (a0 : Nat) (i1 : Int32) (i2 : Int32) (i3 : Int32) (t0 : Nat) (t1 : Int32) (S : zm_S) : Option ((Unit × zm_S) ⊕ ((Unit) × zm_S)) := (zp_z S t0 15 31 t1).bind (fun S8 => k a0 i1 i2 i3 (0 : Int32) S8)
set_option maxHeartbeats 4000000 in
set_option maxRecDepth 100000 in
theorem zt_X15_side_J306 {p : Program} {l : Launch} {e : Env} {R : Room} {s : State} {m : MethodId} {args : Array Value} {below : List Frame} {meth : Method} {c : Code} {V : zm_V} {mc ms d rc rs : Nat} (hX : zm_X p R s m args meth c RX15 "side" cX15_side 6 zk_E V mc ms) (hr : meth.sig.returnType = none) (hR : R.frames = d ∧ R.locals = 64 * d) (hd : 4 ≤ d) {N : Nat} {k : Nat → Int32 → Int32 → Int32 → Int32 → zm_S → Option ((Unit × zm_S) ⊕ ((Unit) × zm_S))} {a0 : Nat} {i1 : Int32} {i2 : Int32} {i3 : Int32} {t0 : Nat} {t1 : Int32} {res : (Unit × zm_S) ⊕ ((Unit) × zm_S)} {out : (Unit × zm_S)}   (hf : ∀ o, res = .inl o → o = out) (hk : ∀ (S' : zm_S), res = .inr ((), S') → zw p l e R s m args below meth c (vx_MQ below (zm_Qc zk_E V (zo_v out)) (zm_XC zk_E V zo_x) args s mc ms (fun q => V.2.2.2.1 ≤ q)) 6 zk_E V mc ms 315 [(0, .ref a0)] [] S' rc rs) (hrec : ∀ (i1' : Int32) (i2' : Int32) (i3' : Int32) (i4' : Int32) (S : zm_S), k a0 i1' i2' i3' i4' S = some res → zw p l e R s m args below meth c (vx_MQ below (zm_Qc zk_E V (zo_v out)) (zm_XC zk_E V zo_x) args s mc ms (fun q => V.2.2.2.1 ≤ q)) 6 zk_E V mc ms 14 [(0, .ref a0), (1, .int i1'), (2, .int i2'), (3, .int i3'), (4, .int i4')] [] S rc rs) {S : zm_S} (h : zf_X15_side_J306 N k a0 i1 i2 i3 t0 t1 S = some res) : zw p l e R s m args below meth c (vx_MQ below (zm_Qc zk_E V (zo_v out)) (zm_XC zk_E V zo_x) args s mc ms (fun q => V.2.2.2.1 ≤ q)) 6 zk_E V mc ms 306 [(0, .ref a0), (1, .int i1), (2, .int i2), (3, .int i3)] [.int t1, .ref t0] S rc rs := by
  unfold zf_X15_side_J306 at h
  obtain ⟨S8, g, h⟩ := zb_some h
  obtain ⟨gz, g⟩ := zp_z_spec g
  refine zw_putv hX zl_X15_121 zt_15_31 dX15_side_306 (zn_z gz) (zf_z gz) g ?_
  refine zw_iconst (v := (0 : Int32)) hX dX15_side_309 (by decide) ?_
  refine zw_istore hX dX15_side_310 (by decide) ?_
  refine zw_goto (tgt := 14) hX dX15_side_312 (by decide) ?_
  refine zw_sub (lv' := [(0, .ref a0), (1, .int i1), (2, .int i2), (3, .int i3), (4, .int (0 : Int32))]) (List.forall_mem_cons.mpr ⟨rfl, (List.forall_mem_cons.mpr ⟨rfl, (List.forall_mem_cons.mpr ⟨rfl, (List.forall_mem_cons.mpr ⟨rfl, (List.forall_mem_cons.mpr ⟨rfl, zs_nil⟩)⟩)⟩)⟩)⟩) ?_
  exact hrec _ _ _ _ _ h
def zf_X15_side_J296 (N : Nat) (k : Nat → Int32 → Int32 → Int32 → Int32 → zm_S → Option ((Unit × zm_S) ⊕ ((Unit) × zm_S))) (a0 : Nat) (i1 : Int32) (i2 : Int32) (i3 : Int32) (S : zm_S) : Option ((Unit × zm_S) ⊕ ((Unit) × zm_S)) := if i1 ≤ 0 then zf_X15_side_J306 N (k) a0 i1 i2 i3 a0 (0 : Int32) S else zf_X15_side_J306 N (k) a0 i1 i2 i3 a0 (1 : Int32) S
set_option maxHeartbeats 4000000 in
set_option maxRecDepth 100000 in
theorem zt_X15_side_J296 {p : Program} {l : Launch} {e : Env} {R : Room} {s : State} {m : MethodId} {args : Array Value} {below : List Frame} {meth : Method} {c : Code} {V : zm_V} {mc ms d rc rs : Nat} (hX : zm_X p R s m args meth c RX15 "side" cX15_side 6 zk_E V mc ms) (hr : meth.sig.returnType = none) (hR : R.frames = d ∧ R.locals = 64 * d) (hd : 4 ≤ d) {N : Nat} {k : Nat → Int32 → Int32 → Int32 → Int32 → zm_S → Option ((Unit × zm_S) ⊕ ((Unit) × zm_S))} {a0 : Nat} {i1 : Int32} {i2 : Int32} {i3 : Int32} {res : (Unit × zm_S) ⊕ ((Unit) × zm_S)} {out : (Unit × zm_S)}   (hf : ∀ o, res = .inl o → o = out) (hk : ∀ (S' : zm_S), res = .inr ((), S') → zw p l e R s m args below meth c (vx_MQ below (zm_Qc zk_E V (zo_v out)) (zm_XC zk_E V zo_x) args s mc ms (fun q => V.2.2.2.1 ≤ q)) 6 zk_E V mc ms 315 [(0, .ref a0)] [] S' rc rs) (hrec : ∀ (i1' : Int32) (i2' : Int32) (i3' : Int32) (i4' : Int32) (S : zm_S), k a0 i1' i2' i3' i4' S = some res → zw p l e R s m args below meth c (vx_MQ below (zm_Qc zk_E V (zo_v out)) (zm_XC zk_E V zo_x) args s mc ms (fun q => V.2.2.2.1 ≤ q)) 6 zk_E V mc ms 14 [(0, .ref a0), (1, .int i1'), (2, .int i2'), (3, .int i3'), (4, .int i4')] [] S rc rs) {S : zm_S} (h : zf_X15_side_J296 N k a0 i1 i2 i3 S = some res) : zw p l e R s m args below meth c (vx_MQ below (zm_Qc zk_E V (zo_v out)) (zm_XC zk_E V zo_x) args s mc ms (fun q => V.2.2.2.1 ≤ q)) 6 zk_E V mc ms 296 [(0, .ref a0), (1, .int i1), (2, .int i2), (3, .int i3)] [] S rc rs := by
  unfold zf_X15_side_J296 at h
  refine zw_aload_n hX dX15_side_296 rfl ?_
  refine zw_iload_n hX dX15_side_297 rfl ?_
  refine zw_if_le (tgt := 305) hX dX15_side_298 (by decide) (fun c298 => ?_) (fun c298 => ?_)
  · rw [if_pos c298] at h
    refine zw_iconst (v := (0 : Int32)) hX dX15_side_305 (by decide) ?_
    refine zw_sub (lv' := [(0, .ref a0), (1, .int i1), (2, .int i2), (3, .int i3)]) (List.forall_mem_cons.mpr ⟨rfl, (List.forall_mem_cons.mpr ⟨rfl, (List.forall_mem_cons.mpr ⟨rfl, (List.forall_mem_cons.mpr ⟨rfl, zs_nil⟩)⟩)⟩)⟩) ?_
    exact zt_X15_side_J306 hX hr hR hd hf hk hrec h
  · rw [if_neg c298] at h
    refine zw_iconst (v := (1 : Int32)) hX dX15_side_301 (by decide) ?_
    refine zw_goto (tgt := 306) hX dX15_side_302 (by decide) ?_
    refine zw_sub (lv' := [(0, .ref a0), (1, .int i1), (2, .int i2), (3, .int i3)]) (List.forall_mem_cons.mpr ⟨rfl, (List.forall_mem_cons.mpr ⟨rfl, (List.forall_mem_cons.mpr ⟨rfl, (List.forall_mem_cons.mpr ⟨rfl, zs_nil⟩)⟩)⟩)⟩) ?_
    exact zt_X15_side_J306 hX hr hR hd hf hk hrec h
def zf_X15_side_J221 (N : Nat) (k : Nat → Int32 → Int32 → Int32 → Int32 → zm_S → Option ((Unit × zm_S) ⊕ ((Unit) × zm_S))) (a0 : Nat) (i1 : Int32) (i4 : Int32) (i5 : Int32) (t0 : Nat) (t1 : Int32) (S : zm_S) : Option ((Unit × zm_S) ⊕ ((Unit) × zm_S)) := (zi S t0 15).bind (fun _ => (zf_X15_unpile N t0 t1 S).bind (fun r19 => (zg_r r19.2 a0 15 35).bind (fun b20 => (zg_i r19.2 a0 15 36).bind (fun v21 => (zs_i r19.2 b20 v21 i5).bind (fun S22 => (zg_i S22 a0 15 36).bind (fun v23 => (zp S22 a0 15 36 (.int (v23 + (1 : Int32)))).bind (fun S24 => (zi S24 a0 15).bind (fun _ => (zf_X15_take N a0 (1 : Int32) S24).bind (fun r27 => k a0 i1 (0 : Int32) (1 : Int32) i4 r27.2)))))))))
set_option maxHeartbeats 4000000 in
set_option maxRecDepth 100000 in
theorem zt_X15_side_J221 {p : Program} {l : Launch} {e : Env} {R : Room} {s : State} {m : MethodId} {args : Array Value} {below : List Frame} {meth : Method} {c : Code} {V : zm_V} {mc ms d rc rs : Nat} (hX : zm_X p R s m args meth c RX15 "side" cX15_side 6 zk_E V mc ms) (hr : meth.sig.returnType = none) (hR : R.frames = d ∧ R.locals = 64 * d) (hd : 4 ≤ d) {N : Nat} {k : Nat → Int32 → Int32 → Int32 → Int32 → zm_S → Option ((Unit × zm_S) ⊕ ((Unit) × zm_S))} {a0 : Nat} {i1 : Int32} {i4 : Int32} {i5 : Int32} {t0 : Nat} {t1 : Int32} {res : (Unit × zm_S) ⊕ ((Unit) × zm_S)} {out : (Unit × zm_S)}   (hf : ∀ o, res = .inl o → o = out) (hk : ∀ (S' : zm_S), res = .inr ((), S') → zw p l e R s m args below meth c (vx_MQ below (zm_Qc zk_E V (zo_v out)) (zm_XC zk_E V zo_x) args s mc ms (fun q => V.2.2.2.1 ≤ q)) 6 zk_E V mc ms 315 [(0, .ref a0)] [] S' rc rs) (hrec : ∀ (i1' : Int32) (i2' : Int32) (i3' : Int32) (i4' : Int32) (S : zm_S), k a0 i1' i2' i3' i4' S = some res → zw p l e R s m args below meth c (vx_MQ below (zm_Qc zk_E V (zo_v out)) (zm_XC zk_E V zo_x) args s mc ms (fun q => V.2.2.2.1 ≤ q)) 6 zk_E V mc ms 14 [(0, .ref a0), (1, .int i1'), (2, .int i2'), (3, .int i3'), (4, .int i4')] [] S rc rs) {S : zm_S} (h : zf_X15_side_J221 N k a0 i1 i4 i5 t0 t1 S = some res) : zw p l e R s m args below meth c (vx_MQ below (zm_Qc zk_E V (zo_v out)) (zm_XC zk_E V zo_x) args s mc ms (fun q => V.2.2.2.1 ≤ q)) 6 zk_E V mc ms 221 [(0, .ref a0), (1, .int i1), (4, .int i4), (5, .int i5)] [.int t1, .ref t0] S rc rs := by
  unfold zf_X15_side_J221 at h
  obtain ⟨_, gi, h⟩ := zb_some h
  obtain ⟨r19, g, h⟩ := zb_some h
  refine zc_Vv (as := [.int t1]) hX gi (zt_X15_unpile (d := d - 1) (by omega) g) zl_X15_151 rfl dX15_side_221 ⟨rfl, rfl, Nat.le_of_ble_eq_true rfl⟩ ⟨by omega, by omega⟩ ?_
  refine zw_aload_n hX dX15_side_224 rfl ?_
  obtain ⟨b20, g, h⟩ := zb_some h
  refine zw_getr hX zl_X15_75 dX15_side_225 g ?_
  refine zw_aload_n hX dX15_side_228 rfl ?_
  obtain ⟨v21, g, h⟩ := zb_some h
  refine zw_geti hX zl_X15_137 dX15_side_229 g ?_
  refine zw_iload hX dX15_side_232 rfl ?_
  obtain ⟨S22, g, h⟩ := zb_some h
  refine zw_si hX dX15_side_234 g ?_
  refine zw_aload_n hX dX15_side_235 rfl ?_
  refine zw_dup hX dX15_side_236 rfl ?_
  obtain ⟨v23, g, h⟩ := zb_some h
  refine zw_geti hX zl_X15_137 dX15_side_237 g ?_
  refine zw_iconst (v := (1 : Int32)) hX dX15_side_240 (by decide) ?_
  refine zw_iadd hX dX15_side_241 ?_
  obtain ⟨S24, g, h⟩ := zb_some h
  refine zw_putv hX zl_X15_137 zt_15_36 dX15_side_242 rfl rfl g ?_
  refine zw_iconst (v := (1 : Int32)) hX dX15_side_245 (by decide) ?_
  refine zw_istore_n hX dX15_side_246 (by decide) ?_
  refine zw_iconst (v := (0 : Int32)) hX dX15_side_247 (by decide) ?_
  refine zw_istore_n hX dX15_side_248 (by decide) ?_
  refine zw_aload_n hX dX15_side_249 rfl ?_
  refine zw_iconst (v := (1 : Int32)) hX dX15_side_250 (by decide) ?_
  obtain ⟨_, gi, h⟩ := zb_some h
  obtain ⟨r27, g, h⟩ := zb_some h
  refine zc_Vv (as := [.int (1 : Int32)]) hX gi (zt_X15_take (d := d - 1) (by omega) g) zl_X15_147 rfl dX15_side_251 ⟨rfl, rfl, Nat.le_of_ble_eq_true rfl⟩ ⟨by omega, by omega⟩ ?_
  refine zw_goto (tgt := 312) hX dX15_side_254 (by decide) ?_
  refine zw_goto (tgt := 14) hX dX15_side_312 (by decide) ?_
  refine zw_sub (lv' := [(0, .ref a0), (1, .int i1), (2, .int (0 : Int32)), (3, .int (1 : Int32)), (4, .int i4)]) (List.forall_mem_cons.mpr ⟨rfl, (List.forall_mem_cons.mpr ⟨rfl, (List.forall_mem_cons.mpr ⟨rfl, (List.forall_mem_cons.mpr ⟨rfl, (List.forall_mem_cons.mpr ⟨rfl, zs_nil⟩)⟩)⟩)⟩)⟩) ?_
  exact hrec _ _ _ _ _ h
def zf_X15_side_J193 (N : Nat) (k : Nat → Int32 → Int32 → Int32 → Int32 → zm_S → Option ((Unit × zm_S) ⊕ ((Unit) × zm_S))) (a0 : Nat) (i1 : Int32) (i2 : Int32) (i3 : Int32) (i4 : Int32) (t0 : Nat) (S : zm_S) : Option ((Unit × zm_S) ⊕ ((Unit) × zm_S)) := (zi S t0 15).bind (fun _ => (zf_X15_take N t0 (1 : Int32) S).bind (fun r36 => k a0 i1 i2 i3 i4 r36.2))
set_option maxHeartbeats 4000000 in
set_option maxRecDepth 100000 in
theorem zt_X15_side_J193 {p : Program} {l : Launch} {e : Env} {R : Room} {s : State} {m : MethodId} {args : Array Value} {below : List Frame} {meth : Method} {c : Code} {V : zm_V} {mc ms d rc rs : Nat} (hX : zm_X p R s m args meth c RX15 "side" cX15_side 6 zk_E V mc ms) (hr : meth.sig.returnType = none) (hR : R.frames = d ∧ R.locals = 64 * d) (hd : 4 ≤ d) {N : Nat} {k : Nat → Int32 → Int32 → Int32 → Int32 → zm_S → Option ((Unit × zm_S) ⊕ ((Unit) × zm_S))} {a0 : Nat} {i1 : Int32} {i2 : Int32} {i3 : Int32} {i4 : Int32} {t0 : Nat} {res : (Unit × zm_S) ⊕ ((Unit) × zm_S)} {out : (Unit × zm_S)}   (hf : ∀ o, res = .inl o → o = out) (hk : ∀ (S' : zm_S), res = .inr ((), S') → zw p l e R s m args below meth c (vx_MQ below (zm_Qc zk_E V (zo_v out)) (zm_XC zk_E V zo_x) args s mc ms (fun q => V.2.2.2.1 ≤ q)) 6 zk_E V mc ms 315 [(0, .ref a0)] [] S' rc rs) (hrec : ∀ (i1' : Int32) (i2' : Int32) (i3' : Int32) (i4' : Int32) (S : zm_S), k a0 i1' i2' i3' i4' S = some res → zw p l e R s m args below meth c (vx_MQ below (zm_Qc zk_E V (zo_v out)) (zm_XC zk_E V zo_x) args s mc ms (fun q => V.2.2.2.1 ≤ q)) 6 zk_E V mc ms 14 [(0, .ref a0), (1, .int i1'), (2, .int i2'), (3, .int i3'), (4, .int i4')] [] S rc rs) {S : zm_S} (h : zf_X15_side_J193 N k a0 i1 i2 i3 i4 t0 S = some res) : zw p l e R s m args below meth c (vx_MQ below (zm_Qc zk_E V (zo_v out)) (zm_XC zk_E V zo_x) args s mc ms (fun q => V.2.2.2.1 ≤ q)) 6 zk_E V mc ms 193 [(0, .ref a0), (1, .int i1), (2, .int i2), (3, .int i3), (4, .int i4)] [.ref t0] S rc rs := by
  unfold zf_X15_side_J193 at h
  refine zw_iconst (v := (1 : Int32)) hX dX15_side_193 (by decide) ?_
  refine zw_goto (tgt := 198) hX dX15_side_194 (by decide) ?_
  obtain ⟨_, gi, h⟩ := zb_some h
  obtain ⟨r36, g, h⟩ := zb_some h
  refine zc_Vv (as := [.int (1 : Int32)]) hX gi (zt_X15_take (d := d - 1) (by omega) g) zl_X15_147 rfl dX15_side_198 ⟨rfl, rfl, Nat.le_of_ble_eq_true rfl⟩ ⟨by omega, by omega⟩ ?_
  refine zw_goto (tgt := 312) hX dX15_side_201 (by decide) ?_
  refine zw_goto (tgt := 14) hX dX15_side_312 (by decide) ?_
  refine zw_sub (lv' := [(0, .ref a0), (1, .int i1), (2, .int i2), (3, .int i3), (4, .int i4)]) (List.forall_mem_cons.mpr ⟨rfl, (List.forall_mem_cons.mpr ⟨rfl, (List.forall_mem_cons.mpr ⟨rfl, (List.forall_mem_cons.mpr ⟨rfl, (List.forall_mem_cons.mpr ⟨rfl, zs_nil⟩)⟩)⟩)⟩)⟩) ?_
  exact hrec _ _ _ _ _ h
def zf_X15_side_J167 (N : Nat) (k : Nat → Int32 → Int32 → Int32 → Int32 → zm_S → Option ((Unit × zm_S) ⊕ ((Unit) × zm_S))) (a0 : Nat) (i1 : Int32) (i2 : Int32) (i4 : Int32) (t0 : Nat) (t1 : Int32) (S : zm_S) : Option ((Unit × zm_S) ⊕ ((Unit) × zm_S)) := (zg_l S a0 15 29).bind (fun w29 => (zi S t0 15).bind (fun _ => (zf_X15_emit N t0 t1 w29 S).bind (fun r32 => (zg_i r32.2 a0 15 28).bind (fun v33 => if v33 = (1 : Int32) then zf_X15_side_J193 N (k) a0 i1 i2 (0 : Int32) i4 a0 r32.2 else (zg_i r32.2 a0 15 28).bind (fun v37 => if v37 = (2 : Int32) then zf_X15_side_J193 N (k) a0 i1 i2 (0 : Int32) i4 a0 r32.2 else (zi r32.2 a0 15).bind (fun _ => (zf_X15_take N a0 (0 : Int32) r32.2).bind (fun r40 => k a0 i1 i2 (0 : Int32) i4 r40.2)))))))
set_option maxHeartbeats 4000000 in
set_option maxRecDepth 100000 in
theorem zt_X15_side_J167 {p : Program} {l : Launch} {e : Env} {R : Room} {s : State} {m : MethodId} {args : Array Value} {below : List Frame} {meth : Method} {c : Code} {V : zm_V} {mc ms d rc rs : Nat} (hX : zm_X p R s m args meth c RX15 "side" cX15_side 6 zk_E V mc ms) (hr : meth.sig.returnType = none) (hR : R.frames = d ∧ R.locals = 64 * d) (hd : 4 ≤ d) {N : Nat} {k : Nat → Int32 → Int32 → Int32 → Int32 → zm_S → Option ((Unit × zm_S) ⊕ ((Unit) × zm_S))} {a0 : Nat} {i1 : Int32} {i2 : Int32} {i4 : Int32} {t0 : Nat} {t1 : Int32} {res : (Unit × zm_S) ⊕ ((Unit) × zm_S)} {out : (Unit × zm_S)}   (hf : ∀ o, res = .inl o → o = out) (hk : ∀ (S' : zm_S), res = .inr ((), S') → zw p l e R s m args below meth c (vx_MQ below (zm_Qc zk_E V (zo_v out)) (zm_XC zk_E V zo_x) args s mc ms (fun q => V.2.2.2.1 ≤ q)) 6 zk_E V mc ms 315 [(0, .ref a0)] [] S' rc rs) (hrec : ∀ (i1' : Int32) (i2' : Int32) (i3' : Int32) (i4' : Int32) (S : zm_S), k a0 i1' i2' i3' i4' S = some res → zw p l e R s m args below meth c (vx_MQ below (zm_Qc zk_E V (zo_v out)) (zm_XC zk_E V zo_x) args s mc ms (fun q => V.2.2.2.1 ≤ q)) 6 zk_E V mc ms 14 [(0, .ref a0), (1, .int i1'), (2, .int i2'), (3, .int i3'), (4, .int i4')] [] S rc rs) {S : zm_S} (h : zf_X15_side_J167 N k a0 i1 i2 i4 t0 t1 S = some res) : zw p l e R s m args below meth c (vx_MQ below (zm_Qc zk_E V (zo_v out)) (zm_XC zk_E V zo_x) args s mc ms (fun q => V.2.2.2.1 ≤ q)) 6 zk_E V mc ms 167 [(0, .ref a0), (1, .int i1), (2, .int i2), (4, .int i4)] [.int t1, .ref t0] S rc rs := by
  unfold zf_X15_side_J167 at h
  refine zw_aload_n hX dX15_side_167 rfl ?_
  obtain ⟨w29, g, h⟩ := zb_some h
  refine zw_getl hX zl_X15_102 dX15_side_168 g ?_
  obtain ⟨_, gi, h⟩ := zb_some h
  obtain ⟨r32, g, h⟩ := zb_some h
  refine zc_Vv (as := [.int t1, .long w29]) hX gi (zt_X15_emit (d := d - 1) (by omega) g) zl_X15_140 rfl dX15_side_171 ⟨rfl, rfl, Nat.le_of_ble_eq_true rfl⟩ ⟨by omega, by omega⟩ ?_
  refine zw_iconst (v := (0 : Int32)) hX dX15_side_174 (by decide) ?_
  refine zw_istore_n hX dX15_side_175 (by decide) ?_
  refine zw_aload_n hX dX15_side_176 rfl ?_
  refine zw_aload_n hX dX15_side_177 rfl ?_
  obtain ⟨v33, g, h⟩ := zb_some h
  refine zw_geti hX zl_X15_99 dX15_side_178 g ?_
  refine zw_iconst (v := (1 : Int32)) hX dX15_side_181 (by decide) ?_
  refine zw_icmp_eq (tgt := 193) hX dX15_side_182 (by decide) (fun c182 => ?_) (fun c182 => ?_)
  · rw [if_pos c182] at h
    refine zw_sub (lv' := [(0, .ref a0), (1, .int i1), (2, .int i2), (3, .int (0 : Int32)), (4, .int i4)]) (List.forall_mem_cons.mpr ⟨rfl, (List.forall_mem_cons.mpr ⟨rfl, (List.forall_mem_cons.mpr ⟨rfl, (List.forall_mem_cons.mpr ⟨rfl, (List.forall_mem_cons.mpr ⟨rfl, zs_nil⟩)⟩)⟩)⟩)⟩) ?_
    exact zt_X15_side_J193 hX hr hR hd hf hk hrec h
  · rw [if_neg c182] at h
    refine zw_aload_n hX dX15_side_185 rfl ?_
    obtain ⟨v37, g, h⟩ := zb_some h
    refine zw_geti hX zl_X15_99 dX15_side_186 g ?_
    refine zw_iconst (v := (2 : Int32)) hX dX15_side_189 (by decide) ?_
    refine zw_icmp_ne (tgt := 197) hX dX15_side_190 (by decide) (fun c190 => ?_) (fun c190 => ?_)
    · rw [if_neg c190] at h
      refine zw_iconst (v := (0 : Int32)) hX dX15_side_197 (by decide) ?_
      obtain ⟨_, gi, h⟩ := zb_some h
      obtain ⟨r40, g, h⟩ := zb_some h
      refine zc_Vv (as := [.int (0 : Int32)]) hX gi (zt_X15_take (d := d - 1) (by omega) g) zl_X15_147 rfl dX15_side_198 ⟨rfl, rfl, Nat.le_of_ble_eq_true rfl⟩ ⟨by omega, by omega⟩ ?_
      refine zw_goto (tgt := 312) hX dX15_side_201 (by decide) ?_
      refine zw_goto (tgt := 14) hX dX15_side_312 (by decide) ?_
      refine zw_sub (lv' := [(0, .ref a0), (1, .int i1), (2, .int i2), (3, .int (0 : Int32)), (4, .int i4)]) (List.forall_mem_cons.mpr ⟨rfl, (List.forall_mem_cons.mpr ⟨rfl, (List.forall_mem_cons.mpr ⟨rfl, (List.forall_mem_cons.mpr ⟨rfl, (List.forall_mem_cons.mpr ⟨rfl, zs_nil⟩)⟩)⟩)⟩)⟩) ?_
      exact hrec _ _ _ _ _ h
    · rw [if_pos c190] at h
      refine zw_sub (lv' := [(0, .ref a0), (1, .int i1), (2, .int i2), (3, .int (0 : Int32)), (4, .int i4)]) (List.forall_mem_cons.mpr ⟨rfl, (List.forall_mem_cons.mpr ⟨rfl, (List.forall_mem_cons.mpr ⟨rfl, (List.forall_mem_cons.mpr ⟨rfl, (List.forall_mem_cons.mpr ⟨rfl, zs_nil⟩)⟩)⟩)⟩)⟩) ?_
      exact zt_X15_side_J193 hX hr hR hd hf hk hrec h
def zf_X15_side_J149 (N : Nat) (k : Nat → Int32 → Int32 → Int32 → Int32 → zm_S → Option ((Unit × zm_S) ⊕ ((Unit) × zm_S))) (a0 : Nat) (i1 : Int32) (i2 : Int32) (i3 : Int32) (i4 : Int32) (i5 : Int32) (S : zm_S) : Option ((Unit × zm_S) ⊕ ((Unit) × zm_S)) := if i3 = 0 then if i5 ≤ 0 then (zg_i S a0 15 28).bind (fun v7 => if v7 = (41 : Int32) then if i1 ≤ 0 then zf_X15_side_J296 N (k) a0 i1 i2 i3 S else (zi S a0 15).bind (fun _ => (zf_X15_unpile N a0 (1 : Int32) S).bind (fun r11 => (zg_i r11.2 a0 15 36).bind (fun v12 => (zp r11.2 a0 15 36 (.int (v12 - (1 : Int32)))).bind (fun S13 => (zi S13 a0 15).bind (fun _ => (zf_X15_take N a0 (1 : Int32) S13).bind (fun r16 => k a0 (i1 + (-1 : Int32)) i2 i3 i4 r16.2)))))) else zf_X15_side_J296 N (k) a0 i1 i2 i3 S) else if i5 ≤ (3 : Int32) then zf_X15_side_J221 N (k) a0 i1 i4 i5 a0 (1 : Int32) S else zf_X15_side_J221 N (k) a0 i1 i4 i5 a0 (2 : Int32) S else (zg_i S a0 15 28).bind (fun v28 => if v28 = (1 : Int32) then zf_X15_side_J167 N (k) a0 i1 i2 i4 a0 (0 : Int32) S else zf_X15_side_J167 N (k) a0 i1 i2 i4 a0 (1 : Int32) S)
set_option maxHeartbeats 4000000 in
set_option maxRecDepth 100000 in
theorem zt_X15_side_J149 {p : Program} {l : Launch} {e : Env} {R : Room} {s : State} {m : MethodId} {args : Array Value} {below : List Frame} {meth : Method} {c : Code} {V : zm_V} {mc ms d rc rs : Nat} (hX : zm_X p R s m args meth c RX15 "side" cX15_side 6 zk_E V mc ms) (hr : meth.sig.returnType = none) (hR : R.frames = d ∧ R.locals = 64 * d) (hd : 4 ≤ d) {N : Nat} {k : Nat → Int32 → Int32 → Int32 → Int32 → zm_S → Option ((Unit × zm_S) ⊕ ((Unit) × zm_S))} {a0 : Nat} {i1 : Int32} {i2 : Int32} {i3 : Int32} {i4 : Int32} {i5 : Int32} {res : (Unit × zm_S) ⊕ ((Unit) × zm_S)} {out : (Unit × zm_S)}   (hf : ∀ o, res = .inl o → o = out) (hk : ∀ (S' : zm_S), res = .inr ((), S') → zw p l e R s m args below meth c (vx_MQ below (zm_Qc zk_E V (zo_v out)) (zm_XC zk_E V zo_x) args s mc ms (fun q => V.2.2.2.1 ≤ q)) 6 zk_E V mc ms 315 [(0, .ref a0)] [] S' rc rs) (hrec : ∀ (i1' : Int32) (i2' : Int32) (i3' : Int32) (i4' : Int32) (S : zm_S), k a0 i1' i2' i3' i4' S = some res → zw p l e R s m args below meth c (vx_MQ below (zm_Qc zk_E V (zo_v out)) (zm_XC zk_E V zo_x) args s mc ms (fun q => V.2.2.2.1 ≤ q)) 6 zk_E V mc ms 14 [(0, .ref a0), (1, .int i1'), (2, .int i2'), (3, .int i3'), (4, .int i4')] [] S rc rs) {S : zm_S} (h : zf_X15_side_J149 N k a0 i1 i2 i3 i4 i5 S = some res) : zw p l e R s m args below meth c (vx_MQ below (zm_Qc zk_E V (zo_v out)) (zm_XC zk_E V zo_x) args s mc ms (fun q => V.2.2.2.1 ≤ q)) 6 zk_E V mc ms 149 [(0, .ref a0), (1, .int i1), (2, .int i2), (3, .int i3), (4, .int i4), (5, .int i5)] [] S rc rs := by
  unfold zf_X15_side_J149 at h
  refine zw_iload_n hX dX15_side_149 rfl ?_
  refine zw_if_eq (tgt := 204) hX dX15_side_150 (by decide) (fun c150 => ?_) (fun c150 => ?_)
  · rw [if_pos c150] at h
    refine zw_iload hX dX15_side_204 rfl ?_
    refine zw_if_le (tgt := 257) hX dX15_side_206 (by decide) (fun c206 => ?_) (fun c206 => ?_)
    · rw [if_pos c206] at h
      refine zw_aload_n hX dX15_side_257 rfl ?_
      obtain ⟨v7, g, h⟩ := zb_some h
      refine zw_geti hX zl_X15_99 dX15_side_258 g ?_
      refine zw_bipush (v := (41 : Int32)) hX dX15_side_261 (by decide) ?_
      refine zw_icmp_ne (tgt := 296) hX dX15_side_263 (by decide) (fun c263 => ?_) (fun c263 => ?_)
      · rw [if_neg c263] at h
        refine zw_sub (lv' := [(0, .ref a0), (1, .int i1), (2, .int i2), (3, .int i3)]) (List.forall_mem_cons.mpr ⟨rfl, (List.forall_mem_cons.mpr ⟨rfl, (List.forall_mem_cons.mpr ⟨rfl, (List.forall_mem_cons.mpr ⟨rfl, zs_nil⟩)⟩)⟩)⟩) ?_
        exact zt_X15_side_J296 hX hr hR hd hf hk hrec h
      · rw [if_pos c263] at h
        refine zw_iload_n hX dX15_side_266 rfl ?_
        refine zw_if_le (tgt := 296) hX dX15_side_267 (by decide) (fun c267 => ?_) (fun c267 => ?_)
        · rw [if_pos c267] at h
          refine zw_sub (lv' := [(0, .ref a0), (1, .int i1), (2, .int i2), (3, .int i3)]) (List.forall_mem_cons.mpr ⟨rfl, (List.forall_mem_cons.mpr ⟨rfl, (List.forall_mem_cons.mpr ⟨rfl, (List.forall_mem_cons.mpr ⟨rfl, zs_nil⟩)⟩)⟩)⟩) ?_
          exact zt_X15_side_J296 hX hr hR hd hf hk hrec h
        · rw [if_neg c267] at h
          refine zw_aload_n hX dX15_side_270 rfl ?_
          refine zw_iconst (v := (1 : Int32)) hX dX15_side_271 (by decide) ?_
          obtain ⟨_, gi, h⟩ := zb_some h
          obtain ⟨r11, g, h⟩ := zb_some h
          refine zc_Vv (as := [.int (1 : Int32)]) hX gi (zt_X15_unpile (d := d - 1) (by omega) g) zl_X15_151 rfl dX15_side_272 ⟨rfl, rfl, Nat.le_of_ble_eq_true rfl⟩ ⟨by omega, by omega⟩ ?_
          refine zw_aload_n hX dX15_side_275 rfl ?_
          refine zw_dup hX dX15_side_276 rfl ?_
          obtain ⟨v12, g, h⟩ := zb_some h
          refine zw_geti hX zl_X15_137 dX15_side_277 g ?_
          refine zw_iconst (v := (1 : Int32)) hX dX15_side_280 (by decide) ?_
          refine zw_isub hX dX15_side_281 ?_
          obtain ⟨S13, g, h⟩ := zb_some h
          refine zw_putv hX zl_X15_137 zt_15_36 dX15_side_282 rfl rfl g ?_
          refine zw_iinc (v := (i1 + (-1 : Int32))) hX dX15_side_285 rfl rfl (by decide) ?_
          refine zw_aload_n hX dX15_side_288 rfl ?_
          refine zw_iconst (v := (1 : Int32)) hX dX15_side_289 (by decide) ?_
          obtain ⟨_, gi, h⟩ := zb_some h
          obtain ⟨r16, g, h⟩ := zb_some h
          refine zc_Vv (as := [.int (1 : Int32)]) hX gi (zt_X15_take (d := d - 1) (by omega) g) zl_X15_147 rfl dX15_side_290 ⟨rfl, rfl, Nat.le_of_ble_eq_true rfl⟩ ⟨by omega, by omega⟩ ?_
          refine zw_goto (tgt := 312) hX dX15_side_293 (by decide) ?_
          refine zw_goto (tgt := 14) hX dX15_side_312 (by decide) ?_
          refine zw_sub (lv' := [(0, .ref a0), (1, .int (i1 + (-1 : Int32))), (2, .int i2), (3, .int i3), (4, .int i4)]) (List.forall_mem_cons.mpr ⟨rfl, (List.forall_mem_cons.mpr ⟨rfl, (List.forall_mem_cons.mpr ⟨rfl, (List.forall_mem_cons.mpr ⟨rfl, (List.forall_mem_cons.mpr ⟨rfl, zs_nil⟩)⟩)⟩)⟩)⟩) ?_
          exact hrec _ _ _ _ _ h
    · rw [if_neg c206] at h
      refine zw_aload_n hX dX15_side_209 rfl ?_
      refine zw_iload hX dX15_side_210 rfl ?_
      refine zw_iconst (v := (3 : Int32)) hX dX15_side_212 (by decide) ?_
      refine zw_icmp_le (tgt := 220) hX dX15_side_213 (by decide) (fun c213 => ?_) (fun c213 => ?_)
      · rw [if_pos c213] at h
        refine zw_iconst (v := (1 : Int32)) hX dX15_side_220 (by decide) ?_
        refine zw_sub (lv' := [(0, .ref a0), (1, .int i1), (4, .int i4), (5, .int i5)]) (List.forall_mem_cons.mpr ⟨rfl, (List.forall_mem_cons.mpr ⟨rfl, (List.forall_mem_cons.mpr ⟨rfl, (List.forall_mem_cons.mpr ⟨rfl, zs_nil⟩)⟩)⟩)⟩) ?_
        exact zt_X15_side_J221 hX hr hR hd hf hk hrec h
      · rw [if_neg c213] at h
        refine zw_iconst (v := (2 : Int32)) hX dX15_side_216 (by decide) ?_
        refine zw_goto (tgt := 221) hX dX15_side_217 (by decide) ?_
        refine zw_sub (lv' := [(0, .ref a0), (1, .int i1), (4, .int i4), (5, .int i5)]) (List.forall_mem_cons.mpr ⟨rfl, (List.forall_mem_cons.mpr ⟨rfl, (List.forall_mem_cons.mpr ⟨rfl, (List.forall_mem_cons.mpr ⟨rfl, zs_nil⟩)⟩)⟩)⟩) ?_
        exact zt_X15_side_J221 hX hr hR hd hf hk hrec h
  · rw [if_neg c150] at h
    refine zw_aload_n hX dX15_side_153 rfl ?_
    refine zw_aload_n hX dX15_side_154 rfl ?_
    obtain ⟨v28, g, h⟩ := zb_some h
    refine zw_geti hX zl_X15_99 dX15_side_155 g ?_
    refine zw_iconst (v := (1 : Int32)) hX dX15_side_158 (by decide) ?_
    refine zw_icmp_ne (tgt := 166) hX dX15_side_159 (by decide) (fun c159 => ?_) (fun c159 => ?_)
    · rw [if_neg c159] at h
      refine zw_iconst (v := (1 : Int32)) hX dX15_side_166 (by decide) ?_
      refine zw_sub (lv' := [(0, .ref a0), (1, .int i1), (2, .int i2), (4, .int i4)]) (List.forall_mem_cons.mpr ⟨rfl, (List.forall_mem_cons.mpr ⟨rfl, (List.forall_mem_cons.mpr ⟨rfl, (List.forall_mem_cons.mpr ⟨rfl, zs_nil⟩)⟩)⟩)⟩) ?_
      exact zt_X15_side_J167 hX hr hR hd hf hk hrec h
    · rw [if_pos c159] at h
      refine zw_iconst (v := (0 : Int32)) hX dX15_side_162 (by decide) ?_
      refine zw_goto (tgt := 167) hX dX15_side_163 (by decide) ?_
      refine zw_sub (lv' := [(0, .ref a0), (1, .int i1), (2, .int i2), (4, .int i4)]) (List.forall_mem_cons.mpr ⟨rfl, (List.forall_mem_cons.mpr ⟨rfl, (List.forall_mem_cons.mpr ⟨rfl, (List.forall_mem_cons.mpr ⟨rfl, zs_nil⟩)⟩)⟩)⟩) ?_
      exact zt_X15_side_J167 hX hr hR hd hf hk hrec h
def zf_X15_side_J113 (N : Nat) (k : Nat → Int32 → Int32 → Int32 → Int32 → zm_S → Option ((Unit × zm_S) ⊕ ((Unit) × zm_S))) (a0 : Nat) (i1 : Int32) (i3 : Int32) (i4 : Int32) (t0 : Nat) (t1 : Int32) (S : zm_S) : Option ((Unit × zm_S) ⊕ ((Unit) × zm_S)) := (zp_z S t0 15 31 t1).bind (fun S42 => (zg_r S42 a0 15 35).bind (fun b43 => (zg_i S42 a0 15 36).bind (fun v44 => (zs_i S42 b43 v44 (1 : Int32)).bind (fun S45 => (zg_i S45 a0 15 36).bind (fun v46 => (zp S45 a0 15 36 (.int (v46 + (1 : Int32)))).bind (fun S47 => (zi S47 a0 15).bind (fun _ => (zf_X15_take N a0 (1 : Int32) S47).bind (fun r50 => k a0 (i1 + (1 : Int32)) (1 : Int32) i3 i4 r50.2))))))))
set_option maxHeartbeats 4000000 in
set_option maxRecDepth 100000 in
theorem zt_X15_side_J113 {p : Program} {l : Launch} {e : Env} {R : Room} {s : State} {m : MethodId} {args : Array Value} {below : List Frame} {meth : Method} {c : Code} {V : zm_V} {mc ms d rc rs : Nat} (hX : zm_X p R s m args meth c RX15 "side" cX15_side 6 zk_E V mc ms) (hr : meth.sig.returnType = none) (hR : R.frames = d ∧ R.locals = 64 * d) (hd : 4 ≤ d) {N : Nat} {k : Nat → Int32 → Int32 → Int32 → Int32 → zm_S → Option ((Unit × zm_S) ⊕ ((Unit) × zm_S))} {a0 : Nat} {i1 : Int32} {i3 : Int32} {i4 : Int32} {t0 : Nat} {t1 : Int32} {res : (Unit × zm_S) ⊕ ((Unit) × zm_S)} {out : (Unit × zm_S)}   (hf : ∀ o, res = .inl o → o = out) (hk : ∀ (S' : zm_S), res = .inr ((), S') → zw p l e R s m args below meth c (vx_MQ below (zm_Qc zk_E V (zo_v out)) (zm_XC zk_E V zo_x) args s mc ms (fun q => V.2.2.2.1 ≤ q)) 6 zk_E V mc ms 315 [(0, .ref a0)] [] S' rc rs) (hrec : ∀ (i1' : Int32) (i2' : Int32) (i3' : Int32) (i4' : Int32) (S : zm_S), k a0 i1' i2' i3' i4' S = some res → zw p l e R s m args below meth c (vx_MQ below (zm_Qc zk_E V (zo_v out)) (zm_XC zk_E V zo_x) args s mc ms (fun q => V.2.2.2.1 ≤ q)) 6 zk_E V mc ms 14 [(0, .ref a0), (1, .int i1'), (2, .int i2'), (3, .int i3'), (4, .int i4')] [] S rc rs) {S : zm_S} (h : zf_X15_side_J113 N k a0 i1 i3 i4 t0 t1 S = some res) : zw p l e R s m args below meth c (vx_MQ below (zm_Qc zk_E V (zo_v out)) (zm_XC zk_E V zo_x) args s mc ms (fun q => V.2.2.2.1 ≤ q)) 6 zk_E V mc ms 113 [(0, .ref a0), (1, .int i1), (3, .int i3), (4, .int i4)] [.int t1, .ref t0] S rc rs := by
  unfold zf_X15_side_J113 at h
  obtain ⟨S42, g, h⟩ := zb_some h
  obtain ⟨gz, g⟩ := zp_z_spec g
  refine zw_putv hX zl_X15_121 zt_15_31 dX15_side_113 (zn_z gz) (zf_z gz) g ?_
  refine zw_iinc (v := (i1 + (1 : Int32))) hX dX15_side_116 rfl rfl (by decide) ?_
  refine zw_aload_n hX dX15_side_119 rfl ?_
  obtain ⟨b43, g, h⟩ := zb_some h
  refine zw_getr hX zl_X15_75 dX15_side_120 g ?_
  refine zw_aload_n hX dX15_side_123 rfl ?_
  obtain ⟨v44, g, h⟩ := zb_some h
  refine zw_geti hX zl_X15_137 dX15_side_124 g ?_
  refine zw_iconst (v := (1 : Int32)) hX dX15_side_127 (by decide) ?_
  obtain ⟨S45, g, h⟩ := zb_some h
  refine zw_si hX dX15_side_128 g ?_
  refine zw_aload_n hX dX15_side_129 rfl ?_
  refine zw_dup hX dX15_side_130 rfl ?_
  obtain ⟨v46, g, h⟩ := zb_some h
  refine zw_geti hX zl_X15_137 dX15_side_131 g ?_
  refine zw_iconst (v := (1 : Int32)) hX dX15_side_134 (by decide) ?_
  refine zw_iadd hX dX15_side_135 ?_
  obtain ⟨S47, g, h⟩ := zb_some h
  refine zw_putv hX zl_X15_137 zt_15_36 dX15_side_136 rfl rfl g ?_
  refine zw_iconst (v := (1 : Int32)) hX dX15_side_139 (by decide) ?_
  refine zw_istore_n hX dX15_side_140 (by decide) ?_
  refine zw_aload_n hX dX15_side_141 rfl ?_
  refine zw_iconst (v := (1 : Int32)) hX dX15_side_142 (by decide) ?_
  obtain ⟨_, gi, h⟩ := zb_some h
  obtain ⟨r50, g, h⟩ := zb_some h
  refine zc_Vv (as := [.int (1 : Int32)]) hX gi (zt_X15_take (d := d - 1) (by omega) g) zl_X15_147 rfl dX15_side_143 ⟨rfl, rfl, Nat.le_of_ble_eq_true rfl⟩ ⟨by omega, by omega⟩ ?_
  refine zw_goto (tgt := 312) hX dX15_side_146 (by decide) ?_
  refine zw_goto (tgt := 14) hX dX15_side_312 (by decide) ?_
  refine zw_sub (lv' := [(0, .ref a0), (1, .int (i1 + (1 : Int32))), (2, .int (1 : Int32)), (3, .int i3), (4, .int i4)]) (List.forall_mem_cons.mpr ⟨rfl, (List.forall_mem_cons.mpr ⟨rfl, (List.forall_mem_cons.mpr ⟨rfl, (List.forall_mem_cons.mpr ⟨rfl, (List.forall_mem_cons.mpr ⟨rfl, zs_nil⟩)⟩)⟩)⟩)⟩) ?_
  exact hrec _ _ _ _ _ h
def zf_X15_side_J88 (N : Nat) (k : Nat → Int32 → Int32 → Int32 → Int32 → zm_S → Option ((Unit × zm_S) ⊕ ((Unit) × zm_S))) (a0 : Nat) (i1 : Int32) (i2 : Int32) (i3 : Int32) (i4 : Int32) (i5 : Int32) (S : zm_S) : Option ((Unit × zm_S) ⊕ ((Unit) × zm_S)) := if i3 = 0 then zf_X15_side_J149 N (k) a0 i1 i2 i3 i4 i5 S else (zg_i S a0 15 28).bind (fun v41 => if v41 = (40 : Int32) then if i1 = (8 : Int32) then zf_X15_side_J113 N (k) a0 i1 i3 i4 a0 (1 : Int32) S else zf_X15_side_J113 N (k) a0 i1 i3 i4 a0 (0 : Int32) S else zf_X15_side_J149 N (k) a0 i1 i2 i3 i4 i5 S)
set_option maxHeartbeats 4000000 in
set_option maxRecDepth 100000 in
theorem zt_X15_side_J88 {p : Program} {l : Launch} {e : Env} {R : Room} {s : State} {m : MethodId} {args : Array Value} {below : List Frame} {meth : Method} {c : Code} {V : zm_V} {mc ms d rc rs : Nat} (hX : zm_X p R s m args meth c RX15 "side" cX15_side 6 zk_E V mc ms) (hr : meth.sig.returnType = none) (hR : R.frames = d ∧ R.locals = 64 * d) (hd : 4 ≤ d) {N : Nat} {k : Nat → Int32 → Int32 → Int32 → Int32 → zm_S → Option ((Unit × zm_S) ⊕ ((Unit) × zm_S))} {a0 : Nat} {i1 : Int32} {i2 : Int32} {i3 : Int32} {i4 : Int32} {i5 : Int32} {res : (Unit × zm_S) ⊕ ((Unit) × zm_S)} {out : (Unit × zm_S)}   (hf : ∀ o, res = .inl o → o = out) (hk : ∀ (S' : zm_S), res = .inr ((), S') → zw p l e R s m args below meth c (vx_MQ below (zm_Qc zk_E V (zo_v out)) (zm_XC zk_E V zo_x) args s mc ms (fun q => V.2.2.2.1 ≤ q)) 6 zk_E V mc ms 315 [(0, .ref a0)] [] S' rc rs) (hrec : ∀ (i1' : Int32) (i2' : Int32) (i3' : Int32) (i4' : Int32) (S : zm_S), k a0 i1' i2' i3' i4' S = some res → zw p l e R s m args below meth c (vx_MQ below (zm_Qc zk_E V (zo_v out)) (zm_XC zk_E V zo_x) args s mc ms (fun q => V.2.2.2.1 ≤ q)) 6 zk_E V mc ms 14 [(0, .ref a0), (1, .int i1'), (2, .int i2'), (3, .int i3'), (4, .int i4')] [] S rc rs) {S : zm_S} (h : zf_X15_side_J88 N k a0 i1 i2 i3 i4 i5 S = some res) : zw p l e R s m args below meth c (vx_MQ below (zm_Qc zk_E V (zo_v out)) (zm_XC zk_E V zo_x) args s mc ms (fun q => V.2.2.2.1 ≤ q)) 6 zk_E V mc ms 88 [(0, .ref a0), (1, .int i1), (2, .int i2), (3, .int i3), (4, .int i4), (5, .int i5)] [] S rc rs := by
  unfold zf_X15_side_J88 at h
  refine zw_iload_n hX dX15_side_88 rfl ?_
  refine zw_if_eq (tgt := 149) hX dX15_side_89 (by decide) (fun c89 => ?_) (fun c89 => ?_)
  · rw [if_pos c89] at h
    refine zw_sub (lv' := [(0, .ref a0), (1, .int i1), (2, .int i2), (3, .int i3), (4, .int i4), (5, .int i5)]) (List.forall_mem_cons.mpr ⟨rfl, (List.forall_mem_cons.mpr ⟨rfl, (List.forall_mem_cons.mpr ⟨rfl, (List.forall_mem_cons.mpr ⟨rfl, (List.forall_mem_cons.mpr ⟨rfl, (List.forall_mem_cons.mpr ⟨rfl, zs_nil⟩)⟩)⟩)⟩)⟩)⟩) ?_
    exact zt_X15_side_J149 hX hr hR hd hf hk hrec h
  · rw [if_neg c89] at h
    refine zw_aload_n hX dX15_side_92 rfl ?_
    obtain ⟨v41, g, h⟩ := zb_some h
    refine zw_geti hX zl_X15_99 dX15_side_93 g ?_
    refine zw_bipush (v := (40 : Int32)) hX dX15_side_96 (by decide) ?_
    refine zw_icmp_ne (tgt := 149) hX dX15_side_98 (by decide) (fun c98 => ?_) (fun c98 => ?_)
    · rw [if_neg c98] at h
      refine zw_sub (lv' := [(0, .ref a0), (1, .int i1), (2, .int i2), (3, .int i3), (4, .int i4), (5, .int i5)]) (List.forall_mem_cons.mpr ⟨rfl, (List.forall_mem_cons.mpr ⟨rfl, (List.forall_mem_cons.mpr ⟨rfl, (List.forall_mem_cons.mpr ⟨rfl, (List.forall_mem_cons.mpr ⟨rfl, (List.forall_mem_cons.mpr ⟨rfl, zs_nil⟩)⟩)⟩)⟩)⟩)⟩) ?_
      exact zt_X15_side_J149 hX hr hR hd hf hk hrec h
    · rw [if_pos c98] at h
      refine zw_aload_n hX dX15_side_101 rfl ?_
      refine zw_iload_n hX dX15_side_102 rfl ?_
      refine zw_bipush (v := (8 : Int32)) hX dX15_side_103 (by decide) ?_
      refine zw_icmp_ne (tgt := 112) hX dX15_side_105 (by decide) (fun c105 => ?_) (fun c105 => ?_)
      · rw [if_neg c105] at h
        refine zw_iconst (v := (0 : Int32)) hX dX15_side_112 (by decide) ?_
        refine zw_sub (lv' := [(0, .ref a0), (1, .int i1), (3, .int i3), (4, .int i4)]) (List.forall_mem_cons.mpr ⟨rfl, (List.forall_mem_cons.mpr ⟨rfl, (List.forall_mem_cons.mpr ⟨rfl, (List.forall_mem_cons.mpr ⟨rfl, zs_nil⟩)⟩)⟩)⟩) ?_
        exact zt_X15_side_J113 hX hr hR hd hf hk hrec h
      · rw [if_pos c105] at h
        refine zw_iconst (v := (1 : Int32)) hX dX15_side_108 (by decide) ?_
        refine zw_goto (tgt := 113) hX dX15_side_109 (by decide) ?_
        refine zw_sub (lv' := [(0, .ref a0), (1, .int i1), (3, .int i3), (4, .int i4)]) (List.forall_mem_cons.mpr ⟨rfl, (List.forall_mem_cons.mpr ⟨rfl, (List.forall_mem_cons.mpr ⟨rfl, (List.forall_mem_cons.mpr ⟨rfl, zs_nil⟩)⟩)⟩)⟩) ?_
        exact zt_X15_side_J113 hX hr hR hd hf hk hrec h
def zf_X15_side_L14 (N : Nat) : Nat → Nat → Int32 → Int32 → Int32 → Int32 → zm_S → Option ((Unit × zm_S) ⊕ ((Unit) × zm_S))
  | 0, _, _, _, _, _, _ => none
  | n + 1, a0, i1, i2, i3, i4, S => if i4 = 0 then some (.inr ((), S)) else (zg_i S a0 15 31).bind (fun v2 => if v2 = 0 then (zg_i S a0 15 28).bind (fun v3 => (zf_X15_operation N v3 S).bind (fun r6 => if i3 = 0 then zf_X15_side_J88 N (zf_X15_side_L14 N n) a0 i1 i2 i3 i4 r6.1 r6.2 else if i2 = 0 then zf_X15_side_J88 N (zf_X15_side_L14 N n) a0 i1 i2 i3 i4 r6.1 r6.2 else (zg_i r6.2 a0 15 28).bind (fun v51 => if v51 = (45 : Int32) then (zi r6.2 a0 15).bind (fun _ => (zf_X15_emit N a0 (0 : Int32) (0 : Int64) r6.2).bind (fun r54 => (zg_r r54.2 a0 15 35).bind (fun b55 => (zg_i r54.2 a0 15 36).bind (fun v56 => (zs_i r54.2 b55 v56 (3 : Int32)).bind (fun S57 => (zg_i S57 a0 15 36).bind (fun v58 => (zp S57 a0 15 36 (.int (v58 + (1 : Int32)))).bind (fun S59 => (zi S59 a0 15).bind (fun _ => (zf_X15_take N a0 (1 : Int32) S59).bind (fun r62 => zf_X15_side_L14 N n a0 i1 (0 : Int32) i3 i4 r62.2))))))))) else zf_X15_side_J88 N (zf_X15_side_L14 N n) a0 i1 i2 i3 i4 r6.1 r6.2))) else some (.inr ((), S)))
set_option maxHeartbeats 4000000 in
set_option maxRecDepth 100000 in
theorem zt_X15_side_L14 {p : Program} {l : Launch} {e : Env} {R : Room} {s : State} {m : MethodId} {args : Array Value} {below : List Frame} {meth : Method} {c : Code} {V : zm_V} {mc ms d rc rs : Nat} (hX : zm_X p R s m args meth c RX15 "side" cX15_side 6 zk_E V mc ms) (hr : meth.sig.returnType = none) (hR : R.frames = d ∧ R.locals = 64 * d) (hd : 4 ≤ d) {N : Nat} {res : (Unit × zm_S) ⊕ ((Unit) × zm_S)} {out : (Unit × zm_S)} (a0 : Nat) (hf : ∀ o, res = .inl o → o = out) (hk : ∀ (S' : zm_S), res = .inr ((), S') → zw p l e R s m args below meth c (vx_MQ below (zm_Qc zk_E V (zo_v out)) (zm_XC zk_E V zo_x) args s mc ms (fun q => V.2.2.2.1 ≤ q)) 6 zk_E V mc ms 315 [(0, .ref a0)] [] S' rc rs) : ∀ (n : Nat) (i1 : Int32) (i2 : Int32) (i3 : Int32) (i4 : Int32) (S : zm_S), zf_X15_side_L14 N n a0 i1 i2 i3 i4 S = some res → zw p l e R s m args below meth c (vx_MQ below (zm_Qc zk_E V (zo_v out)) (zm_XC zk_E V zo_x) args s mc ms (fun q => V.2.2.2.1 ≤ q)) 6 zk_E V mc ms 14 [(0, .ref a0), (1, .int i1), (2, .int i2), (3, .int i3), (4, .int i4)] [] S rc rs := by
  intro n
  induction n with
  | zero => intro i1 i2 i3 i4 S h; cases h
  | succ n ih =>
    intro i1 i2 i3 i4 S h
    rw [zf_X15_side_L14] at h
    refine zw_iload hX dX15_side_14 rfl ?_
    refine zw_if_eq (tgt := 315) hX dX15_side_16 (by decide) (fun c16 => ?_) (fun c16 => ?_)
    · rw [if_pos c16] at h
      refine zw_sub (lv' := [(0, .ref a0)]) (List.forall_mem_cons.mpr ⟨rfl, zs_nil⟩) ?_
      exact hk  _ (Option.some.inj h).symm
    · rw [if_neg c16] at h
      refine zw_aload_n hX dX15_side_19 rfl ?_
      obtain ⟨v2, g, h⟩ := zb_some h
      refine zw_geti hX zl_X15_121 dX15_side_20 g ?_
      refine zw_if_ne (tgt := 315) hX dX15_side_23 (by decide) (fun c23 => ?_) (fun c23 => ?_)
      · rw [if_neg c23] at h
        refine zw_sub (lv' := [(0, .ref a0)]) (List.forall_mem_cons.mpr ⟨rfl, zs_nil⟩) ?_
        exact hk  _ (Option.some.inj h).symm
      · rw [if_pos c23] at h
        refine zw_aload_n hX dX15_side_26 rfl ?_
        obtain ⟨v3, g, h⟩ := zb_some h
        refine zw_geti hX zl_X15_99 dX15_side_27 g ?_
        obtain ⟨r6, g, h⟩ := zb_some h
        refine zc_Si (as := [.int v3]) hX (zt_X15_operation (d := d - 1) (by omega) g) zl_X15_144 dX15_side_30 ⟨rfl, rfl, Nat.le_of_ble_eq_true rfl⟩ ⟨by omega, by omega⟩ ?_
        refine zw_istore hX dX15_side_33 (by decide) ?_
        refine zw_iload_n hX dX15_side_35 rfl ?_
        refine zw_if_eq (tgt := 88) hX dX15_side_36 (by decide) (fun c36 => ?_) (fun c36 => ?_)
        · rw [if_pos c36] at h
          refine zw_sub (lv' := [(0, .ref a0), (1, .int i1), (2, .int i2), (3, .int i3), (4, .int i4), (5, .int r6.1)]) (List.forall_mem_cons.mpr ⟨rfl, (List.forall_mem_cons.mpr ⟨rfl, (List.forall_mem_cons.mpr ⟨rfl, (List.forall_mem_cons.mpr ⟨rfl, (List.forall_mem_cons.mpr ⟨rfl, (List.forall_mem_cons.mpr ⟨rfl, zs_nil⟩)⟩)⟩)⟩)⟩)⟩) ?_
          exact zt_X15_side_J88 hX hr hR hd hf hk ih h
        · rw [if_neg c36] at h
          refine zw_iload_n hX dX15_side_39 rfl ?_
          refine zw_if_eq (tgt := 88) hX dX15_side_40 (by decide) (fun c40 => ?_) (fun c40 => ?_)
          · rw [if_pos c40] at h
            refine zw_sub (lv' := [(0, .ref a0), (1, .int i1), (2, .int i2), (3, .int i3), (4, .int i4), (5, .int r6.1)]) (List.forall_mem_cons.mpr ⟨rfl, (List.forall_mem_cons.mpr ⟨rfl, (List.forall_mem_cons.mpr ⟨rfl, (List.forall_mem_cons.mpr ⟨rfl, (List.forall_mem_cons.mpr ⟨rfl, (List.forall_mem_cons.mpr ⟨rfl, zs_nil⟩)⟩)⟩)⟩)⟩)⟩) ?_
            exact zt_X15_side_J88 hX hr hR hd hf hk ih h
          · rw [if_neg c40] at h
            refine zw_aload_n hX dX15_side_43 rfl ?_
            obtain ⟨v51, g, h⟩ := zb_some h
            refine zw_geti hX zl_X15_99 dX15_side_44 g ?_
            refine zw_bipush (v := (45 : Int32)) hX dX15_side_47 (by decide) ?_
            refine zw_icmp_ne (tgt := 88) hX dX15_side_49 (by decide) (fun c49 => ?_) (fun c49 => ?_)
            · rw [if_neg c49] at h
              refine zw_sub (lv' := [(0, .ref a0), (1, .int i1), (2, .int i2), (3, .int i3), (4, .int i4), (5, .int r6.1)]) (List.forall_mem_cons.mpr ⟨rfl, (List.forall_mem_cons.mpr ⟨rfl, (List.forall_mem_cons.mpr ⟨rfl, (List.forall_mem_cons.mpr ⟨rfl, (List.forall_mem_cons.mpr ⟨rfl, (List.forall_mem_cons.mpr ⟨rfl, zs_nil⟩)⟩)⟩)⟩)⟩)⟩) ?_
              exact zt_X15_side_J88 hX hr hR hd hf hk ih h
            · rw [if_pos c49] at h
              refine zw_aload_n hX dX15_side_52 rfl ?_
              refine zw_iconst (v := (0 : Int32)) hX dX15_side_53 (by decide) ?_
              refine zw_lconst (v := (0 : Int64)) hX dX15_side_54 (by decide) ?_
              obtain ⟨_, gi, h⟩ := zb_some h
              obtain ⟨r54, g, h⟩ := zb_some h
              refine zc_Vv (as := [.int (0 : Int32), .long (0 : Int64)]) hX gi (zt_X15_emit (d := d - 1) (by omega) g) zl_X15_140 rfl dX15_side_55 ⟨rfl, rfl, Nat.le_of_ble_eq_true rfl⟩ ⟨by omega, by omega⟩ ?_
              refine zw_aload_n hX dX15_side_58 rfl ?_
              obtain ⟨b55, g, h⟩ := zb_some h
              refine zw_getr hX zl_X15_75 dX15_side_59 g ?_
              refine zw_aload_n hX dX15_side_62 rfl ?_
              obtain ⟨v56, g, h⟩ := zb_some h
              refine zw_geti hX zl_X15_137 dX15_side_63 g ?_
              refine zw_iconst (v := (3 : Int32)) hX dX15_side_66 (by decide) ?_
              obtain ⟨S57, g, h⟩ := zb_some h
              refine zw_si hX dX15_side_67 g ?_
              refine zw_aload_n hX dX15_side_68 rfl ?_
              refine zw_dup hX dX15_side_69 rfl ?_
              obtain ⟨v58, g, h⟩ := zb_some h
              refine zw_geti hX zl_X15_137 dX15_side_70 g ?_
              refine zw_iconst (v := (1 : Int32)) hX dX15_side_73 (by decide) ?_
              refine zw_iadd hX dX15_side_74 ?_
              obtain ⟨S59, g, h⟩ := zb_some h
              refine zw_putv hX zl_X15_137 zt_15_36 dX15_side_75 rfl rfl g ?_
              refine zw_iconst (v := (0 : Int32)) hX dX15_side_78 (by decide) ?_
              refine zw_istore_n hX dX15_side_79 (by decide) ?_
              refine zw_aload_n hX dX15_side_80 rfl ?_
              refine zw_iconst (v := (1 : Int32)) hX dX15_side_81 (by decide) ?_
              obtain ⟨_, gi, h⟩ := zb_some h
              obtain ⟨r62, g, h⟩ := zb_some h
              refine zc_Vv (as := [.int (1 : Int32)]) hX gi (zt_X15_take (d := d - 1) (by omega) g) zl_X15_147 rfl dX15_side_82 ⟨rfl, rfl, Nat.le_of_ble_eq_true rfl⟩ ⟨by omega, by omega⟩ ?_
              refine zw_goto (tgt := 312) hX dX15_side_85 (by decide) ?_
              refine zw_goto (tgt := 14) hX dX15_side_312 (by decide) ?_
              refine zw_sub (lv' := [(0, .ref a0), (1, .int i1), (2, .int (0 : Int32)), (3, .int i3), (4, .int i4)]) (List.forall_mem_cons.mpr ⟨rfl, (List.forall_mem_cons.mpr ⟨rfl, (List.forall_mem_cons.mpr ⟨rfl, (List.forall_mem_cons.mpr ⟨rfl, (List.forall_mem_cons.mpr ⟨rfl, zs_nil⟩)⟩)⟩)⟩)⟩) ?_
              exact ih _ _ _ _ _ h
def zf_X15_side_J315 (N : Nat) (a0 : Nat) (S : zm_S) : Option (Unit × zm_S) := (zi S a0 15).bind (fun _ => (zf_X15_unpile N a0 (1 : Int32) S).bind (fun r66 => some ((), r66.2)))
set_option maxHeartbeats 4000000 in
set_option maxRecDepth 100000 in
theorem zt_X15_side_J315 {p : Program} {l : Launch} {e : Env} {R : Room} {s : State} {m : MethodId} {args : Array Value} {below : List Frame} {meth : Method} {c : Code} {V : zm_V} {mc ms d rc rs : Nat} (hX : zm_X p R s m args meth c RX15 "side" cX15_side 6 zk_E V mc ms) (hr : meth.sig.returnType = none) (hR : R.frames = d ∧ R.locals = 64 * d) (hd : 4 ≤ d) {N : Nat} {a0 : Nat} {out : (Unit × zm_S)} {S : zm_S} (h : zf_X15_side_J315 N a0 S = some out) : zw p l e R s m args below meth c (vx_MQ below (zm_Qc zk_E V (zo_v out)) (zm_XC zk_E V zo_x) args s mc ms (fun q => V.2.2.2.1 ≤ q)) 6 zk_E V mc ms 315 [(0, .ref a0)] [] S rc rs := by
  unfold zf_X15_side_J315 at h
  refine zw_aload_n hX dX15_side_315 rfl ?_
  refine zw_iconst (v := (1 : Int32)) hX dX15_side_316 (by decide) ?_
  obtain ⟨_, gi, h⟩ := zb_some h
  obtain ⟨r66, g, h⟩ := zb_some h
  refine zc_Vv (as := [.int (1 : Int32)]) hX gi (zt_X15_unpile (d := d - 1) (by omega) g) zl_X15_151 rfl dX15_side_317 ⟨rfl, rfl, Nat.le_of_ble_eq_true rfl⟩ ⟨by omega, by omega⟩ ?_
  obtain rfl := Option.some.inj h
  exact zw_vret hX hr dX15_side_320 ⟨rfl, rfl⟩
def zf_X15_side (N : Nat) (a0 : Nat) (S : zm_S) : Option (Unit × zm_S) := (zp S a0 15 36 (.int (0 : Int32))).bind (fun S1 => (zf_X15_side_L14 N N a0 (0 : Int32) (1 : Int32) (1 : Int32) (1 : Int32) S1).bind (fun r => match r with | .inl o => some o | .inr (_, S63) => zf_X15_side_J315 N a0 S63))
set_option maxHeartbeats 4000000 in
set_option maxRecDepth 100000 in
theorem zt_X15_side {l : Launch} {V : zm_V} {N : Nat} {S : zm_S} {out : (Unit × zm_S)} {d : Nat} {a0 : Nat} (hd : 4 ≤ d) (h : zf_X15_side N a0 S = some out) : zm_Met l zk_E V yX15_side (.code yX15_side cX15_side 6 none) d [.ref a0] S 0 0 (zo_v out) zo_x := by
  refine zm_of (by decide +kernel) (Nat.le_of_ble_eq_true rfl) ?_
  intro p e R s m args below meth c hRR hX hr hxt
  have hR : R.frames = d ∧ R.locals = 64 * d := by rw [hRR]; exact ⟨rfl, rfl⟩
  have hX : zm_X p R s m args meth c RX15 "side" cX15_side 6 zk_E V 0 0 := hX
  unfold zf_X15_side at h
  refine zw_sub (lv' := [(0, .ref a0)]) (List.forall_mem_cons.mpr ⟨rfl, zs_nil⟩) ?_
  refine zw_iconst (v := (0 : Int32)) hX dX15_side_0 (by decide) ?_
  refine zw_istore_n hX dX15_side_1 (by decide) ?_
  refine zw_iconst (v := (1 : Int32)) hX dX15_side_2 (by decide) ?_
  refine zw_istore_n hX dX15_side_3 (by decide) ?_
  refine zw_iconst (v := (1 : Int32)) hX dX15_side_4 (by decide) ?_
  refine zw_istore_n hX dX15_side_5 (by decide) ?_
  refine zw_iconst (v := (1 : Int32)) hX dX15_side_6 (by decide) ?_
  refine zw_istore hX dX15_side_7 (by decide) ?_
  refine zw_aload_n hX dX15_side_9 rfl ?_
  refine zw_iconst (v := (0 : Int32)) hX dX15_side_10 (by decide) ?_
  obtain ⟨S1, g, h⟩ := zb_some h
  refine zw_putv hX zl_X15_137 zt_15_36 dX15_side_11 rfl rfl g ?_
  obtain ⟨r, g, h⟩ := zb_some h
  refine zw_sub (lv' := [(0, .ref a0), (1, .int (0 : Int32)), (2, .int (1 : Int32)), (3, .int (1 : Int32)), (4, .int (1 : Int32))]) (List.forall_mem_cons.mpr ⟨rfl, (List.forall_mem_cons.mpr ⟨rfl, (List.forall_mem_cons.mpr ⟨rfl, (List.forall_mem_cons.mpr ⟨rfl, (List.forall_mem_cons.mpr ⟨rfl, zs_nil⟩)⟩)⟩)⟩)⟩) ?_
  refine zt_X15_side_L14 hX hr hR hd (res := r) (out := out) a0 ?_ ?_ N _ _ _ _ _ g
  · intro o ho
    subst ho
    exact Option.some.inj h
  · intro  S63 hx
    subst hx
    try dsimp only at h
    refine zw_sub (lv' := [(0, .ref a0)]) (List.forall_mem_cons.mpr ⟨rfl, zs_nil⟩) ?_
    exact zt_X15_side_J315 hX hr hR hd h
def zf_X15_relation (N : Nat) (i0 : Int32) (S : zm_S) : Option (Int32 × zm_S) := if i0 = (60 : Int32) then some ((0 : Int32), S) else if i0 = (316 : Int32) then some ((1 : Int32), S) else if i0 = (61 : Int32) then some ((2 : Int32), S) else if i0 = (318 : Int32) then some ((3 : Int32), S) else if i0 = (62 : Int32) then some ((4 : Int32), S) else some ((-1 : Int32), S)
set_option maxHeartbeats 4000000 in
set_option maxRecDepth 100000 in
theorem zt_X15_relation {l : Launch} {V : zm_V} {N : Nat} {S : zm_S} {out : (Int32 × zm_S)} {d : Nat} {i0 : Int32} (hd : 1 ≤ d) (h : zf_X15_relation N i0 S = some out) : zm_Met l zk_E V yX15_relation (.code yX15_relation cX15_relation 1 (some .int)) d [.int i0] S 0 0 (zo_i out) zo_x := by
  refine zm_of (by decide +kernel) (Nat.le_of_ble_eq_true rfl) ?_
  intro p e R s m args below meth c hRR hX hr hxt
  have hR : R.frames = d ∧ R.locals = 64 * d := by rw [hRR]; exact ⟨rfl, rfl⟩
  have hX : zm_X p R s m args meth c RX15 "relation" cX15_relation 1 zk_E V 0 0 := hX
  unfold zf_X15_relation at h
  refine zw_sub (lv' := [(0, .int i0)]) (List.forall_mem_cons.mpr ⟨rfl, zs_nil⟩) ?_
  refine zw_iload_n hX dX15_relation_0 rfl ?_
  refine zw_bipush (v := (60 : Int32)) hX dX15_relation_1 (by decide) ?_
  refine zw_icmp_ne (tgt := 10) hX dX15_relation_3 (by decide) (fun c3 => ?_) (fun c3 => ?_)
  · rw [if_neg c3] at h
    refine zw_iload_n hX dX15_relation_10 rfl ?_
    refine zw_sipush (v := (316 : Int32)) hX dX15_relation_11 (by decide) ?_
    refine zw_icmp_ne (tgt := 21) hX dX15_relation_14 (by decide) (fun c14 => ?_) (fun c14 => ?_)
    · rw [if_neg c14] at h
      refine zw_iload_n hX dX15_relation_21 rfl ?_
      refine zw_bipush (v := (61 : Int32)) hX dX15_relation_22 (by decide) ?_
      refine zw_icmp_ne (tgt := 31) hX dX15_relation_24 (by decide) (fun c24 => ?_) (fun c24 => ?_)
      · rw [if_neg c24] at h
        refine zw_iload_n hX dX15_relation_31 rfl ?_
        refine zw_sipush (v := (318 : Int32)) hX dX15_relation_32 (by decide) ?_
        refine zw_icmp_ne (tgt := 42) hX dX15_relation_35 (by decide) (fun c35 => ?_) (fun c35 => ?_)
        · rw [if_neg c35] at h
          refine zw_iload_n hX dX15_relation_42 rfl ?_
          refine zw_bipush (v := (62 : Int32)) hX dX15_relation_43 (by decide) ?_
          refine zw_icmp_ne (tgt := 52) hX dX15_relation_45 (by decide) (fun c45 => ?_) (fun c45 => ?_)
          · rw [if_neg c45] at h
            refine zw_iconst (v := (-1 : Int32)) hX dX15_relation_52 (by decide) ?_
            obtain rfl := Option.some.inj h
            exact zw_iret hX hr dX15_relation_53 rfl ⟨rfl, rfl⟩
          · rw [if_pos c45] at h
            refine zw_iconst (v := (4 : Int32)) hX dX15_relation_48 (by decide) ?_
            refine zw_goto (tgt := 53) hX dX15_relation_49 (by decide) ?_
            obtain rfl := Option.some.inj h
            exact zw_iret hX hr dX15_relation_53 rfl ⟨rfl, rfl⟩
        · rw [if_pos c35] at h
          refine zw_iconst (v := (3 : Int32)) hX dX15_relation_38 (by decide) ?_
          refine zw_goto (tgt := 53) hX dX15_relation_39 (by decide) ?_
          obtain rfl := Option.some.inj h
          exact zw_iret hX hr dX15_relation_53 rfl ⟨rfl, rfl⟩
      · rw [if_pos c24] at h
        refine zw_iconst (v := (2 : Int32)) hX dX15_relation_27 (by decide) ?_
        refine zw_goto (tgt := 53) hX dX15_relation_28 (by decide) ?_
        obtain rfl := Option.some.inj h
        exact zw_iret hX hr dX15_relation_53 rfl ⟨rfl, rfl⟩
    · rw [if_pos c14] at h
      refine zw_iconst (v := (1 : Int32)) hX dX15_relation_17 (by decide) ?_
      refine zw_goto (tgt := 53) hX dX15_relation_18 (by decide) ?_
      obtain rfl := Option.some.inj h
      exact zw_iret hX hr dX15_relation_53 rfl ⟨rfl, rfl⟩
  · rw [if_pos c3] at h
    refine zw_iconst (v := (0 : Int32)) hX dX15_relation_6 (by decide) ?_
    refine zw_goto (tgt := 53) hX dX15_relation_7 (by decide) ?_
    obtain rfl := Option.some.inj h
    exact zw_iret hX hr dX15_relation_53 rfl ⟨rfl, rfl⟩
def zf_X15_clause_J92 (N : Nat) (a0 : Nat) (i1 : Int32) (S : zm_S) : Option (Unit × zm_S) := (zg_r S a0 15 13).bind (fun b24 => (zg_i S a0 15 34).bind (fun v25 => (zs_i S b24 i1 v25).bind (fun S26 => some ((), S26))))
set_option maxHeartbeats 4000000 in
set_option maxRecDepth 100000 in
theorem zt_X15_clause_J92 {p : Program} {l : Launch} {e : Env} {R : Room} {s : State} {m : MethodId} {args : Array Value} {below : List Frame} {meth : Method} {c : Code} {V : zm_V} {mc ms d rc rs : Nat} (hX : zm_X p R s m args meth c RX15 "clause" cX15_clause 2 zk_E V mc ms) (hr : meth.sig.returnType = none) (hR : R.frames = d ∧ R.locals = 64 * d) (hd : 5 ≤ d) {N : Nat} {a0 : Nat} {i1 : Int32} {out : (Unit × zm_S)} {S : zm_S} (h : zf_X15_clause_J92 N a0 i1 S = some out) : zw p l e R s m args below meth c (vx_MQ below (zm_Qc zk_E V (zo_v out)) (zm_XC zk_E V zo_x) args s mc ms (fun q => V.2.2.2.1 ≤ q)) 2 zk_E V mc ms 92 [(0, .ref a0), (1, .int i1)] [] S rc rs := by
  unfold zf_X15_clause_J92 at h
  refine zw_aload_n hX dX15_clause_92 rfl ?_
  obtain ⟨b24, g, h⟩ := zb_some h
  refine zw_getr hX zl_X15_38 dX15_clause_93 g ?_
  refine zw_iload_n hX dX15_clause_96 rfl ?_
  refine zw_aload_n hX dX15_clause_97 rfl ?_
  obtain ⟨v25, g, h⟩ := zb_some h
  refine zw_geti hX zl_X15_134 dX15_clause_98 g ?_
  obtain ⟨S26, g, h⟩ := zb_some h
  refine zw_si hX dX15_clause_101 g ?_
  obtain rfl := Option.some.inj h
  exact zw_vret hX hr dX15_clause_102 ⟨rfl, rfl⟩
def zf_X15_clause_J78 (N : Nat) (a0 : Nat) (i1 : Int32) (t0 : Nat) (t1 : Int32) (S : zm_S) : Option (Unit × zm_S) := (zi S t0 15).bind (fun _ => (zf_X15_take N t0 t1 S).bind (fun r22 => (zg_i r22.2 a0 15 31).bind (fun v23 => if v23 = 0 then (zi r22.2 a0 15).bind (fun _ => (zf_X15_side N a0 r22.2).bind (fun r29 => zf_X15_clause_J92 N a0 i1 r29.2)) else zf_X15_clause_J92 N a0 i1 r22.2)))
set_option maxHeartbeats 4000000 in
set_option maxRecDepth 100000 in
theorem zt_X15_clause_J78 {p : Program} {l : Launch} {e : Env} {R : Room} {s : State} {m : MethodId} {args : Array Value} {below : List Frame} {meth : Method} {c : Code} {V : zm_V} {mc ms d rc rs : Nat} (hX : zm_X p R s m args meth c RX15 "clause" cX15_clause 2 zk_E V mc ms) (hr : meth.sig.returnType = none) (hR : R.frames = d ∧ R.locals = 64 * d) (hd : 5 ≤ d) {N : Nat} {a0 : Nat} {i1 : Int32} {t0 : Nat} {t1 : Int32} {out : (Unit × zm_S)} {S : zm_S} (h : zf_X15_clause_J78 N a0 i1 t0 t1 S = some out) : zw p l e R s m args below meth c (vx_MQ below (zm_Qc zk_E V (zo_v out)) (zm_XC zk_E V zo_x) args s mc ms (fun q => V.2.2.2.1 ≤ q)) 2 zk_E V mc ms 78 [(0, .ref a0), (1, .int i1)] [.int t1, .ref t0] S rc rs := by
  unfold zf_X15_clause_J78 at h
  obtain ⟨_, gi, h⟩ := zb_some h
  obtain ⟨r22, g, h⟩ := zb_some h
  refine zc_Vv (as := [.int t1]) hX gi (zt_X15_take (d := d - 1) (by omega) g) zl_X15_147 rfl dX15_clause_78 ⟨rfl, rfl, Nat.le_of_ble_eq_true rfl⟩ ⟨by omega, by omega⟩ ?_
  refine zw_aload_n hX dX15_clause_81 rfl ?_
  obtain ⟨v23, g, h⟩ := zb_some h
  refine zw_geti hX zl_X15_121 dX15_clause_82 g ?_
  refine zw_if_ne (tgt := 92) hX dX15_clause_85 (by decide) (fun c85 => ?_) (fun c85 => ?_)
  · rw [if_neg c85] at h
    refine zw_sub (lv' := [(0, .ref a0), (1, .int i1)]) (List.forall_mem_cons.mpr ⟨rfl, (List.forall_mem_cons.mpr ⟨rfl, zs_nil⟩)⟩) ?_
    exact zt_X15_clause_J92 hX hr hR hd h
  · rw [if_pos c85] at h
    refine zw_aload_n hX dX15_clause_88 rfl ?_
    obtain ⟨_, gi, h⟩ := zb_some h
    obtain ⟨r29, g, h⟩ := zb_some h
    refine zc_Vv (as := []) hX gi (zt_X15_side (d := d - 1) (by omega) g) zl_X15_158 rfl dX15_clause_89 ⟨rfl, rfl, Nat.le_of_ble_eq_true rfl⟩ ⟨by omega, by omega⟩ ?_
    refine zw_sub (lv' := [(0, .ref a0), (1, .int i1)]) (List.forall_mem_cons.mpr ⟨rfl, (List.forall_mem_cons.mpr ⟨rfl, zs_nil⟩)⟩) ?_
    exact zt_X15_clause_J92 hX hr hR hd h
def zf_X15_clause_J77 (N : Nat) (a0 : Nat) (i1 : Int32) (t0 : Nat) (S : zm_S) : Option (Unit × zm_S) := zf_X15_clause_J78 N a0 i1 t0 (0 : Int32) S
set_option maxHeartbeats 4000000 in
set_option maxRecDepth 100000 in
theorem zt_X15_clause_J77 {p : Program} {l : Launch} {e : Env} {R : Room} {s : State} {m : MethodId} {args : Array Value} {below : List Frame} {meth : Method} {c : Code} {V : zm_V} {mc ms d rc rs : Nat} (hX : zm_X p R s m args meth c RX15 "clause" cX15_clause 2 zk_E V mc ms) (hr : meth.sig.returnType = none) (hR : R.frames = d ∧ R.locals = 64 * d) (hd : 5 ≤ d) {N : Nat} {a0 : Nat} {i1 : Int32} {t0 : Nat} {out : (Unit × zm_S)} {S : zm_S} (h : zf_X15_clause_J77 N a0 i1 t0 S = some out) : zw p l e R s m args below meth c (vx_MQ below (zm_Qc zk_E V (zo_v out)) (zm_XC zk_E V zo_x) args s mc ms (fun q => V.2.2.2.1 ≤ q)) 2 zk_E V mc ms 77 [(0, .ref a0), (1, .int i1)] [.ref t0] S rc rs := by
  unfold zf_X15_clause_J77 at h
  refine zw_iconst (v := (0 : Int32)) hX dX15_clause_77 (by decide) ?_
  refine zw_sub (lv' := [(0, .ref a0), (1, .int i1)]) (List.forall_mem_cons.mpr ⟨rfl, (List.forall_mem_cons.mpr ⟨rfl, zs_nil⟩)⟩) ?_
  exact zt_X15_clause_J78 hX hr hR hd h
def zf_X15_clause (N : Nat) (a0 : Nat) (S : zm_S) : Option (Unit × zm_S) := (zg_i S a0 15 33).bind (fun v1 => (zg_i S a0 15 33).bind (fun v2 => (zp S a0 15 33 (.int (v2 + (1 : Int32)))).bind (fun S3 => (zg_r S3 a0 15 11).bind (fun b4 => (zg_i S3 a0 15 34).bind (fun v5 => (zs_i S3 b4 ((60 : Int32) + v1) v5).bind (fun S6 => (zi S6 a0 15).bind (fun _ => (zf_X15_side N a0 S6).bind (fun r9 => (zg_r r9.2 a0 15 12).bind (fun b10 => (zg_i r9.2 a0 15 34).bind (fun v11 => (zs_i r9.2 b10 ((60 : Int32) + v1) v11).bind (fun S12 => (zg_r S12 a0 15 14).bind (fun b13 => (zg_i S12 a0 15 28).bind (fun v14 => (zf_X15_relation N v14 S12).bind (fun r17 => (zs_i r17.2 b13 ((60 : Int32) + v1) r17.1).bind (fun S18 => (zg_i S18 a0 15 31).bind (fun v19 => if v19 = 0 then (zg_i S18 a0 15 28).bind (fun v30 => (zf_X15_relation N v30 S18).bind (fun r33 => if r33.1 < 0 then zf_X15_clause_J77 N a0 ((60 : Int32) + v1) a0 r33.2 else zf_X15_clause_J78 N a0 ((60 : Int32) + v1) a0 (1 : Int32) r33.2)) else zf_X15_clause_J77 N a0 ((60 : Int32) + v1) a0 S18))))))))))))))))
set_option maxHeartbeats 4000000 in
set_option maxRecDepth 100000 in
theorem zt_X15_clause {l : Launch} {V : zm_V} {N : Nat} {S : zm_S} {out : (Unit × zm_S)} {d : Nat} {a0 : Nat} (hd : 5 ≤ d) (h : zf_X15_clause N a0 S = some out) : zm_Met l zk_E V yX15_clause (.code yX15_clause cX15_clause 2 none) d [.ref a0] S 0 0 (zo_v out) zo_x := by
  refine zm_of (by decide +kernel) (Nat.le_of_ble_eq_true rfl) ?_
  intro p e R s m args below meth c hRR hX hr hxt
  have hR : R.frames = d ∧ R.locals = 64 * d := by rw [hRR]; exact ⟨rfl, rfl⟩
  have hX : zm_X p R s m args meth c RX15 "clause" cX15_clause 2 zk_E V 0 0 := hX
  unfold zf_X15_clause at h
  refine zw_sub (lv' := [(0, .ref a0)]) (List.forall_mem_cons.mpr ⟨rfl, zs_nil⟩) ?_
  refine zw_bipush (v := (60 : Int32)) hX dX15_clause_0 (by decide) ?_
  refine zw_aload_n hX dX15_clause_2 rfl ?_
  obtain ⟨v1, g, h⟩ := zb_some h
  refine zw_geti hX zl_X15_155 dX15_clause_3 g ?_
  refine zw_iadd hX dX15_clause_6 ?_
  refine zw_istore_n hX dX15_clause_7 (by decide) ?_
  refine zw_aload_n hX dX15_clause_8 rfl ?_
  refine zw_dup hX dX15_clause_9 rfl ?_
  obtain ⟨v2, g, h⟩ := zb_some h
  refine zw_geti hX zl_X15_155 dX15_clause_10 g ?_
  refine zw_iconst (v := (1 : Int32)) hX dX15_clause_13 (by decide) ?_
  refine zw_iadd hX dX15_clause_14 ?_
  obtain ⟨S3, g, h⟩ := zb_some h
  refine zw_putv hX zl_X15_155 zt_15_33 dX15_clause_15 rfl rfl g ?_
  refine zw_aload_n hX dX15_clause_18 rfl ?_
  obtain ⟨b4, g, h⟩ := zb_some h
  refine zw_getr hX zl_X15_32 dX15_clause_19 g ?_
  refine zw_iload_n hX dX15_clause_22 rfl ?_
  refine zw_aload_n hX dX15_clause_23 rfl ?_
  obtain ⟨v5, g, h⟩ := zb_some h
  refine zw_geti hX zl_X15_134 dX15_clause_24 g ?_
  obtain ⟨S6, g, h⟩ := zb_some h
  refine zw_si hX dX15_clause_27 g ?_
  refine zw_aload_n hX dX15_clause_28 rfl ?_
  obtain ⟨_, gi, h⟩ := zb_some h
  obtain ⟨r9, g, h⟩ := zb_some h
  refine zc_Vv (as := []) hX gi (zt_X15_side (d := d - 1) (by omega) g) zl_X15_158 rfl dX15_clause_29 ⟨rfl, rfl, Nat.le_of_ble_eq_true rfl⟩ ⟨by omega, by omega⟩ ?_
  refine zw_aload_n hX dX15_clause_32 rfl ?_
  obtain ⟨b10, g, h⟩ := zb_some h
  refine zw_getr hX zl_X15_35 dX15_clause_33 g ?_
  refine zw_iload_n hX dX15_clause_36 rfl ?_
  refine zw_aload_n hX dX15_clause_37 rfl ?_
  obtain ⟨v11, g, h⟩ := zb_some h
  refine zw_geti hX zl_X15_134 dX15_clause_38 g ?_
  obtain ⟨S12, g, h⟩ := zb_some h
  refine zw_si hX dX15_clause_41 g ?_
  refine zw_aload_n hX dX15_clause_42 rfl ?_
  obtain ⟨b13, g, h⟩ := zb_some h
  refine zw_getr hX zl_X15_41 dX15_clause_43 g ?_
  refine zw_iload_n hX dX15_clause_46 rfl ?_
  refine zw_aload_n hX dX15_clause_47 rfl ?_
  obtain ⟨v14, g, h⟩ := zb_some h
  refine zw_geti hX zl_X15_99 dX15_clause_48 g ?_
  obtain ⟨r17, g, h⟩ := zb_some h
  refine zc_Si (as := [.int v14]) hX (zt_X15_relation (d := d - 1) (by omega) g) zl_X15_161 dX15_clause_51 ⟨rfl, rfl, Nat.le_of_ble_eq_true rfl⟩ ⟨by omega, by omega⟩ ?_
  obtain ⟨S18, g, h⟩ := zb_some h
  refine zw_si hX dX15_clause_54 g ?_
  refine zw_aload_n hX dX15_clause_55 rfl ?_
  refine zw_aload_n hX dX15_clause_56 rfl ?_
  obtain ⟨v19, g, h⟩ := zb_some h
  refine zw_geti hX zl_X15_121 dX15_clause_57 g ?_
  refine zw_if_ne (tgt := 77) hX dX15_clause_60 (by decide) (fun c60 => ?_) (fun c60 => ?_)
  · rw [if_neg c60] at h
    refine zw_sub (lv' := [(0, .ref a0), (1, .int ((60 : Int32) + v1))]) (List.forall_mem_cons.mpr ⟨rfl, (List.forall_mem_cons.mpr ⟨rfl, zs_nil⟩)⟩) ?_
    exact zt_X15_clause_J77 hX hr hR hd h
  · rw [if_pos c60] at h
    refine zw_aload_n hX dX15_clause_63 rfl ?_
    obtain ⟨v30, g, h⟩ := zb_some h
    refine zw_geti hX zl_X15_99 dX15_clause_64 g ?_
    obtain ⟨r33, g, h⟩ := zb_some h
    refine zc_Si (as := [.int v30]) hX (zt_X15_relation (d := d - 1) (by omega) g) zl_X15_161 dX15_clause_67 ⟨rfl, rfl, Nat.le_of_ble_eq_true rfl⟩ ⟨by omega, by omega⟩ ?_
    refine zw_if_lt (tgt := 77) hX dX15_clause_70 (by decide) (fun c70 => ?_) (fun c70 => ?_)
    · rw [if_pos c70] at h
      refine zw_sub (lv' := [(0, .ref a0), (1, .int ((60 : Int32) + v1))]) (List.forall_mem_cons.mpr ⟨rfl, (List.forall_mem_cons.mpr ⟨rfl, zs_nil⟩)⟩) ?_
      exact zt_X15_clause_J77 hX hr hR hd h
    · rw [if_neg c70] at h
      refine zw_iconst (v := (1 : Int32)) hX dX15_clause_73 (by decide) ?_
      refine zw_goto (tgt := 78) hX dX15_clause_74 (by decide) ?_
      refine zw_sub (lv' := [(0, .ref a0), (1, .int ((60 : Int32) + v1))]) (List.forall_mem_cons.mpr ⟨rfl, (List.forall_mem_cons.mpr ⟨rfl, zs_nil⟩)⟩) ?_
      exact zt_X15_clause_J78 hX hr hR hd h
def zf_X15_isNew_J37 (N : Nat) (k : Nat → Int64 → Int32 → Int32 → zm_S → Option ((Int32 × zm_S) ⊕ ((Int32) × zm_S))) (a0 : Nat) (j1 : Int64) (i4 : Int32) (S : zm_S) : Option ((Int32 × zm_S) ⊕ ((Int32) × zm_S)) := k a0 j1 (0 : Int32) (i4 + (1 : Int32)) S
set_option maxHeartbeats 4000000 in
set_option maxRecDepth 100000 in
theorem zt_X15_isNew_J37 {p : Program} {l : Launch} {e : Env} {R : Room} {s : State} {m : MethodId} {args : Array Value} {below : List Frame} {meth : Method} {c : Code} {V : zm_V} {mc ms d rc rs : Nat} (hX : zm_X p R s m args meth c RX15 "isNew" cX15_isNew 5 zk_E V mc ms) (hr : meth.sig.returnType = (some .boolean)) (hR : R.frames = d ∧ R.locals = 64 * d) (hd : 1 ≤ d) {N : Nat} {k : Nat → Int64 → Int32 → Int32 → zm_S → Option ((Int32 × zm_S) ⊕ ((Int32) × zm_S))} {a0 : Nat} {j1 : Int64} {i4 : Int32} {res : (Int32 × zm_S) ⊕ ((Int32) × zm_S)} {out : (Int32 × zm_S)}   (hf : ∀ o, res = .inl o → o = out) (hk : ∀ (x3 : Int32) (S' : zm_S), res = .inr (x3, S') → zw p l e R s m args below meth c (vx_MQ below (zm_Qc zk_E V (zo_i out)) (zm_XC zk_E V zo_x) args s mc ms (fun q => V.2.2.2.1 ≤ q)) 5 zk_E V mc ms 45 [(3, .int x3)] [] S' rc rs) (hrec : ∀ (i3' : Int32) (i4' : Int32) (S : zm_S), k a0 j1 i3' i4' S = some res → zw p l e R s m args below meth c (vx_MQ below (zm_Qc zk_E V (zo_i out)) (zm_XC zk_E V zo_x) args s mc ms (fun q => V.2.2.2.1 ≤ q)) 5 zk_E V mc ms 5 [(0, .ref a0), (1, .long j1), (3, .int i3'), (4, .int i4')] [] S rc rs) {S : zm_S} (h : zf_X15_isNew_J37 N k a0 j1 i4 S = some res) : zw p l e R s m args below meth c (vx_MQ below (zm_Qc zk_E V (zo_i out)) (zm_XC zk_E V zo_x) args s mc ms (fun q => V.2.2.2.1 ≤ q)) 5 zk_E V mc ms 37 [(0, .ref a0), (1, .long j1), (4, .int i4)] [] S rc rs := by
  unfold zf_X15_isNew_J37 at h
  refine zw_iconst (v := (0 : Int32)) hX dX15_isNew_37 (by decide) ?_
  refine zw_istore_n hX dX15_isNew_38 (by decide) ?_
  refine zw_iinc (v := (i4 + (1 : Int32))) hX dX15_isNew_39 rfl rfl (by decide) ?_
  refine zw_goto (tgt := 5) hX dX15_isNew_42 (by decide) ?_
  refine zw_sub (lv' := [(0, .ref a0), (1, .long j1), (3, .int (0 : Int32)), (4, .int (i4 + (1 : Int32)))]) (List.forall_mem_cons.mpr ⟨rfl, (List.forall_mem_cons.mpr ⟨rfl, (List.forall_mem_cons.mpr ⟨rfl, (List.forall_mem_cons.mpr ⟨rfl, zs_nil⟩)⟩)⟩)⟩) ?_
  exact hrec _ _ _ h
def zf_X15_isNew_L5 (N : Nat) : Nat → Nat → Int64 → Int32 → Int32 → zm_S → Option ((Int32 × zm_S) ⊕ ((Int32) × zm_S))
  | 0, _, _, _, _, _ => none
  | n + 1, a0, j1, i3, i4, S => (zg_i S a0 15 32).bind (fun v1 => if v1 ≤ i4 then some (.inr (i3, S)) else if i3 = 0 then zf_X15_isNew_J37 N (zf_X15_isNew_L5 N n) a0 j1 i4 S else (zg_r S a0 15 6).bind (fun b2 => (za_l S b2 ((12 : Int32) + i4)).bind (fun w3 => if (lg_cmp w3 j1) = 0 then zf_X15_isNew_J37 N (zf_X15_isNew_L5 N n) a0 j1 i4 S else zf_X15_isNew_L5 N n a0 j1 (1 : Int32) (i4 + (1 : Int32)) S)))
set_option maxHeartbeats 4000000 in
set_option maxRecDepth 100000 in
theorem zt_X15_isNew_L5 {p : Program} {l : Launch} {e : Env} {R : Room} {s : State} {m : MethodId} {args : Array Value} {below : List Frame} {meth : Method} {c : Code} {V : zm_V} {mc ms d rc rs : Nat} (hX : zm_X p R s m args meth c RX15 "isNew" cX15_isNew 5 zk_E V mc ms) (hr : meth.sig.returnType = (some .boolean)) (hR : R.frames = d ∧ R.locals = 64 * d) (hd : 1 ≤ d) {N : Nat} {res : (Int32 × zm_S) ⊕ ((Int32) × zm_S)} {out : (Int32 × zm_S)} (a0 : Nat) (j1 : Int64) (hf : ∀ o, res = .inl o → o = out) (hk : ∀ (x3 : Int32) (S' : zm_S), res = .inr (x3, S') → zw p l e R s m args below meth c (vx_MQ below (zm_Qc zk_E V (zo_i out)) (zm_XC zk_E V zo_x) args s mc ms (fun q => V.2.2.2.1 ≤ q)) 5 zk_E V mc ms 45 [(3, .int x3)] [] S' rc rs) : ∀ (n : Nat) (i3 : Int32) (i4 : Int32) (S : zm_S), zf_X15_isNew_L5 N n a0 j1 i3 i4 S = some res → zw p l e R s m args below meth c (vx_MQ below (zm_Qc zk_E V (zo_i out)) (zm_XC zk_E V zo_x) args s mc ms (fun q => V.2.2.2.1 ≤ q)) 5 zk_E V mc ms 5 [(0, .ref a0), (1, .long j1), (3, .int i3), (4, .int i4)] [] S rc rs := by
  intro n
  induction n with
  | zero => intro i3 i4 S h; cases h
  | succ n ih =>
    intro i3 i4 S h
    rw [zf_X15_isNew_L5] at h
    refine zw_iload hX dX15_isNew_5 rfl ?_
    refine zw_aload_n hX dX15_isNew_7 rfl ?_
    obtain ⟨v1, g, h⟩ := zb_some h
    refine zw_geti hX zl_X15_164 dX15_isNew_8 g ?_
    refine zw_icmp_ge (tgt := 45) hX dX15_isNew_11 (by decide) (fun c11 => ?_) (fun c11 => ?_)
    · rw [if_pos c11] at h
      refine zw_sub (lv' := [(3, .int i3)]) (List.forall_mem_cons.mpr ⟨rfl, zs_nil⟩) ?_
      exact hk _ _ (Option.some.inj h).symm
    · rw [if_neg c11] at h
      refine zw_iload_n hX dX15_isNew_14 rfl ?_
      refine zw_if_eq (tgt := 37) hX dX15_isNew_15 (by decide) (fun c15 => ?_) (fun c15 => ?_)
      · rw [if_pos c15] at h
        refine zw_sub (lv' := [(0, .ref a0), (1, .long j1), (4, .int i4)]) (List.forall_mem_cons.mpr ⟨rfl, (List.forall_mem_cons.mpr ⟨rfl, (List.forall_mem_cons.mpr ⟨rfl, zs_nil⟩)⟩)⟩) ?_
        exact zt_X15_isNew_J37 hX hr hR hd hf hk ih h
      · rw [if_neg c15] at h
        refine zw_aload_n hX dX15_isNew_18 rfl ?_
        obtain ⟨b2, g, h⟩ := zb_some h
        refine zw_getr hX zl_X15_20 dX15_isNew_19 g ?_
        refine zw_bipush (v := (12 : Int32)) hX dX15_isNew_22 (by decide) ?_
        refine zw_iload hX dX15_isNew_24 rfl ?_
        refine zw_iadd hX dX15_isNew_26 ?_
        obtain ⟨w3, g, h⟩ := zb_some h
        refine zw_xl hX dX15_isNew_27 g ?_
        refine zw_lload_n hX dX15_isNew_28 rfl ?_
        refine zw_lcmp hX dX15_isNew_29 ?_
        refine zw_if_eq (tgt := 37) hX dX15_isNew_30 (by decide) (fun c30 => ?_) (fun c30 => ?_)
        · rw [if_pos c30] at h
          refine zw_sub (lv' := [(0, .ref a0), (1, .long j1), (4, .int i4)]) (List.forall_mem_cons.mpr ⟨rfl, (List.forall_mem_cons.mpr ⟨rfl, (List.forall_mem_cons.mpr ⟨rfl, zs_nil⟩)⟩)⟩) ?_
          exact zt_X15_isNew_J37 hX hr hR hd hf hk ih h
        · rw [if_neg c30] at h
          refine zw_iconst (v := (1 : Int32)) hX dX15_isNew_33 (by decide) ?_
          refine zw_goto (tgt := 38) hX dX15_isNew_34 (by decide) ?_
          refine zw_istore_n hX dX15_isNew_38 (by decide) ?_
          refine zw_iinc (v := (i4 + (1 : Int32))) hX dX15_isNew_39 rfl rfl (by decide) ?_
          refine zw_goto (tgt := 5) hX dX15_isNew_42 (by decide) ?_
          refine zw_sub (lv' := [(0, .ref a0), (1, .long j1), (3, .int (1 : Int32)), (4, .int (i4 + (1 : Int32)))]) (List.forall_mem_cons.mpr ⟨rfl, (List.forall_mem_cons.mpr ⟨rfl, (List.forall_mem_cons.mpr ⟨rfl, (List.forall_mem_cons.mpr ⟨rfl, zs_nil⟩)⟩)⟩)⟩) ?_
          exact ih _ _ _ h
def zf_X15_isNew (N : Nat) (a0 : Nat) (j1 : Int64) (S : zm_S) : Option (Int32 × zm_S) := (zf_X15_isNew_L5 N N a0 j1 (1 : Int32) (0 : Int32) S).bind (fun r => match r with | .inl o => some o | .inr (v5, S4) => if v5 = 0 ∨ v5 = 1 then some (v5, S4) else none)
set_option maxHeartbeats 4000000 in
set_option maxRecDepth 100000 in
theorem zt_X15_isNew {l : Launch} {V : zm_V} {N : Nat} {S : zm_S} {out : (Int32 × zm_S)} {d : Nat} {a0 : Nat} {j1 : Int64} (hd : 1 ≤ d) (h : zf_X15_isNew N a0 j1 S = some out) : zm_Met l zk_E V yX15_isNew (.code yX15_isNew cX15_isNew 5 (some .boolean)) d [.ref a0, .long j1] S 0 0 (zo_i out) zo_x := by
  refine zm_of (by decide +kernel) (Nat.le_of_ble_eq_true rfl) ?_
  intro p e R s m args below meth c hRR hX hr hxt
  have hR : R.frames = d ∧ R.locals = 64 * d := by rw [hRR]; exact ⟨rfl, rfl⟩
  have hX : zm_X p R s m args meth c RX15 "isNew" cX15_isNew 5 zk_E V 0 0 := hX
  unfold zf_X15_isNew at h
  refine zw_sub (lv' := [(0, .ref a0), (1, .long j1)]) (List.forall_mem_cons.mpr ⟨rfl, (List.forall_mem_cons.mpr ⟨rfl, zs_nil⟩)⟩) ?_
  refine zw_iconst (v := (1 : Int32)) hX dX15_isNew_0 (by decide) ?_
  refine zw_istore_n hX dX15_isNew_1 (by decide) ?_
  refine zw_iconst (v := (0 : Int32)) hX dX15_isNew_2 (by decide) ?_
  refine zw_istore hX dX15_isNew_3 (by decide) ?_
  obtain ⟨r, g, h⟩ := zb_some h
  refine zw_sub (lv' := [(0, .ref a0), (1, .long j1), (3, .int (1 : Int32)), (4, .int (0 : Int32))]) (List.forall_mem_cons.mpr ⟨rfl, (List.forall_mem_cons.mpr ⟨rfl, (List.forall_mem_cons.mpr ⟨rfl, (List.forall_mem_cons.mpr ⟨rfl, zs_nil⟩)⟩)⟩)⟩) ?_
  refine zt_X15_isNew_L5 hX hr hR hd (res := r) (out := out) a0 j1 ?_ ?_ N _ _ _ g
  · intro o ho
    subst ho
    exact Option.some.inj h
  · intro v5 S4 hx
    subst hx
    try dsimp only at h
    refine zw_iload_n hX dX15_isNew_45 rfl ?_
    by_cases cz : v5 = 0 ∨ v5 = 1
    · rw [if_pos cz] at h
      obtain rfl := Option.some.inj h
      exact zw_iret hX hr dX15_isNew_46 (zn_z cz) ⟨rfl, rfl⟩
    · rw [if_neg cz] at h
      cases h
def zf_X15_rule_L138 (N : Nat) : Nat → Nat → Int32 → zm_S → Option ((Unit × zm_S) ⊕ ((Unit) × zm_S))
  | 0, _, _, _ => none
  | n + 1, a0, i1, S => (zg_i S a0 15 31).bind (fun v25 => if v25 = 0 then (zg_i S a0 15 28).bind (fun v26 => if v26 = (33 : Int32) then (zi S a0 15).bind (fun _ => (zf_X15_take N a0 (1 : Int32) S).bind (fun r29 => (zg_i r29.2 a0 15 31).bind (fun v30 => if v30 = 0 then (zg_r r29.2 a0 15 8).bind (fun b31 => (za_x r29.2 0 b31 i1).bind (fun v32 => (zs_i r29.2 b31 i1 (v32 + (1 : Int32))).bind (fun S33 => (zi S33 a0 15).bind (fun _ => (zf_X15_clause N a0 S33).bind (fun r36 => zf_X15_rule_L138 N n a0 i1 r36.2))))) else zf_X15_rule_L138 N n a0 i1 r29.2))) else some (.inr ((), S))) else some (.inr ((), S)))
set_option maxHeartbeats 4000000 in
set_option maxRecDepth 100000 in
theorem zt_X15_rule_L138 {p : Program} {l : Launch} {e : Env} {R : Room} {s : State} {m : MethodId} {args : Array Value} {below : List Frame} {meth : Method} {c : Code} {V : zm_V} {mc ms d rc rs : Nat} (hX : zm_X p R s m args meth c RX15 "rule" cX15_rule 2 zk_E V mc ms) (hr : meth.sig.returnType = none) (hR : R.frames = d ∧ R.locals = 64 * d) (hd : 6 ≤ d) {N : Nat} {res : (Unit × zm_S) ⊕ ((Unit) × zm_S)} {out : (Unit × zm_S)} (a0 : Nat) (i1 : Int32) (hf : ∀ o, res = .inl o → o = out) (hk : ∀ (S' : zm_S), res = .inr ((), S') → zw p l e R s m args below meth c (vx_MQ below (zm_Qc zk_E V (zo_v out)) (zm_XC zk_E V zo_x) args s mc ms (fun q => V.2.2.2.1 ≤ q)) 2 zk_E V mc ms 183 [(0, .ref a0), (1, .int i1)] [] S' rc rs) : ∀ (n : Nat)  (S : zm_S), zf_X15_rule_L138 N n a0 i1 S = some res → zw p l e R s m args below meth c (vx_MQ below (zm_Qc zk_E V (zo_v out)) (zm_XC zk_E V zo_x) args s mc ms (fun q => V.2.2.2.1 ≤ q)) 2 zk_E V mc ms 138 [(0, .ref a0), (1, .int i1)] [] S rc rs := by
  intro n
  induction n with
  | zero => intro  S h; cases h
  | succ n ih =>
    intro  S h
    rw [zf_X15_rule_L138] at h
    refine zw_aload_n hX dX15_rule_138 rfl ?_
    obtain ⟨v25, g, h⟩ := zb_some h
    refine zw_geti hX zl_X15_121 dX15_rule_139 g ?_
    refine zw_if_ne (tgt := 183) hX dX15_rule_142 (by decide) (fun c142 => ?_) (fun c142 => ?_)
    · rw [if_neg c142] at h
      refine zw_sub (lv' := [(0, .ref a0), (1, .int i1)]) (List.forall_mem_cons.mpr ⟨rfl, (List.forall_mem_cons.mpr ⟨rfl, zs_nil⟩)⟩) ?_
      exact hk  _ (Option.some.inj h).symm
    · rw [if_pos c142] at h
      refine zw_aload_n hX dX15_rule_145 rfl ?_
      obtain ⟨v26, g, h⟩ := zb_some h
      refine zw_geti hX zl_X15_99 dX15_rule_146 g ?_
      refine zw_bipush (v := (33 : Int32)) hX dX15_rule_149 (by decide) ?_
      refine zw_icmp_ne (tgt := 183) hX dX15_rule_151 (by decide) (fun c151 => ?_) (fun c151 => ?_)
      · rw [if_neg c151] at h
        refine zw_sub (lv' := [(0, .ref a0), (1, .int i1)]) (List.forall_mem_cons.mpr ⟨rfl, (List.forall_mem_cons.mpr ⟨rfl, zs_nil⟩)⟩) ?_
        exact hk  _ (Option.some.inj h).symm
      · rw [if_pos c151] at h
        refine zw_aload_n hX dX15_rule_154 rfl ?_
        refine zw_iconst (v := (1 : Int32)) hX dX15_rule_155 (by decide) ?_
        obtain ⟨_, gi, h⟩ := zb_some h
        obtain ⟨r29, g, h⟩ := zb_some h
        refine zc_Vv (as := [.int (1 : Int32)]) hX gi (zt_X15_take (d := d - 1) (by omega) g) zl_X15_147 rfl dX15_rule_156 ⟨rfl, rfl, Nat.le_of_ble_eq_true rfl⟩ ⟨by omega, by omega⟩ ?_
        refine zw_aload_n hX dX15_rule_159 rfl ?_
        obtain ⟨v30, g, h⟩ := zb_some h
        refine zw_geti hX zl_X15_121 dX15_rule_160 g ?_
        refine zw_if_ne (tgt := 138) hX dX15_rule_163 (by decide) (fun c163 => ?_) (fun c163 => ?_)
        · rw [if_neg c163] at h
          refine zw_sub (lv' := [(0, .ref a0), (1, .int i1)]) (List.forall_mem_cons.mpr ⟨rfl, (List.forall_mem_cons.mpr ⟨rfl, zs_nil⟩)⟩) ?_
          exact ih  _ h
        · rw [if_pos c163] at h
          refine zw_aload_n hX dX15_rule_166 rfl ?_
          obtain ⟨b31, g, h⟩ := zb_some h
          refine zw_getr hX zl_X15_26 dX15_rule_167 g ?_
          refine zw_iload_n hX dX15_rule_170 rfl ?_
          refine zw_dup2 hX dX15_rule_171 rfl rfl ?_
          obtain ⟨v32, g, h⟩ := zb_some h
          refine zw_xi hX dX15_rule_172 g ?_
          refine zw_iconst (v := (1 : Int32)) hX dX15_rule_173 (by decide) ?_
          refine zw_iadd hX dX15_rule_174 ?_
          obtain ⟨S33, g, h⟩ := zb_some h
          refine zw_si hX dX15_rule_175 g ?_
          refine zw_aload_n hX dX15_rule_176 rfl ?_
          obtain ⟨_, gi, h⟩ := zb_some h
          obtain ⟨r36, g, h⟩ := zb_some h
          refine zc_Vv (as := []) hX gi (zt_X15_clause (d := d - 1) (by omega) g) zl_X15_171 rfl dX15_rule_177 ⟨rfl, rfl, Nat.le_of_ble_eq_true rfl⟩ ⟨by omega, by omega⟩ ?_
          refine zw_goto (tgt := 138) hX dX15_rule_180 (by decide) ?_
          refine zw_sub (lv' := [(0, .ref a0), (1, .int i1)]) (List.forall_mem_cons.mpr ⟨rfl, (List.forall_mem_cons.mpr ⟨rfl, zs_nil⟩)⟩) ?_
          exact ih  _ h
def zf_X15_rule_J183 (N : Nat) (a0 : Nat) (i1 : Int32) (S : zm_S) : Option (Unit × zm_S) := (zg_i S a0 15 31).bind (fun v38 => if v38 = 0 then (zg_i S a0 15 28).bind (fun v39 => if v39 = (64 : Int32) then (zi S a0 15).bind (fun _ => (zf_X15_take N a0 (1 : Int32) S).bind (fun r42 => (zg_r r42.2 a0 15 9).bind (fun b43 => (zg_l r42.2 a0 15 29).bind (fun w44 => (zs_i r42.2 b43 i1 ((w44).toInt32)).bind (fun S45 => (zg_i S45 a0 15 28).bind (fun v46 => if v46 = (1 : Int32) then (zi S45 a0 15).bind (fun _ => (zf_X15_take N a0 (1 : Int32) S45).bind (fun r52 => some ((), r52.2))) else (zi S45 a0 15).bind (fun _ => (zf_X15_take N a0 (0 : Int32) S45).bind (fun r49 => some ((), r49.2))))))))) else some ((), S)) else some ((), S))
set_option maxHeartbeats 4000000 in
set_option maxRecDepth 100000 in
theorem zt_X15_rule_J183 {p : Program} {l : Launch} {e : Env} {R : Room} {s : State} {m : MethodId} {args : Array Value} {below : List Frame} {meth : Method} {c : Code} {V : zm_V} {mc ms d rc rs : Nat} (hX : zm_X p R s m args meth c RX15 "rule" cX15_rule 2 zk_E V mc ms) (hr : meth.sig.returnType = none) (hR : R.frames = d ∧ R.locals = 64 * d) (hd : 6 ≤ d) {N : Nat} {a0 : Nat} {i1 : Int32} {out : (Unit × zm_S)} {S : zm_S} (h : zf_X15_rule_J183 N a0 i1 S = some out) : zw p l e R s m args below meth c (vx_MQ below (zm_Qc zk_E V (zo_v out)) (zm_XC zk_E V zo_x) args s mc ms (fun q => V.2.2.2.1 ≤ q)) 2 zk_E V mc ms 183 [(0, .ref a0), (1, .int i1)] [] S rc rs := by
  unfold zf_X15_rule_J183 at h
  refine zw_aload_n hX dX15_rule_183 rfl ?_
  obtain ⟨v38, g, h⟩ := zb_some h
  refine zw_geti hX zl_X15_121 dX15_rule_184 g ?_
  refine zw_if_ne (tgt := 232) hX dX15_rule_187 (by decide) (fun c187 => ?_) (fun c187 => ?_)
  · rw [if_neg c187] at h
    obtain rfl := Option.some.inj h
    exact zw_vret hX hr dX15_rule_232 ⟨rfl, rfl⟩
  · rw [if_pos c187] at h
    refine zw_aload_n hX dX15_rule_190 rfl ?_
    obtain ⟨v39, g, h⟩ := zb_some h
    refine zw_geti hX zl_X15_99 dX15_rule_191 g ?_
    refine zw_bipush (v := (64 : Int32)) hX dX15_rule_194 (by decide) ?_
    refine zw_icmp_ne (tgt := 232) hX dX15_rule_196 (by decide) (fun c196 => ?_) (fun c196 => ?_)
    · rw [if_neg c196] at h
      obtain rfl := Option.some.inj h
      exact zw_vret hX hr dX15_rule_232 ⟨rfl, rfl⟩
    · rw [if_pos c196] at h
      refine zw_aload_n hX dX15_rule_199 rfl ?_
      refine zw_iconst (v := (1 : Int32)) hX dX15_rule_200 (by decide) ?_
      obtain ⟨_, gi, h⟩ := zb_some h
      obtain ⟨r42, g, h⟩ := zb_some h
      refine zc_Vv (as := [.int (1 : Int32)]) hX gi (zt_X15_take (d := d - 1) (by omega) g) zl_X15_147 rfl dX15_rule_201 ⟨rfl, rfl, Nat.le_of_ble_eq_true rfl⟩ ⟨by omega, by omega⟩ ?_
      refine zw_aload_n hX dX15_rule_204 rfl ?_
      obtain ⟨b43, g, h⟩ := zb_some h
      refine zw_getr hX zl_X15_29 dX15_rule_205 g ?_
      refine zw_iload_n hX dX15_rule_208 rfl ?_
      refine zw_aload_n hX dX15_rule_209 rfl ?_
      obtain ⟨w44, g, h⟩ := zb_some h
      refine zw_getl hX zl_X15_102 dX15_rule_210 g ?_
      refine zw_l2i hX dX15_rule_213 ?_
      obtain ⟨S45, g, h⟩ := zb_some h
      refine zw_si hX dX15_rule_214 g ?_
      refine zw_aload_n hX dX15_rule_215 rfl ?_
      refine zw_aload_n hX dX15_rule_216 rfl ?_
      obtain ⟨v46, g, h⟩ := zb_some h
      refine zw_geti hX zl_X15_99 dX15_rule_217 g ?_
      refine zw_iconst (v := (1 : Int32)) hX dX15_rule_220 (by decide) ?_
      refine zw_icmp_ne (tgt := 228) hX dX15_rule_221 (by decide) (fun c221 => ?_) (fun c221 => ?_)
      · rw [if_neg c221] at h
        refine zw_iconst (v := (0 : Int32)) hX dX15_rule_228 (by decide) ?_
        obtain ⟨_, gi, h⟩ := zb_some h
        obtain ⟨r49, g, h⟩ := zb_some h
        refine zc_Vv (as := [.int (0 : Int32)]) hX gi (zt_X15_take (d := d - 1) (by omega) g) zl_X15_147 rfl dX15_rule_229 ⟨rfl, rfl, Nat.le_of_ble_eq_true rfl⟩ ⟨by omega, by omega⟩ ?_
        obtain rfl := Option.some.inj h
        exact zw_vret hX hr dX15_rule_232 ⟨rfl, rfl⟩
      · rw [if_pos c221] at h
        refine zw_iconst (v := (1 : Int32)) hX dX15_rule_224 (by decide) ?_
        refine zw_goto (tgt := 229) hX dX15_rule_225 (by decide) ?_
        obtain ⟨_, gi, h⟩ := zb_some h
        obtain ⟨r52, g, h⟩ := zb_some h
        refine zc_Vv (as := [.int (1 : Int32)]) hX gi (zt_X15_take (d := d - 1) (by omega) g) zl_X15_147 rfl dX15_rule_229 ⟨rfl, rfl, Nat.le_of_ble_eq_true rfl⟩ ⟨by omega, by omega⟩ ?_
        obtain rfl := Option.some.inj h
        exact zw_vret hX hr dX15_rule_232 ⟨rfl, rfl⟩
def zf_X15_rule_J124 (N : Nat) (a0 : Nat) (i1 : Int32) (t0 : Nat) (t1 : Int32) (S : zm_S) : Option (Unit × zm_S) := (zi S t0 15).bind (fun _ => (zf_X15_take N t0 t1 S).bind (fun r23 => (zg_i r23.2 a0 15 31).bind (fun v24 => if v24 = 0 then (zi r23.2 a0 15).bind (fun _ => (zf_X15_clause N a0 r23.2).bind (fun r55 => (zf_X15_rule_L138 N N a0 i1 r55.2).bind (fun r => match r with | .inl o => some o | .inr (_, S56) => zf_X15_rule_J183 N a0 i1 S56))) else (zf_X15_rule_L138 N N a0 i1 r23.2).bind (fun r => match r with | .inl o => some o | .inr (_, S37) => zf_X15_rule_J183 N a0 i1 S37))))
set_option maxHeartbeats 4000000 in
set_option maxRecDepth 100000 in
theorem zt_X15_rule_J124 {p : Program} {l : Launch} {e : Env} {R : Room} {s : State} {m : MethodId} {args : Array Value} {below : List Frame} {meth : Method} {c : Code} {V : zm_V} {mc ms d rc rs : Nat} (hX : zm_X p R s m args meth c RX15 "rule" cX15_rule 2 zk_E V mc ms) (hr : meth.sig.returnType = none) (hR : R.frames = d ∧ R.locals = 64 * d) (hd : 6 ≤ d) {N : Nat} {a0 : Nat} {i1 : Int32} {t0 : Nat} {t1 : Int32} {out : (Unit × zm_S)} {S : zm_S} (h : zf_X15_rule_J124 N a0 i1 t0 t1 S = some out) : zw p l e R s m args below meth c (vx_MQ below (zm_Qc zk_E V (zo_v out)) (zm_XC zk_E V zo_x) args s mc ms (fun q => V.2.2.2.1 ≤ q)) 2 zk_E V mc ms 124 [(0, .ref a0), (1, .int i1)] [.int t1, .ref t0] S rc rs := by
  unfold zf_X15_rule_J124 at h
  obtain ⟨_, gi, h⟩ := zb_some h
  obtain ⟨r23, g, h⟩ := zb_some h
  refine zc_Vv (as := [.int t1]) hX gi (zt_X15_take (d := d - 1) (by omega) g) zl_X15_147 rfl dX15_rule_124 ⟨rfl, rfl, Nat.le_of_ble_eq_true rfl⟩ ⟨by omega, by omega⟩ ?_
  refine zw_aload_n hX dX15_rule_127 rfl ?_
  obtain ⟨v24, g, h⟩ := zb_some h
  refine zw_geti hX zl_X15_121 dX15_rule_128 g ?_
  refine zw_if_ne (tgt := 138) hX dX15_rule_131 (by decide) (fun c131 => ?_) (fun c131 => ?_)
  · rw [if_neg c131] at h
    obtain ⟨r, g, h⟩ := zb_some h
    refine zw_sub (lv' := [(0, .ref a0), (1, .int i1)]) (List.forall_mem_cons.mpr ⟨rfl, (List.forall_mem_cons.mpr ⟨rfl, zs_nil⟩)⟩) ?_
    refine zt_X15_rule_L138 hX hr hR hd (res := r) (out := out) a0 i1 ?_ ?_ N  _ g
    · intro o ho
      subst ho
      exact Option.some.inj h
    · intro  S37 hx
      subst hx
      try dsimp only at h
      refine zw_sub (lv' := [(0, .ref a0), (1, .int i1)]) (List.forall_mem_cons.mpr ⟨rfl, (List.forall_mem_cons.mpr ⟨rfl, zs_nil⟩)⟩) ?_
      exact zt_X15_rule_J183 hX hr hR hd h
  · rw [if_pos c131] at h
    refine zw_aload_n hX dX15_rule_134 rfl ?_
    obtain ⟨_, gi, h⟩ := zb_some h
    obtain ⟨r55, g, h⟩ := zb_some h
    refine zc_Vv (as := []) hX gi (zt_X15_clause (d := d - 1) (by omega) g) zl_X15_171 rfl dX15_rule_135 ⟨rfl, rfl, Nat.le_of_ble_eq_true rfl⟩ ⟨by omega, by omega⟩ ?_
    obtain ⟨r, g, h⟩ := zb_some h
    refine zw_sub (lv' := [(0, .ref a0), (1, .int i1)]) (List.forall_mem_cons.mpr ⟨rfl, (List.forall_mem_cons.mpr ⟨rfl, zs_nil⟩)⟩) ?_
    refine zt_X15_rule_L138 hX hr hR hd (res := r) (out := out) a0 i1 ?_ ?_ N  _ g
    · intro o ho
      subst ho
      exact Option.some.inj h
    · intro  S56 hx
      subst hx
      try dsimp only at h
      refine zw_sub (lv' := [(0, .ref a0), (1, .int i1)]) (List.forall_mem_cons.mpr ⟨rfl, (List.forall_mem_cons.mpr ⟨rfl, zs_nil⟩)⟩) ?_
      exact zt_X15_rule_J183 hX hr hR hd h
def zf_X15_rule_J41 (N : Nat) (a0 : Nat) (t0 : Nat) (t1 : Int32) (S : zm_S) : Option (Unit × zm_S) := (zp_z S t0 15 31 t1).bind (fun S2 => (zg_i S2 a0 15 31).bind (fun v3 => if v3 = 0 then (zg_i S2 a0 15 32).bind (fun v4 => (zg_i S2 a0 15 32).bind (fun v5 => (zp S2 a0 15 32 (.int (v5 + (1 : Int32)))).bind (fun S6 => (zg_r S6 a0 15 6).bind (fun b7 => (zg_l S6 a0 15 29).bind (fun w8 => (zs_l S6 b7 ((12 : Int32) + v4) w8).bind (fun S9 => (zg_r S9 a0 15 7).bind (fun b10 => (zg_i S9 a0 15 33).bind (fun v11 => (zs_i S9 b10 ((12 : Int32) + v4) v11).bind (fun S12 => (zg_r S12 a0 15 8).bind (fun b13 => (zs_i S12 b13 ((12 : Int32) + v4) (0 : Int32)).bind (fun S14 => (zg_r S14 a0 15 9).bind (fun b15 => (zs_i S14 b15 ((12 : Int32) + v4) (0 : Int32)).bind (fun S16 => (zi S16 a0 15).bind (fun _ => (zf_X15_take N a0 (1 : Int32) S16).bind (fun r19 => (zg_i r19.2 a0 15 28).bind (fun v20 => if v20 = (58 : Int32) then zf_X15_rule_J124 N a0 ((12 : Int32) + v4) a0 (1 : Int32) r19.2 else zf_X15_rule_J124 N a0 ((12 : Int32) + v4) a0 (0 : Int32) r19.2)))))))))))))))) else some ((), S2)))
set_option maxHeartbeats 4000000 in
set_option maxRecDepth 100000 in
theorem zt_X15_rule_J41 {p : Program} {l : Launch} {e : Env} {R : Room} {s : State} {m : MethodId} {args : Array Value} {below : List Frame} {meth : Method} {c : Code} {V : zm_V} {mc ms d rc rs : Nat} (hX : zm_X p R s m args meth c RX15 "rule" cX15_rule 2 zk_E V mc ms) (hr : meth.sig.returnType = none) (hR : R.frames = d ∧ R.locals = 64 * d) (hd : 6 ≤ d) {N : Nat} {a0 : Nat} {t0 : Nat} {t1 : Int32} {out : (Unit × zm_S)} {S : zm_S} (h : zf_X15_rule_J41 N a0 t0 t1 S = some out) : zw p l e R s m args below meth c (vx_MQ below (zm_Qc zk_E V (zo_v out)) (zm_XC zk_E V zo_x) args s mc ms (fun q => V.2.2.2.1 ≤ q)) 2 zk_E V mc ms 41 [(0, .ref a0)] [.int t1, .ref t0] S rc rs := by
  unfold zf_X15_rule_J41 at h
  obtain ⟨S2, g, h⟩ := zb_some h
  obtain ⟨gz, g⟩ := zp_z_spec g
  refine zw_putv hX zl_X15_121 zt_15_31 dX15_rule_41 (zn_z gz) (zf_z gz) g ?_
  refine zw_aload_n hX dX15_rule_44 rfl ?_
  obtain ⟨v3, g, h⟩ := zb_some h
  refine zw_geti hX zl_X15_121 dX15_rule_45 g ?_
  refine zw_if_eq (tgt := 52) hX dX15_rule_48 (by decide) (fun c48 => ?_) (fun c48 => ?_)
  · rw [if_pos c48] at h
    refine zw_bipush (v := (12 : Int32)) hX dX15_rule_52 (by decide) ?_
    refine zw_aload_n hX dX15_rule_54 rfl ?_
    obtain ⟨v4, g, h⟩ := zb_some h
    refine zw_geti hX zl_X15_164 dX15_rule_55 g ?_
    refine zw_iadd hX dX15_rule_58 ?_
    refine zw_istore_n hX dX15_rule_59 (by decide) ?_
    refine zw_aload_n hX dX15_rule_60 rfl ?_
    refine zw_dup hX dX15_rule_61 rfl ?_
    obtain ⟨v5, g, h⟩ := zb_some h
    refine zw_geti hX zl_X15_164 dX15_rule_62 g ?_
    refine zw_iconst (v := (1 : Int32)) hX dX15_rule_65 (by decide) ?_
    refine zw_iadd hX dX15_rule_66 ?_
    obtain ⟨S6, g, h⟩ := zb_some h
    refine zw_putv hX zl_X15_164 zt_15_32 dX15_rule_67 rfl rfl g ?_
    refine zw_aload_n hX dX15_rule_70 rfl ?_
    obtain ⟨b7, g, h⟩ := zb_some h
    refine zw_getr hX zl_X15_20 dX15_rule_71 g ?_
    refine zw_iload_n hX dX15_rule_74 rfl ?_
    refine zw_aload_n hX dX15_rule_75 rfl ?_
    obtain ⟨w8, g, h⟩ := zb_some h
    refine zw_getl hX zl_X15_102 dX15_rule_76 g ?_
    obtain ⟨S9, g, h⟩ := zb_some h
    refine zw_sl hX dX15_rule_79 g ?_
    refine zw_aload_n hX dX15_rule_80 rfl ?_
    obtain ⟨b10, g, h⟩ := zb_some h
    refine zw_getr hX zl_X15_23 dX15_rule_81 g ?_
    refine zw_iload_n hX dX15_rule_84 rfl ?_
    refine zw_aload_n hX dX15_rule_85 rfl ?_
    obtain ⟨v11, g, h⟩ := zb_some h
    refine zw_geti hX zl_X15_155 dX15_rule_86 g ?_
    obtain ⟨S12, g, h⟩ := zb_some h
    refine zw_si hX dX15_rule_89 g ?_
    refine zw_aload_n hX dX15_rule_90 rfl ?_
    obtain ⟨b13, g, h⟩ := zb_some h
    refine zw_getr hX zl_X15_26 dX15_rule_91 g ?_
    refine zw_iload_n hX dX15_rule_94 rfl ?_
    refine zw_iconst (v := (0 : Int32)) hX dX15_rule_95 (by decide) ?_
    obtain ⟨S14, g, h⟩ := zb_some h
    refine zw_si hX dX15_rule_96 g ?_
    refine zw_aload_n hX dX15_rule_97 rfl ?_
    obtain ⟨b15, g, h⟩ := zb_some h
    refine zw_getr hX zl_X15_29 dX15_rule_98 g ?_
    refine zw_iload_n hX dX15_rule_101 rfl ?_
    refine zw_iconst (v := (0 : Int32)) hX dX15_rule_102 (by decide) ?_
    obtain ⟨S16, g, h⟩ := zb_some h
    refine zw_si hX dX15_rule_103 g ?_
    refine zw_aload_n hX dX15_rule_104 rfl ?_
    refine zw_iconst (v := (1 : Int32)) hX dX15_rule_105 (by decide) ?_
    obtain ⟨_, gi, h⟩ := zb_some h
    obtain ⟨r19, g, h⟩ := zb_some h
    refine zc_Vv (as := [.int (1 : Int32)]) hX gi (zt_X15_take (d := d - 1) (by omega) g) zl_X15_147 rfl dX15_rule_106 ⟨rfl, rfl, Nat.le_of_ble_eq_true rfl⟩ ⟨by omega, by omega⟩ ?_
    refine zw_aload_n hX dX15_rule_109 rfl ?_
    refine zw_aload_n hX dX15_rule_110 rfl ?_
    obtain ⟨v20, g, h⟩ := zb_some h
    refine zw_geti hX zl_X15_99 dX15_rule_111 g ?_
    refine zw_bipush (v := (58 : Int32)) hX dX15_rule_114 (by decide) ?_
    refine zw_icmp_ne (tgt := 123) hX dX15_rule_116 (by decide) (fun c116 => ?_) (fun c116 => ?_)
    · rw [if_neg c116] at h
      refine zw_iconst (v := (0 : Int32)) hX dX15_rule_123 (by decide) ?_
      refine zw_sub (lv' := [(0, .ref a0), (1, .int ((12 : Int32) + v4))]) (List.forall_mem_cons.mpr ⟨rfl, (List.forall_mem_cons.mpr ⟨rfl, zs_nil⟩)⟩) ?_
      exact zt_X15_rule_J124 hX hr hR hd h
    · rw [if_pos c116] at h
      refine zw_iconst (v := (1 : Int32)) hX dX15_rule_119 (by decide) ?_
      refine zw_goto (tgt := 124) hX dX15_rule_120 (by decide) ?_
      refine zw_sub (lv' := [(0, .ref a0), (1, .int ((12 : Int32) + v4))]) (List.forall_mem_cons.mpr ⟨rfl, (List.forall_mem_cons.mpr ⟨rfl, zs_nil⟩)⟩) ?_
      exact zt_X15_rule_J124 hX hr hR hd h
  · rw [if_neg c48] at h
    obtain rfl := Option.some.inj h
    exact zw_vret hX hr dX15_rule_51 ⟨rfl, rfl⟩
def zf_X15_rule_J36 (N : Nat) (a0 : Nat) (t0 : Nat) (S : zm_S) : Option (Unit × zm_S) := zf_X15_rule_J41 N a0 t0 (1 : Int32) S
set_option maxHeartbeats 4000000 in
set_option maxRecDepth 100000 in
theorem zt_X15_rule_J36 {p : Program} {l : Launch} {e : Env} {R : Room} {s : State} {m : MethodId} {args : Array Value} {below : List Frame} {meth : Method} {c : Code} {V : zm_V} {mc ms d rc rs : Nat} (hX : zm_X p R s m args meth c RX15 "rule" cX15_rule 2 zk_E V mc ms) (hr : meth.sig.returnType = none) (hR : R.frames = d ∧ R.locals = 64 * d) (hd : 6 ≤ d) {N : Nat} {a0 : Nat} {t0 : Nat} {out : (Unit × zm_S)} {S : zm_S} (h : zf_X15_rule_J36 N a0 t0 S = some out) : zw p l e R s m args below meth c (vx_MQ below (zm_Qc zk_E V (zo_v out)) (zm_XC zk_E V zo_x) args s mc ms (fun q => V.2.2.2.1 ≤ q)) 2 zk_E V mc ms 36 [(0, .ref a0)] [.ref t0] S rc rs := by
  unfold zf_X15_rule_J36 at h
  refine zw_iconst (v := (1 : Int32)) hX dX15_rule_36 (by decide) ?_
  refine zw_goto (tgt := 41) hX dX15_rule_37 (by decide) ?_
  refine zw_sub (lv' := [(0, .ref a0)]) (List.forall_mem_cons.mpr ⟨rfl, zs_nil⟩) ?_
  exact zt_X15_rule_J41 hX hr hR hd h
def zf_X15_rule (N : Nat) (a0 : Nat) (S : zm_S) : Option (Unit × zm_S) := (zg_i S a0 15 31).bind (fun v1 => if v1 = 0 then (zg_i S a0 15 28).bind (fun v57 => if v57 = (2 : Int32) then (zg_i S a0 15 32).bind (fun v58 => if v58 = (12 : Int32) then zf_X15_rule_J36 N a0 a0 S else (zg_l S a0 15 29).bind (fun w59 => (zi S a0 15).bind (fun _ => (zf_X15_isNew N a0 w59 S).bind (fun r62 => if r62.1 = 0 then zf_X15_rule_J36 N a0 a0 r62.2 else zf_X15_rule_J41 N a0 a0 (0 : Int32) r62.2)))) else zf_X15_rule_J36 N a0 a0 S) else zf_X15_rule_J36 N a0 a0 S)
set_option maxHeartbeats 4000000 in
set_option maxRecDepth 100000 in
theorem zt_X15_rule {l : Launch} {V : zm_V} {N : Nat} {S : zm_S} {out : (Unit × zm_S)} {d : Nat} {a0 : Nat} (hd : 6 ≤ d) (h : zf_X15_rule N a0 S = some out) : zm_Met l zk_E V yX15_rule (.code yX15_rule cX15_rule 2 none) d [.ref a0] S 0 0 (zo_v out) zo_x := by
  refine zm_of (by decide +kernel) (Nat.le_of_ble_eq_true rfl) ?_
  intro p e R s m args below meth c hRR hX hr hxt
  have hR : R.frames = d ∧ R.locals = 64 * d := by rw [hRR]; exact ⟨rfl, rfl⟩
  have hX : zm_X p R s m args meth c RX15 "rule" cX15_rule 2 zk_E V 0 0 := hX
  unfold zf_X15_rule at h
  refine zw_sub (lv' := [(0, .ref a0)]) (List.forall_mem_cons.mpr ⟨rfl, zs_nil⟩) ?_
  refine zw_aload_n hX dX15_rule_0 rfl ?_
  refine zw_aload_n hX dX15_rule_1 rfl ?_
  obtain ⟨v1, g, h⟩ := zb_some h
  refine zw_geti hX zl_X15_121 dX15_rule_2 g ?_
  refine zw_if_ne (tgt := 36) hX dX15_rule_5 (by decide) (fun c5 => ?_) (fun c5 => ?_)
  · rw [if_neg c5] at h
    refine zw_sub (lv' := [(0, .ref a0)]) (List.forall_mem_cons.mpr ⟨rfl, zs_nil⟩) ?_
    exact zt_X15_rule_J36 hX hr hR hd h
  · rw [if_pos c5] at h
    refine zw_aload_n hX dX15_rule_8 rfl ?_
    obtain ⟨v57, g, h⟩ := zb_some h
    refine zw_geti hX zl_X15_99 dX15_rule_9 g ?_
    refine zw_iconst (v := (2 : Int32)) hX dX15_rule_12 (by decide) ?_
    refine zw_icmp_ne (tgt := 36) hX dX15_rule_13 (by decide) (fun c13 => ?_) (fun c13 => ?_)
    · rw [if_neg c13] at h
      refine zw_sub (lv' := [(0, .ref a0)]) (List.forall_mem_cons.mpr ⟨rfl, zs_nil⟩) ?_
      exact zt_X15_rule_J36 hX hr hR hd h
    · rw [if_pos c13] at h
      refine zw_aload_n hX dX15_rule_16 rfl ?_
      obtain ⟨v58, g, h⟩ := zb_some h
      refine zw_geti hX zl_X15_164 dX15_rule_17 g ?_
      refine zw_bipush (v := (12 : Int32)) hX dX15_rule_20 (by decide) ?_
      refine zw_icmp_eq (tgt := 36) hX dX15_rule_22 (by decide) (fun c22 => ?_) (fun c22 => ?_)
      · rw [if_pos c22] at h
        refine zw_sub (lv' := [(0, .ref a0)]) (List.forall_mem_cons.mpr ⟨rfl, zs_nil⟩) ?_
        exact zt_X15_rule_J36 hX hr hR hd h
      · rw [if_neg c22] at h
        refine zw_aload_n hX dX15_rule_25 rfl ?_
        refine zw_aload_n hX dX15_rule_26 rfl ?_
        obtain ⟨w59, g, h⟩ := zb_some h
        refine zw_getl hX zl_X15_102 dX15_rule_27 g ?_
        obtain ⟨_, gi, h⟩ := zb_some h
        obtain ⟨r62, g, h⟩ := zb_some h
        refine zc_Vi (as := [.long w59]) hX gi (zt_X15_isNew (d := d - 1) (by omega) g) zl_X15_167 rfl dX15_rule_30 ⟨rfl, rfl, Nat.le_of_ble_eq_true rfl⟩ ⟨by omega, by omega⟩ ?_
        refine zw_if_ne (tgt := 40) hX dX15_rule_33 (by decide) (fun c33 => ?_) (fun c33 => ?_)
        · rw [if_neg c33] at h
          refine zw_iconst (v := (0 : Int32)) hX dX15_rule_40 (by decide) ?_
          refine zw_sub (lv' := [(0, .ref a0)]) (List.forall_mem_cons.mpr ⟨rfl, zs_nil⟩) ?_
          exact zt_X15_rule_J41 hX hr hR hd h
        · rw [if_pos c33] at h
          refine zw_sub (lv' := [(0, .ref a0)]) (List.forall_mem_cons.mpr ⟨rfl, zs_nil⟩) ?_
          exact zt_X15_rule_J36 hX hr hR hd h
def zf_X15_adopt_L26 (N : Nat) : Nat → Nat → Int32 → zm_S → Option ((Unit × zm_S) ⊕ ((Unit) × zm_S))
  | 0, _, _, _ => none
  | n + 1, a0, i1, S => (zg_i S a0 15 5).bind (fun v7 => if v7 ≤ i1 then some (.inr ((), S)) else (zg_r S a0 15 6).bind (fun b8 => (zg_r S a0 15 6).bind (fun b9 => (za_l S b9 ((12 : Int32) + i1)).bind (fun w10 => (zs_l S b8 i1 w10).bind (fun S11 => (zg_r S11 a0 15 7).bind (fun b12 => (zg_r S11 a0 15 7).bind (fun b13 => (za_x S11 0 b13 ((12 : Int32) + i1)).bind (fun v14 => (zs_i S11 b12 i1 v14).bind (fun S15 => (zg_r S15 a0 15 8).bind (fun b16 => (zg_r S15 a0 15 8).bind (fun b17 => (za_x S15 0 b17 ((12 : Int32) + i1)).bind (fun v18 => (zs_i S15 b16 i1 v18).bind (fun S19 => (zg_r S19 a0 15 9).bind (fun b20 => (zg_r S19 a0 15 9).bind (fun b21 => (za_x S19 0 b21 ((12 : Int32) + i1)).bind (fun v22 => (zs_i S19 b20 i1 v22).bind (fun S23 => zf_X15_adopt_L26 N n a0 (i1 + (1 : Int32)) S23)))))))))))))))))
set_option maxHeartbeats 4000000 in
set_option maxRecDepth 100000 in
theorem zt_X15_adopt_L26 {p : Program} {l : Launch} {e : Env} {R : Room} {s : State} {m : MethodId} {args : Array Value} {below : List Frame} {meth : Method} {c : Code} {V : zm_V} {mc ms d rc rs : Nat} (hX : zm_X p R s m args meth c RX15 "adopt" cX15_adopt 2 zk_E V mc ms) (hr : meth.sig.returnType = none) (hR : R.frames = d ∧ R.locals = 64 * d) (hd : 1 ≤ d) {N : Nat} {res : (Unit × zm_S) ⊕ ((Unit) × zm_S)} {out : (Unit × zm_S)} (a0 : Nat) (hf : ∀ o, res = .inl o → o = out) (hk : ∀ (S' : zm_S), res = .inr ((), S') → zw p l e R s m args below meth c (vx_MQ below (zm_Qc zk_E V (zo_v out)) (zm_XC zk_E V zo_x) args s mc ms (fun q => V.2.2.2.1 ≤ q)) 2 zk_E V mc ms 100 [(0, .ref a0)] [] S' rc rs) : ∀ (n : Nat) (i1 : Int32) (S : zm_S), zf_X15_adopt_L26 N n a0 i1 S = some res → zw p l e R s m args below meth c (vx_MQ below (zm_Qc zk_E V (zo_v out)) (zm_XC zk_E V zo_x) args s mc ms (fun q => V.2.2.2.1 ≤ q)) 2 zk_E V mc ms 26 [(0, .ref a0), (1, .int i1)] [] S rc rs := by
  intro n
  induction n with
  | zero => intro i1 S h; cases h
  | succ n ih =>
    intro i1 S h
    rw [zf_X15_adopt_L26] at h
    refine zw_iload_n hX dX15_adopt_26 rfl ?_
    refine zw_aload_n hX dX15_adopt_27 rfl ?_
    obtain ⟨v7, g, h⟩ := zb_some h
    refine zw_geti hX zl_X15_174 dX15_adopt_28 g ?_
    refine zw_icmp_ge (tgt := 100) hX dX15_adopt_31 (by decide) (fun c31 => ?_) (fun c31 => ?_)
    · rw [if_pos c31] at h
      refine zw_sub (lv' := [(0, .ref a0)]) (List.forall_mem_cons.mpr ⟨rfl, zs_nil⟩) ?_
      exact hk  _ (Option.some.inj h).symm
    · rw [if_neg c31] at h
      refine zw_aload_n hX dX15_adopt_34 rfl ?_
      obtain ⟨b8, g, h⟩ := zb_some h
      refine zw_getr hX zl_X15_20 dX15_adopt_35 g ?_
      refine zw_iload_n hX dX15_adopt_38 rfl ?_
      refine zw_aload_n hX dX15_adopt_39 rfl ?_
      obtain ⟨b9, g, h⟩ := zb_some h
      refine zw_getr hX zl_X15_20 dX15_adopt_40 g ?_
      refine zw_bipush (v := (12 : Int32)) hX dX15_adopt_43 (by decide) ?_
      refine zw_iload_n hX dX15_adopt_45 rfl ?_
      refine zw_iadd hX dX15_adopt_46 ?_
      obtain ⟨w10, g, h⟩ := zb_some h
      refine zw_xl hX dX15_adopt_47 g ?_
      obtain ⟨S11, g, h⟩ := zb_some h
      refine zw_sl hX dX15_adopt_48 g ?_
      refine zw_aload_n hX dX15_adopt_49 rfl ?_
      obtain ⟨b12, g, h⟩ := zb_some h
      refine zw_getr hX zl_X15_23 dX15_adopt_50 g ?_
      refine zw_iload_n hX dX15_adopt_53 rfl ?_
      refine zw_aload_n hX dX15_adopt_54 rfl ?_
      obtain ⟨b13, g, h⟩ := zb_some h
      refine zw_getr hX zl_X15_23 dX15_adopt_55 g ?_
      refine zw_bipush (v := (12 : Int32)) hX dX15_adopt_58 (by decide) ?_
      refine zw_iload_n hX dX15_adopt_60 rfl ?_
      refine zw_iadd hX dX15_adopt_61 ?_
      obtain ⟨v14, g, h⟩ := zb_some h
      refine zw_xi hX dX15_adopt_62 g ?_
      obtain ⟨S15, g, h⟩ := zb_some h
      refine zw_si hX dX15_adopt_63 g ?_
      refine zw_aload_n hX dX15_adopt_64 rfl ?_
      obtain ⟨b16, g, h⟩ := zb_some h
      refine zw_getr hX zl_X15_26 dX15_adopt_65 g ?_
      refine zw_iload_n hX dX15_adopt_68 rfl ?_
      refine zw_aload_n hX dX15_adopt_69 rfl ?_
      obtain ⟨b17, g, h⟩ := zb_some h
      refine zw_getr hX zl_X15_26 dX15_adopt_70 g ?_
      refine zw_bipush (v := (12 : Int32)) hX dX15_adopt_73 (by decide) ?_
      refine zw_iload_n hX dX15_adopt_75 rfl ?_
      refine zw_iadd hX dX15_adopt_76 ?_
      obtain ⟨v18, g, h⟩ := zb_some h
      refine zw_xi hX dX15_adopt_77 g ?_
      obtain ⟨S19, g, h⟩ := zb_some h
      refine zw_si hX dX15_adopt_78 g ?_
      refine zw_aload_n hX dX15_adopt_79 rfl ?_
      obtain ⟨b20, g, h⟩ := zb_some h
      refine zw_getr hX zl_X15_29 dX15_adopt_80 g ?_
      refine zw_iload_n hX dX15_adopt_83 rfl ?_
      refine zw_aload_n hX dX15_adopt_84 rfl ?_
      obtain ⟨b21, g, h⟩ := zb_some h
      refine zw_getr hX zl_X15_29 dX15_adopt_85 g ?_
      refine zw_bipush (v := (12 : Int32)) hX dX15_adopt_88 (by decide) ?_
      refine zw_iload_n hX dX15_adopt_90 rfl ?_
      refine zw_iadd hX dX15_adopt_91 ?_
      obtain ⟨v22, g, h⟩ := zb_some h
      refine zw_xi hX dX15_adopt_92 g ?_
      obtain ⟨S23, g, h⟩ := zb_some h
      refine zw_si hX dX15_adopt_93 g ?_
      refine zw_iinc (v := (i1 + (1 : Int32))) hX dX15_adopt_94 rfl rfl (by decide) ?_
      refine zw_goto (tgt := 26) hX dX15_adopt_97 (by decide) ?_
      refine zw_sub (lv' := [(0, .ref a0), (1, .int (i1 + (1 : Int32)))]) (List.forall_mem_cons.mpr ⟨rfl, (List.forall_mem_cons.mpr ⟨rfl, zs_nil⟩)⟩) ?_
      exact ih _ _ h
def zf_X15_adopt_L102 (N : Nat) : Nat → Nat → Int32 → zm_S → Option ((Unit × zm_S) ⊕ ((Unit) × zm_S))
  | 0, _, _, _ => none
  | n + 1, a0, i1, S => (zg_i S a0 15 10).bind (fun v25 => if v25 ≤ i1 then some (.inr ((), S)) else (zg_r S a0 15 11).bind (fun b26 => (zg_r S a0 15 11).bind (fun b27 => (za_x S 0 b27 ((60 : Int32) + i1)).bind (fun v28 => (zs_i S b26 i1 v28).bind (fun S29 => (zg_r S29 a0 15 12).bind (fun b30 => (zg_r S29 a0 15 12).bind (fun b31 => (za_x S29 0 b31 ((60 : Int32) + i1)).bind (fun v32 => (zs_i S29 b30 i1 v32).bind (fun S33 => (zg_r S33 a0 15 13).bind (fun b34 => (zg_r S33 a0 15 13).bind (fun b35 => (za_x S33 0 b35 ((60 : Int32) + i1)).bind (fun v36 => (zs_i S33 b34 i1 v36).bind (fun S37 => (zg_r S37 a0 15 14).bind (fun b38 => (zg_r S37 a0 15 14).bind (fun b39 => (za_x S37 0 b39 ((60 : Int32) + i1)).bind (fun v40 => (zs_i S37 b38 i1 v40).bind (fun S41 => zf_X15_adopt_L102 N n a0 (i1 + (1 : Int32)) S41)))))))))))))))))
set_option maxHeartbeats 4000000 in
set_option maxRecDepth 100000 in
theorem zt_X15_adopt_L102 {p : Program} {l : Launch} {e : Env} {R : Room} {s : State} {m : MethodId} {args : Array Value} {below : List Frame} {meth : Method} {c : Code} {V : zm_V} {mc ms d rc rs : Nat} (hX : zm_X p R s m args meth c RX15 "adopt" cX15_adopt 2 zk_E V mc ms) (hr : meth.sig.returnType = none) (hR : R.frames = d ∧ R.locals = 64 * d) (hd : 1 ≤ d) {N : Nat} {res : (Unit × zm_S) ⊕ ((Unit) × zm_S)} {out : (Unit × zm_S)} (a0 : Nat) (hf : ∀ o, res = .inl o → o = out) (hk : ∀ (S' : zm_S), res = .inr ((), S') → zw p l e R s m args below meth c (vx_MQ below (zm_Qc zk_E V (zo_v out)) (zm_XC zk_E V zo_x) args s mc ms (fun q => V.2.2.2.1 ≤ q)) 2 zk_E V mc ms 176 [(0, .ref a0)] [] S' rc rs) : ∀ (n : Nat) (i1 : Int32) (S : zm_S), zf_X15_adopt_L102 N n a0 i1 S = some res → zw p l e R s m args below meth c (vx_MQ below (zm_Qc zk_E V (zo_v out)) (zm_XC zk_E V zo_x) args s mc ms (fun q => V.2.2.2.1 ≤ q)) 2 zk_E V mc ms 102 [(0, .ref a0), (1, .int i1)] [] S rc rs := by
  intro n
  induction n with
  | zero => intro i1 S h; cases h
  | succ n ih =>
    intro i1 S h
    rw [zf_X15_adopt_L102] at h
    refine zw_iload_n hX dX15_adopt_102 rfl ?_
    refine zw_aload_n hX dX15_adopt_103 rfl ?_
    obtain ⟨v25, g, h⟩ := zb_some h
    refine zw_geti hX zl_X15_177 dX15_adopt_104 g ?_
    refine zw_icmp_ge (tgt := 176) hX dX15_adopt_107 (by decide) (fun c107 => ?_) (fun c107 => ?_)
    · rw [if_pos c107] at h
      refine zw_sub (lv' := [(0, .ref a0)]) (List.forall_mem_cons.mpr ⟨rfl, zs_nil⟩) ?_
      exact hk  _ (Option.some.inj h).symm
    · rw [if_neg c107] at h
      refine zw_aload_n hX dX15_adopt_110 rfl ?_
      obtain ⟨b26, g, h⟩ := zb_some h
      refine zw_getr hX zl_X15_32 dX15_adopt_111 g ?_
      refine zw_iload_n hX dX15_adopt_114 rfl ?_
      refine zw_aload_n hX dX15_adopt_115 rfl ?_
      obtain ⟨b27, g, h⟩ := zb_some h
      refine zw_getr hX zl_X15_32 dX15_adopt_116 g ?_
      refine zw_bipush (v := (60 : Int32)) hX dX15_adopt_119 (by decide) ?_
      refine zw_iload_n hX dX15_adopt_121 rfl ?_
      refine zw_iadd hX dX15_adopt_122 ?_
      obtain ⟨v28, g, h⟩ := zb_some h
      refine zw_xi hX dX15_adopt_123 g ?_
      obtain ⟨S29, g, h⟩ := zb_some h
      refine zw_si hX dX15_adopt_124 g ?_
      refine zw_aload_n hX dX15_adopt_125 rfl ?_
      obtain ⟨b30, g, h⟩ := zb_some h
      refine zw_getr hX zl_X15_35 dX15_adopt_126 g ?_
      refine zw_iload_n hX dX15_adopt_129 rfl ?_
      refine zw_aload_n hX dX15_adopt_130 rfl ?_
      obtain ⟨b31, g, h⟩ := zb_some h
      refine zw_getr hX zl_X15_35 dX15_adopt_131 g ?_
      refine zw_bipush (v := (60 : Int32)) hX dX15_adopt_134 (by decide) ?_
      refine zw_iload_n hX dX15_adopt_136 rfl ?_
      refine zw_iadd hX dX15_adopt_137 ?_
      obtain ⟨v32, g, h⟩ := zb_some h
      refine zw_xi hX dX15_adopt_138 g ?_
      obtain ⟨S33, g, h⟩ := zb_some h
      refine zw_si hX dX15_adopt_139 g ?_
      refine zw_aload_n hX dX15_adopt_140 rfl ?_
      obtain ⟨b34, g, h⟩ := zb_some h
      refine zw_getr hX zl_X15_38 dX15_adopt_141 g ?_
      refine zw_iload_n hX dX15_adopt_144 rfl ?_
      refine zw_aload_n hX dX15_adopt_145 rfl ?_
      obtain ⟨b35, g, h⟩ := zb_some h
      refine zw_getr hX zl_X15_38 dX15_adopt_146 g ?_
      refine zw_bipush (v := (60 : Int32)) hX dX15_adopt_149 (by decide) ?_
      refine zw_iload_n hX dX15_adopt_151 rfl ?_
      refine zw_iadd hX dX15_adopt_152 ?_
      obtain ⟨v36, g, h⟩ := zb_some h
      refine zw_xi hX dX15_adopt_153 g ?_
      obtain ⟨S37, g, h⟩ := zb_some h
      refine zw_si hX dX15_adopt_154 g ?_
      refine zw_aload_n hX dX15_adopt_155 rfl ?_
      obtain ⟨b38, g, h⟩ := zb_some h
      refine zw_getr hX zl_X15_41 dX15_adopt_156 g ?_
      refine zw_iload_n hX dX15_adopt_159 rfl ?_
      refine zw_aload_n hX dX15_adopt_160 rfl ?_
      obtain ⟨b39, g, h⟩ := zb_some h
      refine zw_getr hX zl_X15_41 dX15_adopt_161 g ?_
      refine zw_bipush (v := (60 : Int32)) hX dX15_adopt_164 (by decide) ?_
      refine zw_iload_n hX dX15_adopt_166 rfl ?_
      refine zw_iadd hX dX15_adopt_167 ?_
      obtain ⟨v40, g, h⟩ := zb_some h
      refine zw_xi hX dX15_adopt_168 g ?_
      obtain ⟨S41, g, h⟩ := zb_some h
      refine zw_si hX dX15_adopt_169 g ?_
      refine zw_iinc (v := (i1 + (1 : Int32))) hX dX15_adopt_170 rfl rfl (by decide) ?_
      refine zw_goto (tgt := 102) hX dX15_adopt_173 (by decide) ?_
      refine zw_sub (lv' := [(0, .ref a0), (1, .int (i1 + (1 : Int32)))]) (List.forall_mem_cons.mpr ⟨rfl, (List.forall_mem_cons.mpr ⟨rfl, zs_nil⟩)⟩) ?_
      exact ih _ _ h
def zf_X15_adopt_L178 (N : Nat) : Nat → Nat → Int32 → zm_S → Option ((Unit × zm_S) ⊕ ((Unit) × zm_S))
  | 0, _, _, _ => none
  | n + 1, a0, i1, S => (zg_i S a0 15 15).bind (fun v43 => if v43 ≤ i1 then some (.inr ((), S)) else (zg_r S a0 15 16).bind (fun b44 => (zg_r S a0 15 16).bind (fun b45 => (za_x S 0 b45 ((400 : Int32) + i1)).bind (fun v46 => (zs_i S b44 i1 v46).bind (fun S47 => (zg_r S47 a0 15 17).bind (fun b48 => (zg_r S47 a0 15 17).bind (fun b49 => (za_l S47 b49 ((400 : Int32) + i1)).bind (fun w50 => (zs_l S47 b48 i1 w50).bind (fun S51 => zf_X15_adopt_L178 N n a0 (i1 + (1 : Int32)) S51)))))))))
set_option maxHeartbeats 4000000 in
set_option maxRecDepth 100000 in
theorem zt_X15_adopt_L178 {p : Program} {l : Launch} {e : Env} {R : Room} {s : State} {m : MethodId} {args : Array Value} {below : List Frame} {meth : Method} {c : Code} {V : zm_V} {mc ms d rc rs : Nat} (hX : zm_X p R s m args meth c RX15 "adopt" cX15_adopt 2 zk_E V mc ms) (hr : meth.sig.returnType = none) (hR : R.frames = d ∧ R.locals = 64 * d) (hd : 1 ≤ d) {N : Nat} {res : (Unit × zm_S) ⊕ ((Unit) × zm_S)} {out : (Unit × zm_S)} (a0 : Nat) (hf : ∀ o, res = .inl o → o = out) (hk : ∀ (S' : zm_S), res = .inr ((), S') → zw p l e R s m args below meth c (vx_MQ below (zm_Qc zk_E V (zo_v out)) (zm_XC zk_E V zo_x) args s mc ms (fun q => V.2.2.2.1 ≤ q)) 2 zk_E V mc ms 224 [] [] S' rc rs) : ∀ (n : Nat) (i1 : Int32) (S : zm_S), zf_X15_adopt_L178 N n a0 i1 S = some res → zw p l e R s m args below meth c (vx_MQ below (zm_Qc zk_E V (zo_v out)) (zm_XC zk_E V zo_x) args s mc ms (fun q => V.2.2.2.1 ≤ q)) 2 zk_E V mc ms 178 [(0, .ref a0), (1, .int i1)] [] S rc rs := by
  intro n
  induction n with
  | zero => intro i1 S h; cases h
  | succ n ih =>
    intro i1 S h
    rw [zf_X15_adopt_L178] at h
    refine zw_iload_n hX dX15_adopt_178 rfl ?_
    refine zw_aload_n hX dX15_adopt_179 rfl ?_
    obtain ⟨v43, g, h⟩ := zb_some h
    refine zw_geti hX zl_X15_180 dX15_adopt_180 g ?_
    refine zw_icmp_ge (tgt := 224) hX dX15_adopt_183 (by decide) (fun c183 => ?_) (fun c183 => ?_)
    · rw [if_pos c183] at h
      refine zw_sub (lv' := []) zs_nil ?_
      exact hk  _ (Option.some.inj h).symm
    · rw [if_neg c183] at h
      refine zw_aload_n hX dX15_adopt_186 rfl ?_
      obtain ⟨b44, g, h⟩ := zb_some h
      refine zw_getr hX zl_X15_44 dX15_adopt_187 g ?_
      refine zw_iload_n hX dX15_adopt_190 rfl ?_
      refine zw_aload_n hX dX15_adopt_191 rfl ?_
      obtain ⟨b45, g, h⟩ := zb_some h
      refine zw_getr hX zl_X15_44 dX15_adopt_192 g ?_
      refine zw_sipush (v := (400 : Int32)) hX dX15_adopt_195 (by decide) ?_
      refine zw_iload_n hX dX15_adopt_198 rfl ?_
      refine zw_iadd hX dX15_adopt_199 ?_
      obtain ⟨v46, g, h⟩ := zb_some h
      refine zw_xi hX dX15_adopt_200 g ?_
      obtain ⟨S47, g, h⟩ := zb_some h
      refine zw_si hX dX15_adopt_201 g ?_
      refine zw_aload_n hX dX15_adopt_202 rfl ?_
      obtain ⟨b48, g, h⟩ := zb_some h
      refine zw_getr hX zl_X15_47 dX15_adopt_203 g ?_
      refine zw_iload_n hX dX15_adopt_206 rfl ?_
      refine zw_aload_n hX dX15_adopt_207 rfl ?_
      obtain ⟨b49, g, h⟩ := zb_some h
      refine zw_getr hX zl_X15_47 dX15_adopt_208 g ?_
      refine zw_sipush (v := (400 : Int32)) hX dX15_adopt_211 (by decide) ?_
      refine zw_iload_n hX dX15_adopt_214 rfl ?_
      refine zw_iadd hX dX15_adopt_215 ?_
      obtain ⟨w50, g, h⟩ := zb_some h
      refine zw_xl hX dX15_adopt_216 g ?_
      obtain ⟨S51, g, h⟩ := zb_some h
      refine zw_sl hX dX15_adopt_217 g ?_
      refine zw_iinc (v := (i1 + (1 : Int32))) hX dX15_adopt_218 rfl rfl (by decide) ?_
      refine zw_goto (tgt := 178) hX dX15_adopt_221 (by decide) ?_
      refine zw_sub (lv' := [(0, .ref a0), (1, .int (i1 + (1 : Int32)))]) (List.forall_mem_cons.mpr ⟨rfl, (List.forall_mem_cons.mpr ⟨rfl, zs_nil⟩)⟩) ?_
      exact ih _ _ h
def zf_X15_adopt (N : Nat) (a0 : Nat) (S : zm_S) : Option (Unit × zm_S) := (zg_i S a0 15 32).bind (fun v1 => (zp S a0 15 5 (.int v1)).bind (fun S2 => (zg_i S2 a0 15 33).bind (fun v3 => (zp S2 a0 15 10 (.int v3)).bind (fun S4 => (zg_i S4 a0 15 34).bind (fun v5 => (zp S4 a0 15 15 (.int v5)).bind (fun S6 => (zf_X15_adopt_L26 N N a0 (0 : Int32) S6).bind (fun r => match r with | .inl o => some o | .inr (_, S24) => (zf_X15_adopt_L102 N N a0 (0 : Int32) S24).bind (fun r => match r with | .inl o => some o | .inr (_, S42) => (zf_X15_adopt_L178 N N a0 (0 : Int32) S42).bind (fun r => match r with | .inl o => some o | .inr (_, S52) => some ((), S52))))))))))
set_option maxHeartbeats 4000000 in
set_option maxRecDepth 100000 in
theorem zt_X15_adopt {l : Launch} {V : zm_V} {N : Nat} {S : zm_S} {out : (Unit × zm_S)} {d : Nat} {a0 : Nat} (hd : 1 ≤ d) (h : zf_X15_adopt N a0 S = some out) : zm_Met l zk_E V yX15_adopt (.code yX15_adopt cX15_adopt 2 none) d [.ref a0] S 0 0 (zo_v out) zo_x := by
  refine zm_of (by decide +kernel) (Nat.le_of_ble_eq_true rfl) ?_
  intro p e R s m args below meth c hRR hX hr hxt
  have hR : R.frames = d ∧ R.locals = 64 * d := by rw [hRR]; exact ⟨rfl, rfl⟩
  have hX : zm_X p R s m args meth c RX15 "adopt" cX15_adopt 2 zk_E V 0 0 := hX
  unfold zf_X15_adopt at h
  refine zw_sub (lv' := [(0, .ref a0)]) (List.forall_mem_cons.mpr ⟨rfl, zs_nil⟩) ?_
  refine zw_aload_n hX dX15_adopt_0 rfl ?_
  refine zw_aload_n hX dX15_adopt_1 rfl ?_
  obtain ⟨v1, g, h⟩ := zb_some h
  refine zw_geti hX zl_X15_164 dX15_adopt_2 g ?_
  obtain ⟨S2, g, h⟩ := zb_some h
  refine zw_putv hX zl_X15_174 zt_15_5 dX15_adopt_5 rfl rfl g ?_
  refine zw_aload_n hX dX15_adopt_8 rfl ?_
  refine zw_aload_n hX dX15_adopt_9 rfl ?_
  obtain ⟨v3, g, h⟩ := zb_some h
  refine zw_geti hX zl_X15_155 dX15_adopt_10 g ?_
  obtain ⟨S4, g, h⟩ := zb_some h
  refine zw_putv hX zl_X15_177 zt_15_10 dX15_adopt_13 rfl rfl g ?_
  refine zw_aload_n hX dX15_adopt_16 rfl ?_
  refine zw_aload_n hX dX15_adopt_17 rfl ?_
  obtain ⟨v5, g, h⟩ := zb_some h
  refine zw_geti hX zl_X15_134 dX15_adopt_18 g ?_
  obtain ⟨S6, g, h⟩ := zb_some h
  refine zw_putv hX zl_X15_180 zt_15_15 dX15_adopt_21 rfl rfl g ?_
  refine zw_iconst (v := (0 : Int32)) hX dX15_adopt_24 (by decide) ?_
  refine zw_istore_n hX dX15_adopt_25 (by decide) ?_
  obtain ⟨r, g, h⟩ := zb_some h
  refine zw_sub (lv' := [(0, .ref a0), (1, .int (0 : Int32))]) (List.forall_mem_cons.mpr ⟨rfl, (List.forall_mem_cons.mpr ⟨rfl, zs_nil⟩)⟩) ?_
  refine zt_X15_adopt_L26 hX hr hR hd (res := r) (out := out) a0 ?_ ?_ N _ _ g
  · intro o ho
    subst ho
    exact Option.some.inj h
  · intro  S24 hx
    subst hx
    try dsimp only at h
    refine zw_iconst (v := (0 : Int32)) hX dX15_adopt_100 (by decide) ?_
    refine zw_istore_n hX dX15_adopt_101 (by decide) ?_
    obtain ⟨r, g, h⟩ := zb_some h
    refine zw_sub (lv' := [(0, .ref a0), (1, .int (0 : Int32))]) (List.forall_mem_cons.mpr ⟨rfl, (List.forall_mem_cons.mpr ⟨rfl, zs_nil⟩)⟩) ?_
    refine zt_X15_adopt_L102 hX hr hR hd (res := r) (out := out) a0 ?_ ?_ N _ _ g
    · intro o ho
      subst ho
      exact Option.some.inj h
    · intro  S42 hx
      subst hx
      try dsimp only at h
      refine zw_iconst (v := (0 : Int32)) hX dX15_adopt_176 (by decide) ?_
      refine zw_istore_n hX dX15_adopt_177 (by decide) ?_
      obtain ⟨r, g, h⟩ := zb_some h
      refine zw_sub (lv' := [(0, .ref a0), (1, .int (0 : Int32))]) (List.forall_mem_cons.mpr ⟨rfl, (List.forall_mem_cons.mpr ⟨rfl, zs_nil⟩)⟩) ?_
      refine zt_X15_adopt_L178 hX hr hR hd (res := r) (out := out) a0 ?_ ?_ N _ _ g
      · intro o ho
        subst ho
        exact Option.some.inj h
      · intro  S52 hx
        subst hx
        try dsimp only at h
        obtain rfl := Option.some.inj h
        exact zw_vret hX hr dX15_adopt_224 ⟨rfl, rfl⟩
def zf_X15_read_J67 (N : Nat) (k : Nat → zm_S → Option ((Int32 × zm_S) ⊕ ((Unit) × zm_S))) (a0 : Nat) (t0 : Nat) (t1 : Int32) (S : zm_S) : Option ((Int32 × zm_S) ⊕ ((Unit) × zm_S)) := (zi S t0 15).bind (fun _ => (zf_X15_take N t0 t1 S).bind (fun r18 => (zg_i r18.2 a0 15 31).bind (fun v19 => if v19 = 0 then (zg_i r18.2 a0 15 28).bind (fun v20 => if v20 = 0 then k a0 r18.2 else (zi r18.2 a0 15).bind (fun _ => (zf_X15_rule N a0 r18.2).bind (fun r23 => k a0 r23.2))) else k a0 r18.2)))
set_option maxHeartbeats 4000000 in
set_option maxRecDepth 100000 in
theorem zt_X15_read_J67 {p : Program} {l : Launch} {e : Env} {R : Room} {s : State} {m : MethodId} {args : Array Value} {below : List Frame} {meth : Method} {c : Code} {V : zm_V} {mc ms d rc rs : Nat} (hX : zm_X p R s m args meth c RX15 "read" cX15_read 1 zk_E V mc ms) (hr : meth.sig.returnType = (some .int)) (hR : R.frames = d ∧ R.locals = 64 * d) (hd : 7 ≤ d) {N : Nat} {k : Nat → zm_S → Option ((Int32 × zm_S) ⊕ ((Unit) × zm_S))} {a0 : Nat} {t0 : Nat} {t1 : Int32} {res : (Int32 × zm_S) ⊕ ((Unit) × zm_S)} {out : (Int32 × zm_S)}   (hf : ∀ o, res = .inl o → o = out) (hk : ∀ (S' : zm_S), res = .inr ((), S') → zw p l e R s m args below meth c (vx_MQ below (zm_Qc zk_E V (zo_i out)) (zm_XC zk_E V zo_x) args s mc ms (fun q => V.2.2.2.1 ≤ q)) 1 zk_E V mc ms 91 [(0, .ref a0)] [] S' rc rs) (hrec : ∀  (S : zm_S), k a0 S = some res → zw p l e R s m args below meth c (vx_MQ below (zm_Qc zk_E V (zo_i out)) (zm_XC zk_E V zo_x) args s mc ms (fun q => V.2.2.2.1 ≤ q)) 1 zk_E V mc ms 38 [(0, .ref a0)] [] S rc rs) {S : zm_S} (h : zf_X15_read_J67 N k a0 t0 t1 S = some res) : zw p l e R s m args below meth c (vx_MQ below (zm_Qc zk_E V (zo_i out)) (zm_XC zk_E V zo_x) args s mc ms (fun q => V.2.2.2.1 ≤ q)) 1 zk_E V mc ms 67 [(0, .ref a0)] [.int t1, .ref t0] S rc rs := by
  unfold zf_X15_read_J67 at h
  obtain ⟨_, gi, h⟩ := zb_some h
  obtain ⟨r18, g, h⟩ := zb_some h
  refine zc_Vv (as := [.int t1]) hX gi (zt_X15_take (d := d - 1) (by omega) g) zl_X15_147 rfl dX15_read_67 ⟨rfl, rfl, Nat.le_of_ble_eq_true rfl⟩ ⟨by omega, by omega⟩ ?_
  refine zw_aload_n hX dX15_read_70 rfl ?_
  obtain ⟨v19, g, h⟩ := zb_some h
  refine zw_geti hX zl_X15_121 dX15_read_71 g ?_
  refine zw_if_ne (tgt := 38) hX dX15_read_74 (by decide) (fun c74 => ?_) (fun c74 => ?_)
  · rw [if_neg c74] at h
    refine zw_sub (lv' := [(0, .ref a0)]) (List.forall_mem_cons.mpr ⟨rfl, zs_nil⟩) ?_
    exact hrec  _ h
  · rw [if_pos c74] at h
    refine zw_aload_n hX dX15_read_77 rfl ?_
    obtain ⟨v20, g, h⟩ := zb_some h
    refine zw_geti hX zl_X15_99 dX15_read_78 g ?_
    refine zw_if_eq (tgt := 38) hX dX15_read_81 (by decide) (fun c81 => ?_) (fun c81 => ?_)
    · rw [if_pos c81] at h
      refine zw_sub (lv' := [(0, .ref a0)]) (List.forall_mem_cons.mpr ⟨rfl, zs_nil⟩) ?_
      exact hrec  _ h
    · rw [if_neg c81] at h
      refine zw_aload_n hX dX15_read_84 rfl ?_
      obtain ⟨_, gi, h⟩ := zb_some h
      obtain ⟨r23, g, h⟩ := zb_some h
      refine zc_Vv (as := []) hX gi (zt_X15_rule (d := d - 1) (by omega) g) zl_X15_183 rfl dX15_read_85 ⟨rfl, rfl, Nat.le_of_ble_eq_true rfl⟩ ⟨by omega, by omega⟩ ?_
      refine zw_goto (tgt := 38) hX dX15_read_88 (by decide) ?_
      refine zw_sub (lv' := [(0, .ref a0)]) (List.forall_mem_cons.mpr ⟨rfl, zs_nil⟩) ?_
      exact hrec  _ h
def zf_X15_read_L38 (N : Nat) : Nat → Nat → zm_S → Option ((Int32 × zm_S) ⊕ ((Unit) × zm_S))
  | 0, _, _ => none
  | n + 1, a0, S => (zg_i S a0 15 31).bind (fun v13 => if v13 = 0 then (zg_i S a0 15 28).bind (fun v14 => if v14 = 0 then some (.inr ((), S)) else (zg_i S a0 15 28).bind (fun v15 => if v15 = (59 : Int32) then zf_X15_read_J67 N (zf_X15_read_L38 N n) a0 a0 (1 : Int32) S else zf_X15_read_J67 N (zf_X15_read_L38 N n) a0 a0 (0 : Int32) S)) else some (.inr ((), S)))
set_option maxHeartbeats 4000000 in
set_option maxRecDepth 100000 in
theorem zt_X15_read_L38 {p : Program} {l : Launch} {e : Env} {R : Room} {s : State} {m : MethodId} {args : Array Value} {below : List Frame} {meth : Method} {c : Code} {V : zm_V} {mc ms d rc rs : Nat} (hX : zm_X p R s m args meth c RX15 "read" cX15_read 1 zk_E V mc ms) (hr : meth.sig.returnType = (some .int)) (hR : R.frames = d ∧ R.locals = 64 * d) (hd : 7 ≤ d) {N : Nat} {res : (Int32 × zm_S) ⊕ ((Unit) × zm_S)} {out : (Int32 × zm_S)} (a0 : Nat) (hf : ∀ o, res = .inl o → o = out) (hk : ∀ (S' : zm_S), res = .inr ((), S') → zw p l e R s m args below meth c (vx_MQ below (zm_Qc zk_E V (zo_i out)) (zm_XC zk_E V zo_x) args s mc ms (fun q => V.2.2.2.1 ≤ q)) 1 zk_E V mc ms 91 [(0, .ref a0)] [] S' rc rs) : ∀ (n : Nat)  (S : zm_S), zf_X15_read_L38 N n a0 S = some res → zw p l e R s m args below meth c (vx_MQ below (zm_Qc zk_E V (zo_i out)) (zm_XC zk_E V zo_x) args s mc ms (fun q => V.2.2.2.1 ≤ q)) 1 zk_E V mc ms 38 [(0, .ref a0)] [] S rc rs := by
  intro n
  induction n with
  | zero => intro  S h; cases h
  | succ n ih =>
    intro  S h
    rw [zf_X15_read_L38] at h
    refine zw_aload_n hX dX15_read_38 rfl ?_
    obtain ⟨v13, g, h⟩ := zb_some h
    refine zw_geti hX zl_X15_121 dX15_read_39 g ?_
    refine zw_if_ne (tgt := 91) hX dX15_read_42 (by decide) (fun c42 => ?_) (fun c42 => ?_)
    · rw [if_neg c42] at h
      refine zw_sub (lv' := [(0, .ref a0)]) (List.forall_mem_cons.mpr ⟨rfl, zs_nil⟩) ?_
      exact hk  _ (Option.some.inj h).symm
    · rw [if_pos c42] at h
      refine zw_aload_n hX dX15_read_45 rfl ?_
      obtain ⟨v14, g, h⟩ := zb_some h
      refine zw_geti hX zl_X15_99 dX15_read_46 g ?_
      refine zw_if_eq (tgt := 91) hX dX15_read_49 (by decide) (fun c49 => ?_) (fun c49 => ?_)
      · rw [if_pos c49] at h
        refine zw_sub (lv' := [(0, .ref a0)]) (List.forall_mem_cons.mpr ⟨rfl, zs_nil⟩) ?_
        exact hk  _ (Option.some.inj h).symm
      · rw [if_neg c49] at h
        refine zw_aload_n hX dX15_read_52 rfl ?_
        refine zw_aload_n hX dX15_read_53 rfl ?_
        obtain ⟨v15, g, h⟩ := zb_some h
        refine zw_geti hX zl_X15_99 dX15_read_54 g ?_
        refine zw_bipush (v := (59 : Int32)) hX dX15_read_57 (by decide) ?_
        refine zw_icmp_ne (tgt := 66) hX dX15_read_59 (by decide) (fun c59 => ?_) (fun c59 => ?_)
        · rw [if_neg c59] at h
          refine zw_iconst (v := (0 : Int32)) hX dX15_read_66 (by decide) ?_
          refine zw_sub (lv' := [(0, .ref a0)]) (List.forall_mem_cons.mpr ⟨rfl, zs_nil⟩) ?_
          exact zt_X15_read_J67 hX hr hR hd hf hk ih h
        · rw [if_pos c59] at h
          refine zw_iconst (v := (1 : Int32)) hX dX15_read_62 (by decide) ?_
          refine zw_goto (tgt := 67) hX dX15_read_63 (by decide) ?_
          refine zw_sub (lv' := [(0, .ref a0)]) (List.forall_mem_cons.mpr ⟨rfl, zs_nil⟩) ?_
          exact zt_X15_read_J67 hX hr hR hd hf hk ih h
def zf_X15_read_J91 (N : Nat) (a0 : Nat) (S : zm_S) : Option (Int32 × zm_S) := (zg_i S a0 15 31).bind (fun v25 => if v25 = 0 then (zi S a0 15).bind (fun _ => (zf_X15_adopt N a0 S).bind (fun r28 => (zp r28.2 a0 15 1 (.int (0 : Int32))).bind (fun S29 => (zp S29 a0 15 18 (.int (-1 : Int32))).bind (fun S30 => (zg_i S30 a0 15 5).bind (fun v31 => some (v31, S30)))))) else (zg_i S a0 15 26).bind (fun v32 => some (((-1 : Int32) - v32), S)))
set_option maxHeartbeats 4000000 in
set_option maxRecDepth 100000 in
theorem zt_X15_read_J91 {p : Program} {l : Launch} {e : Env} {R : Room} {s : State} {m : MethodId} {args : Array Value} {below : List Frame} {meth : Method} {c : Code} {V : zm_V} {mc ms d rc rs : Nat} (hX : zm_X p R s m args meth c RX15 "read" cX15_read 1 zk_E V mc ms) (hr : meth.sig.returnType = (some .int)) (hR : R.frames = d ∧ R.locals = 64 * d) (hd : 7 ≤ d) {N : Nat} {a0 : Nat} {out : (Int32 × zm_S)} {S : zm_S} (h : zf_X15_read_J91 N a0 S = some out) : zw p l e R s m args below meth c (vx_MQ below (zm_Qc zk_E V (zo_i out)) (zm_XC zk_E V zo_x) args s mc ms (fun q => V.2.2.2.1 ≤ q)) 1 zk_E V mc ms 91 [(0, .ref a0)] [] S rc rs := by
  unfold zf_X15_read_J91 at h
  refine zw_aload_n hX dX15_read_91 rfl ?_
  obtain ⟨v25, g, h⟩ := zb_some h
  refine zw_geti hX zl_X15_121 dX15_read_92 g ?_
  refine zw_if_eq (tgt := 105) hX dX15_read_95 (by decide) (fun c95 => ?_) (fun c95 => ?_)
  · rw [if_pos c95] at h
    refine zw_aload_n hX dX15_read_105 rfl ?_
    obtain ⟨_, gi, h⟩ := zb_some h
    obtain ⟨r28, g, h⟩ := zb_some h
    refine zc_Vv (as := []) hX gi (zt_X15_adopt (d := d - 1) (by omega) g) zl_X15_186 rfl dX15_read_106 ⟨rfl, rfl, Nat.le_of_ble_eq_true rfl⟩ ⟨by omega, by omega⟩ ?_
    refine zw_aload_n hX dX15_read_109 rfl ?_
    refine zw_iconst (v := (0 : Int32)) hX dX15_read_110 (by decide) ?_
    obtain ⟨S29, g, h⟩ := zb_some h
    refine zw_putv hX zl_X15_90 zt_15_1 dX15_read_111 rfl rfl g ?_
    refine zw_aload_n hX dX15_read_114 rfl ?_
    refine zw_iconst (v := (-1 : Int32)) hX dX15_read_115 (by decide) ?_
    obtain ⟨S30, g, h⟩ := zb_some h
    refine zw_putv hX zl_X15_50 zt_15_18 dX15_read_116 rfl rfl g ?_
    refine zw_aload_n hX dX15_read_119 rfl ?_
    obtain ⟨v31, g, h⟩ := zb_some h
    refine zw_geti hX zl_X15_174 dX15_read_120 g ?_
    obtain rfl := Option.some.inj h
    exact zw_iret hX hr dX15_read_123 rfl ⟨rfl, rfl⟩
  · rw [if_neg c95] at h
    refine zw_iconst (v := (-1 : Int32)) hX dX15_read_98 (by decide) ?_
    refine zw_aload_n hX dX15_read_99 rfl ?_
    obtain ⟨v32, g, h⟩ := zb_some h
    refine zw_geti hX zl_X15_96 dX15_read_100 g ?_
    refine zw_isub hX dX15_read_103 ?_
    obtain rfl := Option.some.inj h
    exact zw_iret hX hr dX15_read_104 rfl ⟨rfl, rfl⟩
def zf_X15_read (N : Nat) (a0 : Nat) (S : zm_S) : Option (Int32 × zm_S) := (zp S a0 15 27 (.int (0 : Int32))).bind (fun S1 => (zp S1 a0 15 30 (.int (0 : Int32))).bind (fun S2 => (zp S2 a0 15 31 (.int (0 : Int32))).bind (fun S3 => (zp S3 a0 15 32 (.int (0 : Int32))).bind (fun S4 => (zp S4 a0 15 33 (.int (0 : Int32))).bind (fun S5 => (zp S5 a0 15 34 (.int (0 : Int32))).bind (fun S6 => (zi S6 a0 15).bind (fun _ => (zf_X15_step N a0 S6).bind (fun r9 => (zi r9.2 a0 15).bind (fun _ => (zf_X15_rule N a0 r9.2).bind (fun r12 => (zf_X15_read_L38 N N a0 r12.2).bind (fun r => match r with | .inl o => some o | .inr (_, S24) => zf_X15_read_J91 N a0 S24)))))))))))
set_option maxHeartbeats 4000000 in
set_option maxRecDepth 100000 in
theorem zt_X15_read {l : Launch} {V : zm_V} {N : Nat} {S : zm_S} {out : (Int32 × zm_S)} {d : Nat} {a0 : Nat} (hd : 7 ≤ d) (h : zf_X15_read N a0 S = some out) : zm_Met l zk_E V yX15_read (.code yX15_read cX15_read 1 (some .int)) d [.ref a0] S 0 0 (zo_i out) zo_x := by
  refine zm_of (by decide +kernel) (Nat.le_of_ble_eq_true rfl) ?_
  intro p e R s m args below meth c hRR hX hr hxt
  have hR : R.frames = d ∧ R.locals = 64 * d := by rw [hRR]; exact ⟨rfl, rfl⟩
  have hX : zm_X p R s m args meth c RX15 "read" cX15_read 1 zk_E V 0 0 := hX
  unfold zf_X15_read at h
  refine zw_sub (lv' := [(0, .ref a0)]) (List.forall_mem_cons.mpr ⟨rfl, zs_nil⟩) ?_
  refine zw_aload_n hX dX15_read_0 rfl ?_
  refine zw_iconst (v := (0 : Int32)) hX dX15_read_1 (by decide) ?_
  obtain ⟨S1, g, h⟩ := zb_some h
  refine zw_putv hX zl_X15_93 zt_15_27 dX15_read_2 rfl rfl g ?_
  refine zw_aload_n hX dX15_read_5 rfl ?_
  refine zw_iconst (v := (0 : Int32)) hX dX15_read_6 (by decide) ?_
  obtain ⟨S2, g, h⟩ := zb_some h
  refine zw_putv hX zl_X15_106 zt_15_30 dX15_read_7 rfl rfl g ?_
  refine zw_aload_n hX dX15_read_10 rfl ?_
  refine zw_iconst (v := (0 : Int32)) hX dX15_read_11 (by decide) ?_
  obtain ⟨S3, g, h⟩ := zb_some h
  refine zw_putv hX zl_X15_121 zt_15_31 dX15_read_12 rfl (by decide) g ?_
  refine zw_aload_n hX dX15_read_15 rfl ?_
  refine zw_iconst (v := (0 : Int32)) hX dX15_read_16 (by decide) ?_
  obtain ⟨S4, g, h⟩ := zb_some h
  refine zw_putv hX zl_X15_164 zt_15_32 dX15_read_17 rfl rfl g ?_
  refine zw_aload_n hX dX15_read_20 rfl ?_
  refine zw_iconst (v := (0 : Int32)) hX dX15_read_21 (by decide) ?_
  obtain ⟨S5, g, h⟩ := zb_some h
  refine zw_putv hX zl_X15_155 zt_15_33 dX15_read_22 rfl rfl g ?_
  refine zw_aload_n hX dX15_read_25 rfl ?_
  refine zw_iconst (v := (0 : Int32)) hX dX15_read_26 (by decide) ?_
  obtain ⟨S6, g, h⟩ := zb_some h
  refine zw_putv hX zl_X15_134 zt_15_34 dX15_read_27 rfl rfl g ?_
  refine zw_aload_n hX dX15_read_30 rfl ?_
  obtain ⟨_, gi, h⟩ := zb_some h
  obtain ⟨r9, g, h⟩ := zb_some h
  refine zc_Vv (as := []) hX gi (zt_X15_step (d := d - 1) (by omega) g) zl_X15_131 rfl dX15_read_31 ⟨rfl, rfl, Nat.le_of_ble_eq_true rfl⟩ ⟨by omega, by omega⟩ ?_
  refine zw_aload_n hX dX15_read_34 rfl ?_
  obtain ⟨_, gi, h⟩ := zb_some h
  obtain ⟨r12, g, h⟩ := zb_some h
  refine zc_Vv (as := []) hX gi (zt_X15_rule (d := d - 1) (by omega) g) zl_X15_183 rfl dX15_read_35 ⟨rfl, rfl, Nat.le_of_ble_eq_true rfl⟩ ⟨by omega, by omega⟩ ?_
  obtain ⟨r, g, h⟩ := zb_some h
  refine zw_sub (lv' := [(0, .ref a0)]) (List.forall_mem_cons.mpr ⟨rfl, zs_nil⟩) ?_
  refine zt_X15_read_L38 hX hr hR hd (res := r) (out := out) a0 ?_ ?_ N  _ g
  · intro o ho
    subst ho
    exact Option.some.inj h
  · intro  S24 hx
    subst hx
    try dsimp only at h
    refine zw_sub (lv' := [(0, .ref a0)]) (List.forall_mem_cons.mpr ⟨rfl, zs_nil⟩) ?_
    exact zt_X15_read_J91 hX hr hR hd h
def zf_X15_isName_J57 (N : Nat) (k : Int64 → Int32 → Int32 → Int32 → zm_S → Option ((Int32 × zm_S) ⊕ ((Int32 × Int32) × zm_S))) (j0 : Int64) (i2 : Int32) (i4 : Int32) (S : zm_S) : Option ((Int32 × zm_S) ⊕ ((Int32 × Int32) × zm_S)) := k j0 i2 (1 : Int32) (i4 + (-1 : Int32)) S
set_option maxHeartbeats 4000000 in
set_option maxRecDepth 100000 in
theorem zt_X15_isName_J57 {p : Program} {l : Launch} {e : Env} {R : Room} {s : State} {m : MethodId} {args : Array Value} {below : List Frame} {meth : Method} {c : Code} {V : zm_V} {mc ms d rc rs : Nat} (hX : zm_X p R s m args meth c RX15 "isName" cX15_isName 6 zk_E V mc ms) (hr : meth.sig.returnType = (some .boolean)) (hR : R.frames = d ∧ R.locals = 64 * d) (hd : 2 ≤ d) {N : Nat} {k : Int64 → Int32 → Int32 → Int32 → zm_S → Option ((Int32 × zm_S) ⊕ ((Int32 × Int32) × zm_S))} {j0 : Int64} {i2 : Int32} {i4 : Int32} {res : (Int32 × zm_S) ⊕ ((Int32 × Int32) × zm_S)} {out : (Int32 × zm_S)}   (hf : ∀ o, res = .inl o → o = out) (hk : ∀ (x2 : Int32) (x3 : Int32) (S' : zm_S), res = .inr ((x2, x3), S') → zw p l e R s m args below meth c (vx_MQ below (zm_Qc zk_E V (zo_i out)) (zm_XC zk_E V zo_x) args s mc ms (fun q => V.2.2.2.1 ≤ q)) 6 zk_E V mc ms 69 [(2, .int x2), (3, .int x3)] [] S' rc rs) (hrec : ∀ (i2' : Int32) (i3' : Int32) (i4' : Int32) (S : zm_S), k j0 i2' i3' i4' S = some res → zw p l e R s m args below meth c (vx_MQ below (zm_Qc zk_E V (zo_i out)) (zm_XC zk_E V zo_x) args s mc ms (fun q => V.2.2.2.1 ≤ q)) 6 zk_E V mc ms 8 [(0, .long j0), (2, .int i2'), (3, .int i3'), (4, .int i4')] [] S rc rs) {S : zm_S} (h : zf_X15_isName_J57 N k j0 i2 i4 S = some res) : zw p l e R s m args below meth c (vx_MQ below (zm_Qc zk_E V (zo_i out)) (zm_XC zk_E V zo_x) args s mc ms (fun q => V.2.2.2.1 ≤ q)) 6 zk_E V mc ms 57 [(0, .long j0), (2, .int i2), (4, .int i4)] [] S rc rs := by
  unfold zf_X15_isName_J57 at h
  refine zw_iconst (v := (1 : Int32)) hX dX15_isName_57 (by decide) ?_
  refine zw_goto (tgt := 62) hX dX15_isName_58 (by decide) ?_
  refine zw_istore_n hX dX15_isName_62 (by decide) ?_
  refine zw_iinc (v := (i4 + (-1 : Int32))) hX dX15_isName_63 rfl rfl (by decide) ?_
  refine zw_goto (tgt := 8) hX dX15_isName_66 (by decide) ?_
  refine zw_sub (lv' := [(0, .long j0), (2, .int i2), (3, .int (1 : Int32)), (4, .int (i4 + (-1 : Int32)))]) (List.forall_mem_cons.mpr ⟨rfl, (List.forall_mem_cons.mpr ⟨rfl, (List.forall_mem_cons.mpr ⟨rfl, (List.forall_mem_cons.mpr ⟨rfl, zs_nil⟩)⟩)⟩)⟩) ?_
  exact hrec _ _ _ _ h
def zf_X15_isName_J47 (N : Nat) (k : Int64 → Int32 → Int32 → Int32 → zm_S → Option ((Int32 × zm_S) ⊕ ((Int32 × Int32) × zm_S))) (j0 : Int64) (i3 : Int32) (i4 : Int32) (i5 : Int32) (t0 : Int32) (S : zm_S) : Option ((Int32 × zm_S) ⊕ ((Int32 × Int32) × zm_S)) := if i3 = 0 then if i5 ≤ 0 then k j0 t0 (0 : Int32) (i4 + (-1 : Int32)) S else zf_X15_isName_J57 N (k) j0 t0 i4 S else zf_X15_isName_J57 N (k) j0 t0 i4 S
set_option maxHeartbeats 4000000 in
set_option maxRecDepth 100000 in
theorem zt_X15_isName_J47 {p : Program} {l : Launch} {e : Env} {R : Room} {s : State} {m : MethodId} {args : Array Value} {below : List Frame} {meth : Method} {c : Code} {V : zm_V} {mc ms d rc rs : Nat} (hX : zm_X p R s m args meth c RX15 "isName" cX15_isName 6 zk_E V mc ms) (hr : meth.sig.returnType = (some .boolean)) (hR : R.frames = d ∧ R.locals = 64 * d) (hd : 2 ≤ d) {N : Nat} {k : Int64 → Int32 → Int32 → Int32 → zm_S → Option ((Int32 × zm_S) ⊕ ((Int32 × Int32) × zm_S))} {j0 : Int64} {i3 : Int32} {i4 : Int32} {i5 : Int32} {t0 : Int32} {res : (Int32 × zm_S) ⊕ ((Int32 × Int32) × zm_S)} {out : (Int32 × zm_S)}   (hf : ∀ o, res = .inl o → o = out) (hk : ∀ (x2 : Int32) (x3 : Int32) (S' : zm_S), res = .inr ((x2, x3), S') → zw p l e R s m args below meth c (vx_MQ below (zm_Qc zk_E V (zo_i out)) (zm_XC zk_E V zo_x) args s mc ms (fun q => V.2.2.2.1 ≤ q)) 6 zk_E V mc ms 69 [(2, .int x2), (3, .int x3)] [] S' rc rs) (hrec : ∀ (i2' : Int32) (i3' : Int32) (i4' : Int32) (S : zm_S), k j0 i2' i3' i4' S = some res → zw p l e R s m args below meth c (vx_MQ below (zm_Qc zk_E V (zo_i out)) (zm_XC zk_E V zo_x) args s mc ms (fun q => V.2.2.2.1 ≤ q)) 6 zk_E V mc ms 8 [(0, .long j0), (2, .int i2'), (3, .int i3'), (4, .int i4')] [] S rc rs) {S : zm_S} (h : zf_X15_isName_J47 N k j0 i3 i4 i5 t0 S = some res) : zw p l e R s m args below meth c (vx_MQ below (zm_Qc zk_E V (zo_i out)) (zm_XC zk_E V zo_x) args s mc ms (fun q => V.2.2.2.1 ≤ q)) 6 zk_E V mc ms 47 [(0, .long j0), (3, .int i3), (4, .int i4), (5, .int i5)] [.int t0] S rc rs := by
  unfold zf_X15_isName_J47 at h
  refine zw_istore_n hX dX15_isName_47 (by decide) ?_
  refine zw_iload_n hX dX15_isName_48 rfl ?_
  refine zw_if_ne (tgt := 57) hX dX15_isName_49 (by decide) (fun c49 => ?_) (fun c49 => ?_)
  · rw [if_neg c49] at h
    refine zw_sub (lv' := [(0, .long j0), (2, .int t0), (4, .int i4)]) (List.forall_mem_cons.mpr ⟨rfl, (List.forall_mem_cons.mpr ⟨rfl, (List.forall_mem_cons.mpr ⟨rfl, zs_nil⟩)⟩)⟩) ?_
    exact zt_X15_isName_J57 hX hr hR hd hf hk hrec h
  · rw [if_pos c49] at h
    refine zw_iload hX dX15_isName_52 rfl ?_
    refine zw_if_le (tgt := 61) hX dX15_isName_54 (by decide) (fun c54 => ?_) (fun c54 => ?_)
    · rw [if_pos c54] at h
      refine zw_iconst (v := (0 : Int32)) hX dX15_isName_61 (by decide) ?_
      refine zw_istore_n hX dX15_isName_62 (by decide) ?_
      refine zw_iinc (v := (i4 + (-1 : Int32))) hX dX15_isName_63 rfl rfl (by decide) ?_
      refine zw_goto (tgt := 8) hX dX15_isName_66 (by decide) ?_
      refine zw_sub (lv' := [(0, .long j0), (2, .int t0), (3, .int (0 : Int32)), (4, .int (i4 + (-1 : Int32)))]) (List.forall_mem_cons.mpr ⟨rfl, (List.forall_mem_cons.mpr ⟨rfl, (List.forall_mem_cons.mpr ⟨rfl, (List.forall_mem_cons.mpr ⟨rfl, zs_nil⟩)⟩)⟩)⟩) ?_
      exact hrec _ _ _ _ h
    · rw [if_neg c54] at h
      refine zw_sub (lv' := [(0, .long j0), (2, .int t0), (4, .int i4)]) (List.forall_mem_cons.mpr ⟨rfl, (List.forall_mem_cons.mpr ⟨rfl, (List.forall_mem_cons.mpr ⟨rfl, zs_nil⟩)⟩)⟩) ?_
      exact zt_X15_isName_J57 hX hr hR hd hf hk hrec h
def zf_X15_isName_J46 (N : Nat) (k : Int64 → Int32 → Int32 → Int32 → zm_S → Option ((Int32 × zm_S) ⊕ ((Int32 × Int32) × zm_S))) (j0 : Int64) (i3 : Int32) (i4 : Int32) (i5 : Int32) (S : zm_S) : Option ((Int32 × zm_S) ⊕ ((Int32 × Int32) × zm_S)) := zf_X15_isName_J47 N (k) j0 i3 i4 i5 (0 : Int32) S
set_option maxHeartbeats 4000000 in
set_option maxRecDepth 100000 in
theorem zt_X15_isName_J46 {p : Program} {l : Launch} {e : Env} {R : Room} {s : State} {m : MethodId} {args : Array Value} {below : List Frame} {meth : Method} {c : Code} {V : zm_V} {mc ms d rc rs : Nat} (hX : zm_X p R s m args meth c RX15 "isName" cX15_isName 6 zk_E V mc ms) (hr : meth.sig.returnType = (some .boolean)) (hR : R.frames = d ∧ R.locals = 64 * d) (hd : 2 ≤ d) {N : Nat} {k : Int64 → Int32 → Int32 → Int32 → zm_S → Option ((Int32 × zm_S) ⊕ ((Int32 × Int32) × zm_S))} {j0 : Int64} {i3 : Int32} {i4 : Int32} {i5 : Int32} {res : (Int32 × zm_S) ⊕ ((Int32 × Int32) × zm_S)} {out : (Int32 × zm_S)}   (hf : ∀ o, res = .inl o → o = out) (hk : ∀ (x2 : Int32) (x3 : Int32) (S' : zm_S), res = .inr ((x2, x3), S') → zw p l e R s m args below meth c (vx_MQ below (zm_Qc zk_E V (zo_i out)) (zm_XC zk_E V zo_x) args s mc ms (fun q => V.2.2.2.1 ≤ q)) 6 zk_E V mc ms 69 [(2, .int x2), (3, .int x3)] [] S' rc rs) (hrec : ∀ (i2' : Int32) (i3' : Int32) (i4' : Int32) (S : zm_S), k j0 i2' i3' i4' S = some res → zw p l e R s m args below meth c (vx_MQ below (zm_Qc zk_E V (zo_i out)) (zm_XC zk_E V zo_x) args s mc ms (fun q => V.2.2.2.1 ≤ q)) 6 zk_E V mc ms 8 [(0, .long j0), (2, .int i2'), (3, .int i3'), (4, .int i4')] [] S rc rs) {S : zm_S} (h : zf_X15_isName_J46 N k j0 i3 i4 i5 S = some res) : zw p l e R s m args below meth c (vx_MQ below (zm_Qc zk_E V (zo_i out)) (zm_XC zk_E V zo_x) args s mc ms (fun q => V.2.2.2.1 ≤ q)) 6 zk_E V mc ms 46 [(0, .long j0), (3, .int i3), (4, .int i4), (5, .int i5)] [] S rc rs := by
  unfold zf_X15_isName_J46 at h
  refine zw_iconst (v := (0 : Int32)) hX dX15_isName_46 (by decide) ?_
  refine zw_sub (lv' := [(0, .long j0), (3, .int i3), (4, .int i4), (5, .int i5)]) (List.forall_mem_cons.mpr ⟨rfl, (List.forall_mem_cons.mpr ⟨rfl, (List.forall_mem_cons.mpr ⟨rfl, (List.forall_mem_cons.mpr ⟨rfl, zs_nil⟩)⟩)⟩)⟩) ?_
  exact zt_X15_isName_J47 hX hr hR hd hf hk hrec h
def zf_X15_isName_J42 (N : Nat) (k : Int64 → Int32 → Int32 → Int32 → zm_S → Option ((Int32 × zm_S) ⊕ ((Int32 × Int32) × zm_S))) (j0 : Int64) (i3 : Int32) (i4 : Int32) (i5 : Int32) (S : zm_S) : Option ((Int32 × zm_S) ⊕ ((Int32 × Int32) × zm_S)) := zf_X15_isName_J47 N (k) j0 i3 i4 i5 (1 : Int32) S
set_option maxHeartbeats 4000000 in
set_option maxRecDepth 100000 in
theorem zt_X15_isName_J42 {p : Program} {l : Launch} {e : Env} {R : Room} {s : State} {m : MethodId} {args : Array Value} {below : List Frame} {meth : Method} {c : Code} {V : zm_V} {mc ms d rc rs : Nat} (hX : zm_X p R s m args meth c RX15 "isName" cX15_isName 6 zk_E V mc ms) (hr : meth.sig.returnType = (some .boolean)) (hR : R.frames = d ∧ R.locals = 64 * d) (hd : 2 ≤ d) {N : Nat} {k : Int64 → Int32 → Int32 → Int32 → zm_S → Option ((Int32 × zm_S) ⊕ ((Int32 × Int32) × zm_S))} {j0 : Int64} {i3 : Int32} {i4 : Int32} {i5 : Int32} {res : (Int32 × zm_S) ⊕ ((Int32 × Int32) × zm_S)} {out : (Int32 × zm_S)}   (hf : ∀ o, res = .inl o → o = out) (hk : ∀ (x2 : Int32) (x3 : Int32) (S' : zm_S), res = .inr ((x2, x3), S') → zw p l e R s m args below meth c (vx_MQ below (zm_Qc zk_E V (zo_i out)) (zm_XC zk_E V zo_x) args s mc ms (fun q => V.2.2.2.1 ≤ q)) 6 zk_E V mc ms 69 [(2, .int x2), (3, .int x3)] [] S' rc rs) (hrec : ∀ (i2' : Int32) (i3' : Int32) (i4' : Int32) (S : zm_S), k j0 i2' i3' i4' S = some res → zw p l e R s m args below meth c (vx_MQ below (zm_Qc zk_E V (zo_i out)) (zm_XC zk_E V zo_x) args s mc ms (fun q => V.2.2.2.1 ≤ q)) 6 zk_E V mc ms 8 [(0, .long j0), (2, .int i2'), (3, .int i3'), (4, .int i4')] [] S rc rs) {S : zm_S} (h : zf_X15_isName_J42 N k j0 i3 i4 i5 S = some res) : zw p l e R s m args below meth c (vx_MQ below (zm_Qc zk_E V (zo_i out)) (zm_XC zk_E V zo_x) args s mc ms (fun q => V.2.2.2.1 ≤ q)) 6 zk_E V mc ms 42 [(0, .long j0), (3, .int i3), (4, .int i4), (5, .int i5)] [] S rc rs := by
  unfold zf_X15_isName_J42 at h
  refine zw_iconst (v := (1 : Int32)) hX dX15_isName_42 (by decide) ?_
  refine zw_goto (tgt := 47) hX dX15_isName_43 (by decide) ?_
  refine zw_sub (lv' := [(0, .long j0), (3, .int i3), (4, .int i4), (5, .int i5)]) (List.forall_mem_cons.mpr ⟨rfl, (List.forall_mem_cons.mpr ⟨rfl, (List.forall_mem_cons.mpr ⟨rfl, (List.forall_mem_cons.mpr ⟨rfl, zs_nil⟩)⟩)⟩)⟩) ?_
  exact zt_X15_isName_J47 hX hr hR hd hf hk hrec h
def zf_X15_isName_L8 (N : Nat) : Nat → Int64 → Int32 → Int32 → Int32 → zm_S → Option ((Int32 × zm_S) ⊕ ((Int32 × Int32) × zm_S))
  | 0, _, _, _, _, _ => none
  | n + 1, j0, i2, i3, i4, S => if i4 < 0 then some (.inr ((i2, i3), S)) else (zf_X15_byteOf N j0 i4 S).bind (fun r3 => if i2 = 0 then zf_X15_isName_J46 N (zf_X15_isName_L8 N n) j0 i3 i4 r3.1 r3.2 else (zf_X15_isLetter N r3.1 r3.2).bind (fun r6 => if r6.1 = 0 then if r3.1 = 0 then if i3 = 0 then zf_X15_isName_J42 N (zf_X15_isName_L8 N n) j0 i3 i4 r3.1 r6.2 else zf_X15_isName_J46 N (zf_X15_isName_L8 N n) j0 i3 i4 r3.1 r6.2 else zf_X15_isName_J46 N (zf_X15_isName_L8 N n) j0 i3 i4 r3.1 r6.2 else zf_X15_isName_J42 N (zf_X15_isName_L8 N n) j0 i3 i4 r3.1 r6.2))
set_option maxHeartbeats 4000000 in
set_option maxRecDepth 100000 in
theorem zt_X15_isName_L8 {p : Program} {l : Launch} {e : Env} {R : Room} {s : State} {m : MethodId} {args : Array Value} {below : List Frame} {meth : Method} {c : Code} {V : zm_V} {mc ms d rc rs : Nat} (hX : zm_X p R s m args meth c RX15 "isName" cX15_isName 6 zk_E V mc ms) (hr : meth.sig.returnType = (some .boolean)) (hR : R.frames = d ∧ R.locals = 64 * d) (hd : 2 ≤ d) {N : Nat} {res : (Int32 × zm_S) ⊕ ((Int32 × Int32) × zm_S)} {out : (Int32 × zm_S)} (j0 : Int64) (hf : ∀ o, res = .inl o → o = out) (hk : ∀ (x2 : Int32) (x3 : Int32) (S' : zm_S), res = .inr ((x2, x3), S') → zw p l e R s m args below meth c (vx_MQ below (zm_Qc zk_E V (zo_i out)) (zm_XC zk_E V zo_x) args s mc ms (fun q => V.2.2.2.1 ≤ q)) 6 zk_E V mc ms 69 [(2, .int x2), (3, .int x3)] [] S' rc rs) : ∀ (n : Nat) (i2 : Int32) (i3 : Int32) (i4 : Int32) (S : zm_S), zf_X15_isName_L8 N n j0 i2 i3 i4 S = some res → zw p l e R s m args below meth c (vx_MQ below (zm_Qc zk_E V (zo_i out)) (zm_XC zk_E V zo_x) args s mc ms (fun q => V.2.2.2.1 ≤ q)) 6 zk_E V mc ms 8 [(0, .long j0), (2, .int i2), (3, .int i3), (4, .int i4)] [] S rc rs := by
  intro n
  induction n with
  | zero => intro i2 i3 i4 S h; cases h
  | succ n ih =>
    intro i2 i3 i4 S h
    rw [zf_X15_isName_L8] at h
    refine zw_iload hX dX15_isName_8 rfl ?_
    refine zw_if_lt (tgt := 69) hX dX15_isName_10 (by decide) (fun c10 => ?_) (fun c10 => ?_)
    · rw [if_pos c10] at h
      refine zw_sub (lv' := [(2, .int i2), (3, .int i3)]) (List.forall_mem_cons.mpr ⟨rfl, (List.forall_mem_cons.mpr ⟨rfl, zs_nil⟩)⟩) ?_
      exact hk _ _ _ (Option.some.inj h).symm
    · rw [if_neg c10] at h
      refine zw_lload_n hX dX15_isName_13 rfl ?_
      refine zw_iload hX dX15_isName_14 rfl ?_
      obtain ⟨r3, g, h⟩ := zb_some h
      refine zc_Si (as := [.long j0, .int i4]) hX (zt_X15_byteOf (d := d - 1) (by omega) g) zl_X15_86 dX15_isName_16 ⟨rfl, rfl, Nat.le_of_ble_eq_true rfl⟩ ⟨by omega, by omega⟩ ?_
      refine zw_istore hX dX15_isName_19 (by decide) ?_
      refine zw_iload_n hX dX15_isName_21 rfl ?_
      refine zw_if_eq (tgt := 46) hX dX15_isName_22 (by decide) (fun c22 => ?_) (fun c22 => ?_)
      · rw [if_pos c22] at h
        refine zw_sub (lv' := [(0, .long j0), (3, .int i3), (4, .int i4), (5, .int r3.1)]) (List.forall_mem_cons.mpr ⟨rfl, (List.forall_mem_cons.mpr ⟨rfl, (List.forall_mem_cons.mpr ⟨rfl, (List.forall_mem_cons.mpr ⟨rfl, zs_nil⟩)⟩)⟩)⟩) ?_
        exact zt_X15_isName_J46 hX hr hR hd hf hk ih h
      · rw [if_neg c22] at h
        refine zw_iload hX dX15_isName_25 rfl ?_
        obtain ⟨r6, g, h⟩ := zb_some h
        refine zc_Si (as := [.int r3.1]) hX (zt_X15_isLetter (d := d - 1) (by omega) g) zl_X15_125 dX15_isName_27 ⟨rfl, rfl, Nat.le_of_ble_eq_true rfl⟩ ⟨by omega, by omega⟩ ?_
        refine zw_if_ne (tgt := 42) hX dX15_isName_30 (by decide) (fun c30 => ?_) (fun c30 => ?_)
        · rw [if_neg c30] at h
          refine zw_sub (lv' := [(0, .long j0), (3, .int i3), (4, .int i4), (5, .int r3.1)]) (List.forall_mem_cons.mpr ⟨rfl, (List.forall_mem_cons.mpr ⟨rfl, (List.forall_mem_cons.mpr ⟨rfl, (List.forall_mem_cons.mpr ⟨rfl, zs_nil⟩)⟩)⟩)⟩) ?_
          exact zt_X15_isName_J42 hX hr hR hd hf hk ih h
        · rw [if_pos c30] at h
          refine zw_iload hX dX15_isName_33 rfl ?_
          refine zw_if_ne (tgt := 46) hX dX15_isName_35 (by decide) (fun c35 => ?_) (fun c35 => ?_)
          · rw [if_neg c35] at h
            refine zw_sub (lv' := [(0, .long j0), (3, .int i3), (4, .int i4), (5, .int r3.1)]) (List.forall_mem_cons.mpr ⟨rfl, (List.forall_mem_cons.mpr ⟨rfl, (List.forall_mem_cons.mpr ⟨rfl, (List.forall_mem_cons.mpr ⟨rfl, zs_nil⟩)⟩)⟩)⟩) ?_
            exact zt_X15_isName_J46 hX hr hR hd hf hk ih h
          · rw [if_pos c35] at h
            refine zw_iload_n hX dX15_isName_38 rfl ?_
            refine zw_if_ne (tgt := 46) hX dX15_isName_39 (by decide) (fun c39 => ?_) (fun c39 => ?_)
            · rw [if_neg c39] at h
              refine zw_sub (lv' := [(0, .long j0), (3, .int i3), (4, .int i4), (5, .int r3.1)]) (List.forall_mem_cons.mpr ⟨rfl, (List.forall_mem_cons.mpr ⟨rfl, (List.forall_mem_cons.mpr ⟨rfl, (List.forall_mem_cons.mpr ⟨rfl, zs_nil⟩)⟩)⟩)⟩) ?_
              exact zt_X15_isName_J46 hX hr hR hd hf hk ih h
            · rw [if_pos c39] at h
              refine zw_sub (lv' := [(0, .long j0), (3, .int i3), (4, .int i4), (5, .int r3.1)]) (List.forall_mem_cons.mpr ⟨rfl, (List.forall_mem_cons.mpr ⟨rfl, (List.forall_mem_cons.mpr ⟨rfl, (List.forall_mem_cons.mpr ⟨rfl, zs_nil⟩)⟩)⟩)⟩) ?_
              exact zt_X15_isName_J42 hX hr hR hd hf hk ih h
def zf_X15_isName (N : Nat) (j0 : Int64) (S : zm_S) : Option (Int32 × zm_S) := (zf_X15_isName_L8 N N j0 (1 : Int32) (0 : Int32) (7 : Int32) S).bind (fun r => match r with | .inl o => some o | .inr ((v8, v9), S7) => if v8 = 0 then some ((0 : Int32), S7) else if v9 = 0 then some ((0 : Int32), S7) else some ((1 : Int32), S7))
set_option maxHeartbeats 4000000 in
set_option maxRecDepth 100000 in
theorem zt_X15_isName {l : Launch} {V : zm_V} {N : Nat} {S : zm_S} {out : (Int32 × zm_S)} {d : Nat} {j0 : Int64} (hd : 2 ≤ d) (h : zf_X15_isName N j0 S = some out) : zm_Met l zk_E V yX15_isName (.code yX15_isName cX15_isName 6 (some .boolean)) d [.long j0] S 0 0 (zo_i out) zo_x := by
  refine zm_of (by decide +kernel) (Nat.le_of_ble_eq_true rfl) ?_
  intro p e R s m args below meth c hRR hX hr hxt
  have hR : R.frames = d ∧ R.locals = 64 * d := by rw [hRR]; exact ⟨rfl, rfl⟩
  have hX : zm_X p R s m args meth c RX15 "isName" cX15_isName 6 zk_E V 0 0 := hX
  unfold zf_X15_isName at h
  refine zw_sub (lv' := [(0, .long j0)]) (List.forall_mem_cons.mpr ⟨rfl, zs_nil⟩) ?_
  refine zw_iconst (v := (1 : Int32)) hX dX15_isName_0 (by decide) ?_
  refine zw_istore_n hX dX15_isName_1 (by decide) ?_
  refine zw_iconst (v := (0 : Int32)) hX dX15_isName_2 (by decide) ?_
  refine zw_istore_n hX dX15_isName_3 (by decide) ?_
  refine zw_bipush (v := (7 : Int32)) hX dX15_isName_4 (by decide) ?_
  refine zw_istore hX dX15_isName_6 (by decide) ?_
  obtain ⟨r, g, h⟩ := zb_some h
  refine zw_sub (lv' := [(0, .long j0), (2, .int (1 : Int32)), (3, .int (0 : Int32)), (4, .int (7 : Int32))]) (List.forall_mem_cons.mpr ⟨rfl, (List.forall_mem_cons.mpr ⟨rfl, (List.forall_mem_cons.mpr ⟨rfl, (List.forall_mem_cons.mpr ⟨rfl, zs_nil⟩)⟩)⟩)⟩) ?_
  refine zt_X15_isName_L8 hX hr hR hd (res := r) (out := out) j0 ?_ ?_ N _ _ _ _ g
  · intro o ho
    subst ho
    exact Option.some.inj h
  · intro v8 v9 S7 hx
    subst hx
    try dsimp only at h
    refine zw_iload_n hX dX15_isName_69 rfl ?_
    refine zw_if_eq (tgt := 81) hX dX15_isName_70 (by decide) (fun c70 => ?_) (fun c70 => ?_)
    · rw [if_pos c70] at h
      refine zw_iconst (v := (0 : Int32)) hX dX15_isName_81 (by decide) ?_
      obtain rfl := Option.some.inj h
      exact zw_iret hX hr dX15_isName_82 rfl ⟨rfl, rfl⟩
    · rw [if_neg c70] at h
      refine zw_iload_n hX dX15_isName_73 rfl ?_
      refine zw_if_eq (tgt := 81) hX dX15_isName_74 (by decide) (fun c74 => ?_) (fun c74 => ?_)
      · rw [if_pos c74] at h
        refine zw_iconst (v := (0 : Int32)) hX dX15_isName_81 (by decide) ?_
        obtain rfl := Option.some.inj h
        exact zw_iret hX hr dX15_isName_82 rfl ⟨rfl, rfl⟩
      · rw [if_neg c74] at h
        refine zw_iconst (v := (1 : Int32)) hX dX15_isName_77 (by decide) ?_
        refine zw_goto (tgt := 82) hX dX15_isName_78 (by decide) ?_
        obtain rfl := Option.some.inj h
        exact zw_iret hX hr dX15_isName_82 rfl ⟨rfl, rfl⟩
