/-! ===== functions of methods, by program (wip/whole/tools/gen11.py) ===== -/
theorem dX6_isSayable_0 : decode cX6_isSayable 0 = .ok (.iconst 0, 1) := by decide +kernel
theorem dX6_isSayable_1 : decode cX6_isSayable 1 = .ok (.istore_n 2, 1) := by decide +kernel
theorem dX6_isSayable_2 : decode cX6_isSayable 2 = .ok (.iload_n 2, 1) := by decide +kernel
theorem dX6_isSayable_3 : decode cX6_isSayable 3 = .ok (.bipush 64, 2) := by decide +kernel
theorem dX6_isSayable_5 : decode cX6_isSayable 5 = .ok (.if_icmp .ge 41, 3) := by decide +kernel
theorem dX6_isSayable_8 : decode cX6_isSayable 8 = .ok (.lload_n 0, 1) := by decide +kernel
theorem dX6_isSayable_9 : decode cX6_isSayable 9 = .ok (.iload_n 2, 1) := by decide +kernel
theorem dX6_isSayable_10 : decode cX6_isSayable 10 = .ok (.lshr, 1) := by decide +kernel
theorem dX6_isSayable_11 : decode cX6_isSayable 11 = .ok (.ldc2_w 33, 3) := by decide +kernel
theorem dX6_isSayable_14 : decode cX6_isSayable 14 = .ok (.land, 1) := by decide +kernel
theorem dX6_isSayable_15 : decode cX6_isSayable 15 = .ok (.lstore_n 3, 1) := by decide +kernel
theorem dX6_isSayable_16 : decode cX6_isSayable 16 = .ok (.lload_n 3, 1) := by decide +kernel
theorem dX6_isSayable_17 : decode cX6_isSayable 17 = .ok (.lconst 0, 1) := by decide +kernel
theorem dX6_isSayable_18 : decode cX6_isSayable 18 = .ok (.lcmp, 1) := by decide +kernel
theorem dX6_isSayable_19 : decode cX6_isSayable 19 = .ok (.ifCond .eq 21, 3) := by decide +kernel
theorem dX6_isSayable_40 : decode cX6_isSayable 40 = .ok (.iinc 2 8, 3) := by decide +kernel
theorem dX6_isSayable_43 : decode cX6_isSayable 43 = .ok (.goto (-41), 3) := by decide +kernel
theorem dX6_isSayable_22 : decode cX6_isSayable 22 = .ok (.lload_n 3, 1) := by decide +kernel
theorem dX6_isSayable_23 : decode cX6_isSayable 23 = .ok (.ldc2_w 35, 3) := by decide +kernel
theorem dX6_isSayable_26 : decode cX6_isSayable 26 = .ok (.lcmp, 1) := by decide +kernel
theorem dX6_isSayable_27 : decode cX6_isSayable 27 = .ok (.ifCond .lt 11, 3) := by decide +kernel
theorem dX6_isSayable_38 : decode cX6_isSayable 38 = .ok (.iconst 0, 1) := by decide +kernel
theorem dX6_isSayable_39 : decode cX6_isSayable 39 = .ok (.ireturn, 1) := by decide +kernel
theorem dX6_isSayable_30 : decode cX6_isSayable 30 = .ok (.lload_n 3, 1) := by decide +kernel
theorem dX6_isSayable_31 : decode cX6_isSayable 31 = .ok (.ldc2_w 37, 3) := by decide +kernel
theorem dX6_isSayable_34 : decode cX6_isSayable 34 = .ok (.lcmp, 1) := by decide +kernel
theorem dX6_isSayable_35 : decode cX6_isSayable 35 = .ok (.ifCond .le 5, 3) := by decide +kernel
theorem dX6_isSayable_46 : decode cX6_isSayable 46 = .ok (.iconst 1, 1) := by decide +kernel
theorem dX6_isSayable_47 : decode cX6_isSayable 47 = .ok (.ireturn, 1) := by decide +kernel
theorem dX6_hasRoomFor_0 : decode cX6_hasRoomFor 0 = .ok (.iconst 0, 1) := by decide +kernel
theorem dX6_hasRoomFor_1 : decode cX6_hasRoomFor 1 = .ok (.istore_n 3, 1) := by decide +kernel
theorem dX6_hasRoomFor_2 : decode cX6_hasRoomFor 2 = .ok (.iconst 0, 1) := by decide +kernel
theorem dX6_hasRoomFor_3 : decode cX6_hasRoomFor 3 = .ok (.istore 4, 2) := by decide +kernel
theorem dX6_hasRoomFor_5 : decode cX6_hasRoomFor 5 = .ok (.iload 4, 2) := by decide +kernel
theorem dX6_hasRoomFor_7 : decode cX6_hasRoomFor 7 = .ok (.bipush 64, 2) := by decide +kernel
theorem dX6_hasRoomFor_9 : decode cX6_hasRoomFor 9 = .ok (.if_icmp .ge 30, 3) := by decide +kernel
theorem dX6_hasRoomFor_12 : decode cX6_hasRoomFor 12 = .ok (.iload_n 3, 1) := by decide +kernel
theorem dX6_hasRoomFor_13 : decode cX6_hasRoomFor 13 = .ok (.lload_n 1, 1) := by decide +kernel
theorem dX6_hasRoomFor_14 : decode cX6_hasRoomFor 14 = .ok (.iload 4, 2) := by decide +kernel
theorem dX6_hasRoomFor_16 : decode cX6_hasRoomFor 16 = .ok (.lshr, 1) := by decide +kernel
theorem dX6_hasRoomFor_17 : decode cX6_hasRoomFor 17 = .ok (.ldc2_w 33, 3) := by decide +kernel
theorem dX6_hasRoomFor_20 : decode cX6_hasRoomFor 20 = .ok (.land, 1) := by decide +kernel
theorem dX6_hasRoomFor_21 : decode cX6_hasRoomFor 21 = .ok (.lconst 0, 1) := by decide +kernel
theorem dX6_hasRoomFor_22 : decode cX6_hasRoomFor 22 = .ok (.lcmp, 1) := by decide +kernel
theorem dX6_hasRoomFor_23 : decode cX6_hasRoomFor 23 = .ok (.ifCond .eq 7, 3) := by decide +kernel
theorem dX6_hasRoomFor_30 : decode cX6_hasRoomFor 30 = .ok (.iconst 0, 1) := by decide +kernel
theorem dX6_hasRoomFor_31 : decode cX6_hasRoomFor 31 = .ok (.iadd, 1) := by decide +kernel
theorem dX6_hasRoomFor_32 : decode cX6_hasRoomFor 32 = .ok (.istore_n 3, 1) := by decide +kernel
theorem dX6_hasRoomFor_33 : decode cX6_hasRoomFor 33 = .ok (.iinc 4 8, 3) := by decide +kernel
theorem dX6_hasRoomFor_36 : decode cX6_hasRoomFor 36 = .ok (.goto (-31), 3) := by decide +kernel
theorem dX6_hasRoomFor_26 : decode cX6_hasRoomFor 26 = .ok (.iconst 1, 1) := by decide +kernel
theorem dX6_hasRoomFor_27 : decode cX6_hasRoomFor 27 = .ok (.goto 4, 3) := by decide +kernel
theorem dX6_hasRoomFor_39 : decode cX6_hasRoomFor 39 = .ok (.aload_n 0, 1) := by decide +kernel
theorem dX6_hasRoomFor_40 : decode cX6_hasRoomFor 40 = .ok (.getfield 39, 3) := by decide +kernel
theorem dX6_hasRoomFor_43 : decode cX6_hasRoomFor 43 = .ok (.iload_n 3, 1) := by decide +kernel
theorem dX6_hasRoomFor_44 : decode cX6_hasRoomFor 44 = .ok (.iadd, 1) := by decide +kernel
theorem dX6_hasRoomFor_45 : decode cX6_hasRoomFor 45 = .ok (.sipush 800, 3) := by decide +kernel
theorem dX6_hasRoomFor_48 : decode cX6_hasRoomFor 48 = .ok (.if_icmp .gt 7, 3) := by decide +kernel
theorem dX6_hasRoomFor_55 : decode cX6_hasRoomFor 55 = .ok (.iconst 0, 1) := by decide +kernel
theorem dX6_hasRoomFor_56 : decode cX6_hasRoomFor 56 = .ok (.ireturn, 1) := by decide +kernel
theorem dX6_hasRoomFor_51 : decode cX6_hasRoomFor 51 = .ok (.iconst 1, 1) := by decide +kernel
theorem dX6_hasRoomFor_52 : decode cX6_hasRoomFor 52 = .ok (.goto 4, 3) := by decide +kernel
theorem dX6_append_0 : decode cX6_append 0 = .ok (.bipush 56, 2) := by decide +kernel
theorem dX6_append_2 : decode cX6_append 2 = .ok (.istore_n 3, 1) := by decide +kernel
theorem dX6_append_3 : decode cX6_append 3 = .ok (.iload_n 3, 1) := by decide +kernel
theorem dX6_append_4 : decode cX6_append 4 = .ok (.ifCond .lt 58, 3) := by decide +kernel
theorem dX6_append_7 : decode cX6_append 7 = .ok (.lload_n 1, 1) := by decide +kernel
theorem dX6_append_8 : decode cX6_append 8 = .ok (.iload_n 3, 1) := by decide +kernel
theorem dX6_append_9 : decode cX6_append 9 = .ok (.lshr, 1) := by decide +kernel
theorem dX6_append_10 : decode cX6_append 10 = .ok (.ldc2_w 33, 3) := by decide +kernel
theorem dX6_append_13 : decode cX6_append 13 = .ok (.land, 1) := by decide +kernel
theorem dX6_append_14 : decode cX6_append 14 = .ok (.lstore 4, 2) := by decide +kernel
theorem dX6_append_16 : decode cX6_append 16 = .ok (.lload 4, 2) := by decide +kernel
theorem dX6_append_18 : decode cX6_append 18 = .ok (.lconst 0, 1) := by decide +kernel
theorem dX6_append_19 : decode cX6_append 19 = .ok (.lcmp, 1) := by decide +kernel
theorem dX6_append_20 : decode cX6_append 20 = .ok (.ifCond .eq 36, 3) := by decide +kernel
theorem dX6_append_56 : decode cX6_append 56 = .ok (.iinc 3 (-8), 3) := by decide +kernel
theorem dX6_append_59 : decode cX6_append 59 = .ok (.goto (-56), 3) := by decide +kernel
theorem dX6_append_23 : decode cX6_append 23 = .ok (.aload_n 0, 1) := by decide +kernel
theorem dX6_append_24 : decode cX6_append 24 = .ok (.getfield 39, 3) := by decide +kernel
theorem dX6_append_27 : decode cX6_append 27 = .ok (.sipush 800, 3) := by decide +kernel
theorem dX6_append_30 : decode cX6_append 30 = .ok (.if_icmp .ge 26, 3) := by decide +kernel
theorem dX6_append_33 : decode cX6_append 33 = .ok (.aload_n 0, 1) := by decide +kernel
theorem dX6_append_34 : decode cX6_append 34 = .ok (.getfield 9, 3) := by decide +kernel
theorem dX6_append_37 : decode cX6_append 37 = .ok (.aload_n 0, 1) := by decide +kernel
theorem dX6_append_38 : decode cX6_append 38 = .ok (.getfield 39, 3) := by decide +kernel
theorem dX6_append_41 : decode cX6_append 41 = .ok (.lload 4, 2) := by decide +kernel
theorem dX6_append_43 : decode cX6_append 43 = .ok (.l2i, 1) := by decide +kernel
theorem dX6_append_44 : decode cX6_append 44 = .ok (.i2c, 1) := by decide +kernel
theorem dX6_append_45 : decode cX6_append 45 = .ok (.castore, 1) := by decide +kernel
theorem dX6_append_46 : decode cX6_append 46 = .ok (.aload_n 0, 1) := by decide +kernel
theorem dX6_append_47 : decode cX6_append 47 = .ok (.dup, 1) := by decide +kernel
theorem dX6_append_48 : decode cX6_append 48 = .ok (.getfield 39, 3) := by decide +kernel
theorem dX6_append_51 : decode cX6_append 51 = .ok (.iconst 1, 1) := by decide +kernel
theorem dX6_append_52 : decode cX6_append 52 = .ok (.iadd, 1) := by decide +kernel
theorem dX6_append_53 : decode cX6_append 53 = .ok (.putfield 39, 3) := by decide +kernel
theorem dX6_append_62 : decode cX6_append 62 = .ok (.aload_n 0, 1) := by decide +kernel
theorem dX6_append_63 : decode cX6_append 63 = .ok (.getfield 39, 3) := by decide +kernel
theorem dX6_append_66 : decode cX6_append 66 = .ok (.ireturn, 1) := by decide +kernel
theorem dX6_wrongPlace_0 : decode cX6_wrongPlace 0 = .ok (.aload_n 0, 1) := by decide +kernel
theorem dX6_wrongPlace_1 : decode cX6_wrongPlace 1 = .ok (.getfield 21, 3) := by decide +kernel
theorem dX6_wrongPlace_4 : decode cX6_wrongPlace 4 = .ok (.aload_n 0, 1) := by decide +kernel
theorem dX6_wrongPlace_5 : decode cX6_wrongPlace 5 = .ok (.getfield 43, 3) := by decide +kernel
theorem dX6_wrongPlace_8 : decode cX6_wrongPlace 8 = .ok (.iaload, 1) := by decide +kernel
theorem dX6_wrongPlace_9 : decode cX6_wrongPlace 9 = .ok (.ireturn, 1) := by decide +kernel
theorem dX6_isDigit_0 : decode cX6_isDigit 0 = .ok (.iload_n 0, 1) := by decide +kernel
theorem dX6_isDigit_1 : decode cX6_isDigit 1 = .ok (.bipush 48, 2) := by decide +kernel
theorem dX6_isDigit_3 : decode cX6_isDigit 3 = .ok (.if_icmp .lt 13, 3) := by decide +kernel
theorem dX6_isDigit_16 : decode cX6_isDigit 16 = .ok (.iconst 0, 1) := by decide +kernel
theorem dX6_isDigit_17 : decode cX6_isDigit 17 = .ok (.ireturn, 1) := by decide +kernel
theorem dX6_isDigit_6 : decode cX6_isDigit 6 = .ok (.iload_n 0, 1) := by decide +kernel
theorem dX6_isDigit_7 : decode cX6_isDigit 7 = .ok (.bipush 57, 2) := by decide +kernel
theorem dX6_isDigit_9 : decode cX6_isDigit 9 = .ok (.if_icmp .gt 7, 3) := by decide +kernel
theorem dX6_isDigit_12 : decode cX6_isDigit 12 = .ok (.iconst 1, 1) := by decide +kernel
theorem dX6_isDigit_13 : decode cX6_isDigit 13 = .ok (.goto 4, 3) := by decide +kernel
theorem dX6_splitNumber_0 : decode cX6_splitNumber 0 = .ok (.iload_n 2, 1) := by decide +kernel
theorem dX6_splitNumber_1 : decode cX6_splitNumber 1 = .ok (.istore_n 3, 1) := by decide +kernel
theorem dX6_splitNumber_2 : decode cX6_splitNumber 2 = .ok (.lconst 0, 1) := by decide +kernel
theorem dX6_splitNumber_3 : decode cX6_splitNumber 3 = .ok (.lstore 4, 2) := by decide +kernel
theorem dX6_splitNumber_5 : decode cX6_splitNumber 5 = .ok (.iload_n 3, 1) := by decide +kernel
theorem dX6_splitNumber_6 : decode cX6_splitNumber 6 = .ok (.aload_n 0, 1) := by decide +kernel
theorem dX6_splitNumber_7 : decode cX6_splitNumber 7 = .ok (.getfield 39, 3) := by decide +kernel
theorem dX6_splitNumber_10 : decode cX6_splitNumber 10 = .ok (.if_icmp .ge 40, 3) := by decide +kernel
theorem dX6_splitNumber_13 : decode cX6_splitNumber 13 = .ok (.aload_n 0, 1) := by decide +kernel
theorem dX6_splitNumber_14 : decode cX6_splitNumber 14 = .ok (.getfield 9, 3) := by decide +kernel
theorem dX6_splitNumber_17 : decode cX6_splitNumber 17 = .ok (.iload_n 3, 1) := by decide +kernel
theorem dX6_splitNumber_18 : decode cX6_splitNumber 18 = .ok (.caload, 1) := by decide +kernel
theorem dX6_splitNumber_19 : decode cX6_splitNumber 19 = .ok (.invokestatic 64, 3) := by decide +kernel
theorem dX6_splitNumber_22 : decode cX6_splitNumber 22 = .ok (.ifCond .eq 28, 3) := by decide +kernel
theorem dX6_splitNumber_25 : decode cX6_splitNumber 25 = .ok (.lload 4, 2) := by decide +kernel
theorem dX6_splitNumber_27 : decode cX6_splitNumber 27 = .ok (.ldc2_w 80, 3) := by decide +kernel
theorem dX6_splitNumber_30 : decode cX6_splitNumber 30 = .ok (.lmul, 1) := by decide +kernel
theorem dX6_splitNumber_31 : decode cX6_splitNumber 31 = .ok (.aload_n 0, 1) := by decide +kernel
theorem dX6_splitNumber_32 : decode cX6_splitNumber 32 = .ok (.getfield 9, 3) := by decide +kernel
theorem dX6_splitNumber_35 : decode cX6_splitNumber 35 = .ok (.iload_n 3, 1) := by decide +kernel
theorem dX6_splitNumber_36 : decode cX6_splitNumber 36 = .ok (.caload, 1) := by decide +kernel
theorem dX6_splitNumber_37 : decode cX6_splitNumber 37 = .ok (.bipush 48, 2) := by decide +kernel
theorem dX6_splitNumber_39 : decode cX6_splitNumber 39 = .ok (.isub, 1) := by decide +kernel
theorem dX6_splitNumber_40 : decode cX6_splitNumber 40 = .ok (.i2l, 1) := by decide +kernel
theorem dX6_splitNumber_41 : decode cX6_splitNumber 41 = .ok (.ladd, 1) := by decide +kernel
theorem dX6_splitNumber_42 : decode cX6_splitNumber 42 = .ok (.lstore 4, 2) := by decide +kernel
theorem dX6_splitNumber_44 : decode cX6_splitNumber 44 = .ok (.iinc 3 1, 3) := by decide +kernel
theorem dX6_splitNumber_47 : decode cX6_splitNumber 47 = .ok (.goto (-42), 3) := by decide +kernel
theorem dX6_splitNumber_50 : decode cX6_splitNumber 50 = .ok (.aload_n 0, 1) := by decide +kernel
theorem dX6_splitNumber_51 : decode cX6_splitNumber 51 = .ok (.getfield 17, 3) := by decide +kernel
theorem dX6_splitNumber_54 : decode cX6_splitNumber 54 = .ok (.iload_n 1, 1) := by decide +kernel
theorem dX6_splitNumber_55 : decode cX6_splitNumber 55 = .ok (.lload 4, 2) := by decide +kernel
theorem dX6_splitNumber_57 : decode cX6_splitNumber 57 = .ok (.lastore, 1) := by decide +kernel
theorem dX6_splitNumber_58 : decode cX6_splitNumber 58 = .ok (.aload_n 0, 1) := by decide +kernel
theorem dX6_splitNumber_59 : decode cX6_splitNumber 59 = .ok (.getfield 13, 3) := by decide +kernel
theorem dX6_splitNumber_62 : decode cX6_splitNumber 62 = .ok (.iload_n 1, 1) := by decide +kernel
theorem dX6_splitNumber_63 : decode cX6_splitNumber 63 = .ok (.iload_n 3, 1) := by decide +kernel
theorem dX6_splitNumber_64 : decode cX6_splitNumber 64 = .ok (.iload_n 2, 1) := by decide +kernel
theorem dX6_splitNumber_65 : decode cX6_splitNumber 65 = .ok (.isub, 1) := by decide +kernel
theorem dX6_splitNumber_66 : decode cX6_splitNumber 66 = .ok (.bipush 9, 2) := by decide +kernel
theorem dX6_splitNumber_68 : decode cX6_splitNumber 68 = .ok (.if_icmp .gt 8, 3) := by decide +kernel
theorem dX6_splitNumber_76 : decode cX6_splitNumber 76 = .ok (.bipush 63, 2) := by decide +kernel
theorem dX6_splitNumber_78 : decode cX6_splitNumber 78 = .ok (.iastore, 1) := by decide +kernel
theorem dX6_splitNumber_79 : decode cX6_splitNumber 79 = .ok (.iload_n 3, 1) := by decide +kernel
theorem dX6_splitNumber_80 : decode cX6_splitNumber 80 = .ok (.ireturn, 1) := by decide +kernel
theorem dX6_splitNumber_71 : decode cX6_splitNumber 71 = .ok (.bipush 48, 2) := by decide +kernel
theorem dX6_splitNumber_73 : decode cX6_splitNumber 73 = .ok (.goto 5, 3) := by decide +kernel
theorem dX6_isLetter_0 : decode cX6_isLetter 0 = .ok (.iload_n 0, 1) := by decide +kernel
theorem dX6_isLetter_1 : decode cX6_isLetter 1 = .ok (.bipush 97, 2) := by decide +kernel
theorem dX6_isLetter_3 : decode cX6_isLetter 3 = .ok (.if_icmp .lt 13, 3) := by decide +kernel
theorem dX6_isLetter_16 : decode cX6_isLetter 16 = .ok (.iconst 0, 1) := by decide +kernel
theorem dX6_isLetter_17 : decode cX6_isLetter 17 = .ok (.ireturn, 1) := by decide +kernel
theorem dX6_isLetter_6 : decode cX6_isLetter 6 = .ok (.iload_n 0, 1) := by decide +kernel
theorem dX6_isLetter_7 : decode cX6_isLetter 7 = .ok (.bipush 122, 2) := by decide +kernel
theorem dX6_isLetter_9 : decode cX6_isLetter 9 = .ok (.if_icmp .gt 7, 3) := by decide +kernel
theorem dX6_isLetter_12 : decode cX6_isLetter 12 = .ok (.iconst 1, 1) := by decide +kernel
theorem dX6_isLetter_13 : decode cX6_isLetter 13 = .ok (.goto 4, 3) := by decide +kernel
theorem dX6_splitName_0 : decode cX6_splitName 0 = .ok (.iload_n 2, 1) := by decide +kernel
theorem dX6_splitName_1 : decode cX6_splitName 1 = .ok (.istore_n 3, 1) := by decide +kernel
theorem dX6_splitName_2 : decode cX6_splitName 2 = .ok (.lconst 0, 1) := by decide +kernel
theorem dX6_splitName_3 : decode cX6_splitName 3 = .ok (.lstore 4, 2) := by decide +kernel
theorem dX6_splitName_5 : decode cX6_splitName 5 = .ok (.iload_n 3, 1) := by decide +kernel
theorem dX6_splitName_6 : decode cX6_splitName 6 = .ok (.aload_n 0, 1) := by decide +kernel
theorem dX6_splitName_7 : decode cX6_splitName 7 = .ok (.getfield 39, 3) := by decide +kernel
theorem dX6_splitName_10 : decode cX6_splitName 10 = .ok (.if_icmp .ge 36, 3) := by decide +kernel
theorem dX6_splitName_13 : decode cX6_splitName 13 = .ok (.aload_n 0, 1) := by decide +kernel
theorem dX6_splitName_14 : decode cX6_splitName 14 = .ok (.getfield 9, 3) := by decide +kernel
theorem dX6_splitName_17 : decode cX6_splitName 17 = .ok (.iload_n 3, 1) := by decide +kernel
theorem dX6_splitName_18 : decode cX6_splitName 18 = .ok (.caload, 1) := by decide +kernel
theorem dX6_splitName_19 : decode cX6_splitName 19 = .ok (.invokestatic 71, 3) := by decide +kernel
theorem dX6_splitName_22 : decode cX6_splitName 22 = .ok (.ifCond .eq 24, 3) := by decide +kernel
theorem dX6_splitName_25 : decode cX6_splitName 25 = .ok (.lload 4, 2) := by decide +kernel
theorem dX6_splitName_27 : decode cX6_splitName 27 = .ok (.bipush 8, 2) := by decide +kernel
theorem dX6_splitName_29 : decode cX6_splitName 29 = .ok (.lshl, 1) := by decide +kernel
theorem dX6_splitName_30 : decode cX6_splitName 30 = .ok (.aload_n 0, 1) := by decide +kernel
theorem dX6_splitName_31 : decode cX6_splitName 31 = .ok (.getfield 9, 3) := by decide +kernel
theorem dX6_splitName_34 : decode cX6_splitName 34 = .ok (.iload_n 3, 1) := by decide +kernel
theorem dX6_splitName_35 : decode cX6_splitName 35 = .ok (.caload, 1) := by decide +kernel
theorem dX6_splitName_36 : decode cX6_splitName 36 = .ok (.i2l, 1) := by decide +kernel
theorem dX6_splitName_37 : decode cX6_splitName 37 = .ok (.lor, 1) := by decide +kernel
theorem dX6_splitName_38 : decode cX6_splitName 38 = .ok (.lstore 4, 2) := by decide +kernel
theorem dX6_splitName_40 : decode cX6_splitName 40 = .ok (.iinc 3 1, 3) := by decide +kernel
theorem dX6_splitName_43 : decode cX6_splitName 43 = .ok (.goto (-38), 3) := by decide +kernel
theorem dX6_splitName_46 : decode cX6_splitName 46 = .ok (.aload_n 0, 1) := by decide +kernel
theorem dX6_splitName_47 : decode cX6_splitName 47 = .ok (.getfield 17, 3) := by decide +kernel
theorem dX6_splitName_50 : decode cX6_splitName 50 = .ok (.iload_n 1, 1) := by decide +kernel
theorem dX6_splitName_51 : decode cX6_splitName 51 = .ok (.lload 4, 2) := by decide +kernel
theorem dX6_splitName_53 : decode cX6_splitName 53 = .ok (.lastore, 1) := by decide +kernel
theorem dX6_splitName_54 : decode cX6_splitName 54 = .ok (.aload_n 0, 1) := by decide +kernel
theorem dX6_splitName_55 : decode cX6_splitName 55 = .ok (.getfield 13, 3) := by decide +kernel
theorem dX6_splitName_58 : decode cX6_splitName 58 = .ok (.iload_n 1, 1) := by decide +kernel
theorem dX6_splitName_59 : decode cX6_splitName 59 = .ok (.iload_n 3, 1) := by decide +kernel
theorem dX6_splitName_60 : decode cX6_splitName 60 = .ok (.iload_n 2, 1) := by decide +kernel
theorem dX6_splitName_61 : decode cX6_splitName 61 = .ok (.isub, 1) := by decide +kernel
theorem dX6_splitName_62 : decode cX6_splitName 62 = .ok (.bipush 8, 2) := by decide +kernel
theorem dX6_splitName_64 : decode cX6_splitName 64 = .ok (.if_icmp .gt 8, 3) := by decide +kernel
theorem dX6_splitName_72 : decode cX6_splitName 72 = .ok (.bipush 63, 2) := by decide +kernel
theorem dX6_splitName_74 : decode cX6_splitName 74 = .ok (.iastore, 1) := by decide +kernel
theorem dX6_splitName_75 : decode cX6_splitName 75 = .ok (.iload_n 3, 1) := by decide +kernel
theorem dX6_splitName_76 : decode cX6_splitName 76 = .ok (.ireturn, 1) := by decide +kernel
theorem dX6_splitName_67 : decode cX6_splitName 67 = .ok (.bipush 97, 2) := by decide +kernel
theorem dX6_splitName_69 : decode cX6_splitName 69 = .ok (.goto 5, 3) := by decide +kernel
theorem dX6_isSign_0 : decode cX6_isSign 0 = .ok (.iconst 0, 1) := by decide +kernel
theorem dX6_isSign_1 : decode cX6_isSign 1 = .ok (.istore_n 1, 1) := by decide +kernel
theorem dX6_isSign_2 : decode cX6_isSign 2 = .ok (.iload_n 1, 1) := by decide +kernel
theorem dX6_isSign_3 : decode cX6_isSign 3 = .ok (.getstatic 82, 3) := by decide +kernel
theorem dX6_isSign_6 : decode cX6_isSign 6 = .ok (.arraylength, 1) := by decide +kernel
theorem dX6_isSign_7 : decode cX6_isSign 7 = .ok (.if_icmp .ge 20, 3) := by decide +kernel
theorem dX6_isSign_10 : decode cX6_isSign 10 = .ok (.getstatic 82, 3) := by decide +kernel
theorem dX6_isSign_13 : decode cX6_isSign 13 = .ok (.iload_n 1, 1) := by decide +kernel
theorem dX6_isSign_14 : decode cX6_isSign 14 = .ok (.caload, 1) := by decide +kernel
theorem dX6_isSign_15 : decode cX6_isSign 15 = .ok (.iload_n 0, 1) := by decide +kernel
theorem dX6_isSign_16 : decode cX6_isSign 16 = .ok (.if_icmp .ne 5, 3) := by decide +kernel
theorem dX6_isSign_21 : decode cX6_isSign 21 = .ok (.iinc 1 1, 3) := by decide +kernel
theorem dX6_isSign_24 : decode cX6_isSign 24 = .ok (.goto (-22), 3) := by decide +kernel
theorem dX6_isSign_19 : decode cX6_isSign 19 = .ok (.iconst 1, 1) := by decide +kernel
theorem dX6_isSign_20 : decode cX6_isSign 20 = .ok (.ireturn, 1) := by decide +kernel
theorem dX6_isSign_27 : decode cX6_isSign 27 = .ok (.iconst 0, 1) := by decide +kernel
theorem dX6_isSign_28 : decode cX6_isSign 28 = .ok (.ireturn, 1) := by decide +kernel
theorem dX6_splitWord_0 : decode cX6_splitWord 0 = .ok (.aload_n 0, 1) := by decide +kernel
theorem dX6_splitWord_1 : decode cX6_splitWord 1 = .ok (.getfield 9, 3) := by decide +kernel
theorem dX6_splitWord_4 : decode cX6_splitWord 4 = .ok (.iload_n 2, 1) := by decide +kernel
theorem dX6_splitWord_5 : decode cX6_splitWord 5 = .ok (.caload, 1) := by decide +kernel
theorem dX6_splitWord_6 : decode cX6_splitWord 6 = .ok (.istore_n 3, 1) := by decide +kernel
theorem dX6_splitWord_7 : decode cX6_splitWord 7 = .ok (.iload_n 3, 1) := by decide +kernel
theorem dX6_splitWord_8 : decode cX6_splitWord 8 = .ok (.invokestatic 64, 3) := by decide +kernel
theorem dX6_splitWord_11 : decode cX6_splitWord 11 = .ok (.ifCond .eq 10, 3) := by decide +kernel
theorem dX6_splitWord_21 : decode cX6_splitWord 21 = .ok (.iload_n 3, 1) := by decide +kernel
theorem dX6_splitWord_22 : decode cX6_splitWord 22 = .ok (.invokestatic 71, 3) := by decide +kernel
theorem dX6_splitWord_25 : decode cX6_splitWord 25 = .ok (.ifCond .eq 10, 3) := by decide +kernel
theorem dX6_splitWord_35 : decode cX6_splitWord 35 = .ok (.iload_n 3, 1) := by decide +kernel
theorem dX6_splitWord_36 : decode cX6_splitWord 36 = .ok (.bipush 60, 2) := by decide +kernel
theorem dX6_splitWord_38 : decode cX6_splitWord 38 = .ok (.if_icmp .eq 9, 3) := by decide +kernel
theorem dX6_splitWord_47 : decode cX6_splitWord 47 = .ok (.iload_n 2, 1) := by decide +kernel
theorem dX6_splitWord_48 : decode cX6_splitWord 48 = .ok (.iconst 1, 1) := by decide +kernel
theorem dX6_splitWord_49 : decode cX6_splitWord 49 = .ok (.iadd, 1) := by decide +kernel
theorem dX6_splitWord_50 : decode cX6_splitWord 50 = .ok (.aload_n 0, 1) := by decide +kernel
theorem dX6_splitWord_51 : decode cX6_splitWord 51 = .ok (.getfield 39, 3) := by decide +kernel
theorem dX6_splitWord_54 : decode cX6_splitWord 54 = .ok (.if_icmp .ge 20, 3) := by decide +kernel
theorem dX6_splitWord_74 : decode cX6_splitWord 74 = .ok (.iconst 0, 1) := by decide +kernel
theorem dX6_splitWord_75 : decode cX6_splitWord 75 = .ok (.istore 4, 2) := by decide +kernel
theorem dX6_splitWord_77 : decode cX6_splitWord 77 = .ok (.iload 4, 2) := by decide +kernel
theorem dX6_splitWord_79 : decode cX6_splitWord 79 = .ok (.ifCond .eq 26, 3) := by decide +kernel
theorem dX6_splitWord_105 : decode cX6_splitWord 105 = .ok (.aload_n 0, 1) := by decide +kernel
theorem dX6_splitWord_106 : decode cX6_splitWord 106 = .ok (.getfield 13, 3) := by decide +kernel
theorem dX6_splitWord_109 : decode cX6_splitWord 109 = .ok (.iload_n 1, 1) := by decide +kernel
theorem dX6_splitWord_110 : decode cX6_splitWord 110 = .ok (.iload_n 3, 1) := by decide +kernel
theorem dX6_splitWord_111 : decode cX6_splitWord 111 = .ok (.invokestatic 77, 3) := by decide +kernel
theorem dX6_splitWord_114 : decode cX6_splitWord 114 = .ok (.ifCond .eq 7, 3) := by decide +kernel
theorem dX6_splitWord_121 : decode cX6_splitWord 121 = .ok (.bipush 63, 2) := by decide +kernel
theorem dX6_splitWord_123 : decode cX6_splitWord 123 = .ok (.iastore, 1) := by decide +kernel
theorem dX6_splitWord_124 : decode cX6_splitWord 124 = .ok (.iload_n 2, 1) := by decide +kernel
theorem dX6_splitWord_125 : decode cX6_splitWord 125 = .ok (.iconst 1, 1) := by decide +kernel
theorem dX6_splitWord_126 : decode cX6_splitWord 126 = .ok (.iadd, 1) := by decide +kernel
theorem dX6_splitWord_127 : decode cX6_splitWord 127 = .ok (.ireturn, 1) := by decide +kernel
theorem dX6_splitWord_117 : decode cX6_splitWord 117 = .ok (.iload_n 3, 1) := by decide +kernel
theorem dX6_splitWord_118 : decode cX6_splitWord 118 = .ok (.goto 5, 3) := by decide +kernel
theorem dX6_splitWord_82 : decode cX6_splitWord 82 = .ok (.aload_n 0, 1) := by decide +kernel
theorem dX6_splitWord_83 : decode cX6_splitWord 83 = .ok (.getfield 13, 3) := by decide +kernel
theorem dX6_splitWord_86 : decode cX6_splitWord 86 = .ok (.iload_n 1, 1) := by decide +kernel
theorem dX6_splitWord_87 : decode cX6_splitWord 87 = .ok (.iload_n 3, 1) := by decide +kernel
theorem dX6_splitWord_88 : decode cX6_splitWord 88 = .ok (.bipush 60, 2) := by decide +kernel
theorem dX6_splitWord_90 : decode cX6_splitWord 90 = .ok (.if_icmp .ne 8, 3) := by decide +kernel
theorem dX6_splitWord_98 : decode cX6_splitWord 98 = .ok (.bipush 103, 2) := by decide +kernel
theorem dX6_splitWord_100 : decode cX6_splitWord 100 = .ok (.iastore, 1) := by decide +kernel
theorem dX6_splitWord_101 : decode cX6_splitWord 101 = .ok (.iload_n 2, 1) := by decide +kernel
theorem dX6_splitWord_102 : decode cX6_splitWord 102 = .ok (.iconst 2, 1) := by decide +kernel
theorem dX6_splitWord_103 : decode cX6_splitWord 103 = .ok (.iadd, 1) := by decide +kernel
theorem dX6_splitWord_104 : decode cX6_splitWord 104 = .ok (.ireturn, 1) := by decide +kernel
theorem dX6_splitWord_93 : decode cX6_splitWord 93 = .ok (.bipush 108, 2) := by decide +kernel
theorem dX6_splitWord_95 : decode cX6_splitWord 95 = .ok (.goto 5, 3) := by decide +kernel
theorem dX6_splitWord_57 : decode cX6_splitWord 57 = .ok (.aload_n 0, 1) := by decide +kernel
theorem dX6_splitWord_58 : decode cX6_splitWord 58 = .ok (.getfield 9, 3) := by decide +kernel
theorem dX6_splitWord_61 : decode cX6_splitWord 61 = .ok (.iload_n 2, 1) := by decide +kernel
theorem dX6_splitWord_62 : decode cX6_splitWord 62 = .ok (.iconst 1, 1) := by decide +kernel
theorem dX6_splitWord_63 : decode cX6_splitWord 63 = .ok (.iadd, 1) := by decide +kernel
theorem dX6_splitWord_64 : decode cX6_splitWord 64 = .ok (.caload, 1) := by decide +kernel
theorem dX6_splitWord_65 : decode cX6_splitWord 65 = .ok (.bipush 61, 2) := by decide +kernel
theorem dX6_splitWord_67 : decode cX6_splitWord 67 = .ok (.if_icmp .ne 7, 3) := by decide +kernel
theorem dX6_splitWord_70 : decode cX6_splitWord 70 = .ok (.iconst 1, 1) := by decide +kernel
theorem dX6_splitWord_71 : decode cX6_splitWord 71 = .ok (.goto 4, 3) := by decide +kernel
theorem dX6_splitWord_41 : decode cX6_splitWord 41 = .ok (.iload_n 3, 1) := by decide +kernel
theorem dX6_splitWord_42 : decode cX6_splitWord 42 = .ok (.bipush 62, 2) := by decide +kernel
theorem dX6_splitWord_44 : decode cX6_splitWord 44 = .ok (.if_icmp .ne 30, 3) := by decide +kernel
theorem dX6_splitWord_28 : decode cX6_splitWord 28 = .ok (.aload_n 0, 1) := by decide +kernel
theorem dX6_splitWord_29 : decode cX6_splitWord 29 = .ok (.iload_n 1, 1) := by decide +kernel
theorem dX6_splitWord_30 : decode cX6_splitWord 30 = .ok (.iload_n 2, 1) := by decide +kernel
theorem dX6_splitWord_31 : decode cX6_splitWord 31 = .ok (.invokevirtual 74, 3) := by decide +kernel
theorem dX6_splitWord_34 : decode cX6_splitWord 34 = .ok (.ireturn, 1) := by decide +kernel
theorem dX6_splitWord_14 : decode cX6_splitWord 14 = .ok (.aload_n 0, 1) := by decide +kernel
theorem dX6_splitWord_15 : decode cX6_splitWord 15 = .ok (.iload_n 1, 1) := by decide +kernel
theorem dX6_splitWord_16 : decode cX6_splitWord 16 = .ok (.iload_n 2, 1) := by decide +kernel
theorem dX6_splitWord_17 : decode cX6_splitWord 17 = .ok (.invokevirtual 68, 3) := by decide +kernel
theorem dX6_splitWord_20 : decode cX6_splitWord 20 = .ok (.ireturn, 1) := by decide +kernel
theorem dX6_splitWords_0 : decode cX6_splitWords 0 = .ok (.iconst 0, 1) := by decide +kernel
theorem dX6_splitWords_1 : decode cX6_splitWords 1 = .ok (.istore_n 1, 1) := by decide +kernel
theorem dX6_splitWords_2 : decode cX6_splitWords 2 = .ok (.iconst 0, 1) := by decide +kernel
theorem dX6_splitWords_3 : decode cX6_splitWords 3 = .ok (.istore_n 2, 1) := by decide +kernel
theorem dX6_splitWords_4 : decode cX6_splitWords 4 = .ok (.iload_n 2, 1) := by decide +kernel
theorem dX6_splitWords_5 : decode cX6_splitWords 5 = .ok (.bipush 120, 2) := by decide +kernel
theorem dX6_splitWords_7 : decode cX6_splitWords 7 = .ok (.if_icmp .gt 99, 3) := by decide +kernel
theorem dX6_splitWords_10 : decode cX6_splitWords 10 = .ok (.iload_n 1, 1) := by decide +kernel
theorem dX6_splitWords_11 : decode cX6_splitWords 11 = .ok (.aload_n 0, 1) := by decide +kernel
theorem dX6_splitWords_12 : decode cX6_splitWords 12 = .ok (.getfield 39, 3) := by decide +kernel
theorem dX6_splitWords_15 : decode cX6_splitWords 15 = .ok (.if_icmp .ge 20, 3) := by decide +kernel
theorem dX6_splitWords_18 : decode cX6_splitWords 18 = .ok (.aload_n 0, 1) := by decide +kernel
theorem dX6_splitWords_19 : decode cX6_splitWords 19 = .ok (.getfield 9, 3) := by decide +kernel
theorem dX6_splitWords_22 : decode cX6_splitWords 22 = .ok (.iload_n 1, 1) := by decide +kernel
theorem dX6_splitWords_23 : decode cX6_splitWords 23 = .ok (.caload, 1) := by decide +kernel
theorem dX6_splitWords_24 : decode cX6_splitWords 24 = .ok (.bipush 32, 2) := by decide +kernel
theorem dX6_splitWords_26 : decode cX6_splitWords 26 = .ok (.if_icmp .ne 9, 3) := by decide +kernel
theorem dX6_splitWords_29 : decode cX6_splitWords 29 = .ok (.iinc 1 1, 3) := by decide +kernel
theorem dX6_splitWords_32 : decode cX6_splitWords 32 = .ok (.goto (-22), 3) := by decide +kernel
theorem dX6_splitWords_35 : decode cX6_splitWords 35 = .ok (.aload_n 0, 1) := by decide +kernel
theorem dX6_splitWords_36 : decode cX6_splitWords 36 = .ok (.getfield 21, 3) := by decide +kernel
theorem dX6_splitWords_39 : decode cX6_splitWords 39 = .ok (.iload_n 2, 1) := by decide +kernel
theorem dX6_splitWords_40 : decode cX6_splitWords 40 = .ok (.iload_n 1, 1) := by decide +kernel
theorem dX6_splitWords_41 : decode cX6_splitWords 41 = .ok (.iastore, 1) := by decide +kernel
theorem dX6_splitWords_42 : decode cX6_splitWords 42 = .ok (.aload_n 0, 1) := by decide +kernel
theorem dX6_splitWords_43 : decode cX6_splitWords 43 = .ok (.getfield 17, 3) := by decide +kernel
theorem dX6_splitWords_46 : decode cX6_splitWords 46 = .ok (.iload_n 2, 1) := by decide +kernel
theorem dX6_splitWords_47 : decode cX6_splitWords 47 = .ok (.lconst 0, 1) := by decide +kernel
theorem dX6_splitWords_48 : decode cX6_splitWords 48 = .ok (.lastore, 1) := by decide +kernel
theorem dX6_splitWords_49 : decode cX6_splitWords 49 = .ok (.iload_n 1, 1) := by decide +kernel
theorem dX6_splitWords_50 : decode cX6_splitWords 50 = .ok (.aload_n 0, 1) := by decide +kernel
theorem dX6_splitWords_51 : decode cX6_splitWords 51 = .ok (.getfield 39, 3) := by decide +kernel
theorem dX6_splitWords_54 : decode cX6_splitWords 54 = .ok (.if_icmp .lt 12, 3) := by decide +kernel
theorem dX6_splitWords_66 : decode cX6_splitWords 66 = .ok (.iload_n 2, 1) := by decide +kernel
theorem dX6_splitWords_67 : decode cX6_splitWords 67 = .ok (.bipush 120, 2) := by decide +kernel
theorem dX6_splitWords_69 : decode cX6_splitWords 69 = .ok (.if_icmp .ne 12, 3) := by decide +kernel
theorem dX6_splitWords_81 : decode cX6_splitWords 81 = .ok (.aload_n 0, 1) := by decide +kernel
theorem dX6_splitWords_82 : decode cX6_splitWords 82 = .ok (.iload_n 2, 1) := by decide +kernel
theorem dX6_splitWords_83 : decode cX6_splitWords 83 = .ok (.iload_n 1, 1) := by decide +kernel
theorem dX6_splitWords_84 : decode cX6_splitWords 84 = .ok (.invokevirtual 60, 3) := by decide +kernel
theorem dX6_splitWords_87 : decode cX6_splitWords 87 = .ok (.istore_n 1, 1) := by decide +kernel
theorem dX6_splitWords_88 : decode cX6_splitWords 88 = .ok (.aload_n 0, 1) := by decide +kernel
theorem dX6_splitWords_89 : decode cX6_splitWords 89 = .ok (.getfield 13, 3) := by decide +kernel
theorem dX6_splitWords_92 : decode cX6_splitWords 92 = .ok (.iload_n 2, 1) := by decide +kernel
theorem dX6_splitWords_93 : decode cX6_splitWords 93 = .ok (.iaload, 1) := by decide +kernel
theorem dX6_splitWords_94 : decode cX6_splitWords 94 = .ok (.bipush 63, 2) := by decide +kernel
theorem dX6_splitWords_96 : decode cX6_splitWords 96 = .ok (.if_icmp .ne 4, 3) := by decide +kernel
theorem dX6_splitWords_100 : decode cX6_splitWords 100 = .ok (.iinc 2 1, 3) := by decide +kernel
theorem dX6_splitWords_103 : decode cX6_splitWords 103 = .ok (.goto (-99), 3) := by decide +kernel
theorem dX6_splitWords_99 : decode cX6_splitWords 99 = .ok (.return_, 1) := by decide +kernel
theorem dX6_splitWords_72 : decode cX6_splitWords 72 = .ok (.aload_n 0, 1) := by decide +kernel
theorem dX6_splitWords_73 : decode cX6_splitWords 73 = .ok (.getfield 13, 3) := by decide +kernel
theorem dX6_splitWords_76 : decode cX6_splitWords 76 = .ok (.iload_n 2, 1) := by decide +kernel
theorem dX6_splitWords_77 : decode cX6_splitWords 77 = .ok (.bipush 63, 2) := by decide +kernel
theorem dX6_splitWords_79 : decode cX6_splitWords 79 = .ok (.iastore, 1) := by decide +kernel
theorem dX6_splitWords_80 : decode cX6_splitWords 80 = .ok (.return_, 1) := by decide +kernel
theorem dX6_splitWords_57 : decode cX6_splitWords 57 = .ok (.aload_n 0, 1) := by decide +kernel
theorem dX6_splitWords_58 : decode cX6_splitWords 58 = .ok (.getfield 13, 3) := by decide +kernel
theorem dX6_splitWords_61 : decode cX6_splitWords 61 = .ok (.iload_n 2, 1) := by decide +kernel
theorem dX6_splitWords_62 : decode cX6_splitWords 62 = .ok (.bipush 101, 2) := by decide +kernel
theorem dX6_splitWords_64 : decode cX6_splitWords 64 = .ok (.iastore, 1) := by decide +kernel
theorem dX6_splitWords_65 : decode cX6_splitWords 65 = .ok (.return_, 1) := by decide +kernel
theorem dX6_splitWords_106 : decode cX6_splitWords 106 = .ok (.return_, 1) := by decide +kernel
theorem dX6_isRuleName_0 : decode cX6_isRuleName 0 = .ok (.iconst 0, 1) := by decide +kernel
theorem dX6_isRuleName_1 : decode cX6_isRuleName 1 = .ok (.istore_n 3, 1) := by decide +kernel
theorem dX6_isRuleName_2 : decode cX6_isRuleName 2 = .ok (.iload_n 3, 1) := by decide +kernel
theorem dX6_isRuleName_3 : decode cX6_isRuleName 3 = .ok (.aload_n 0, 1) := by decide +kernel
theorem dX6_isRuleName_4 : decode cX6_isRuleName 4 = .ok (.getfield 49, 3) := by decide +kernel
theorem dX6_isRuleName_7 : decode cX6_isRuleName 7 = .ok (.if_icmp .ge 22, 3) := by decide +kernel
theorem dX6_isRuleName_10 : decode cX6_isRuleName 10 = .ok (.aload_n 0, 1) := by decide +kernel
theorem dX6_isRuleName_11 : decode cX6_isRuleName 11 = .ok (.getfield 24, 3) := by decide +kernel
theorem dX6_isRuleName_14 : decode cX6_isRuleName 14 = .ok (.iload_n 3, 1) := by decide +kernel
theorem dX6_isRuleName_15 : decode cX6_isRuleName 15 = .ok (.laload, 1) := by decide +kernel
theorem dX6_isRuleName_16 : decode cX6_isRuleName 16 = .ok (.lload_n 1, 1) := by decide +kernel
theorem dX6_isRuleName_17 : decode cX6_isRuleName 17 = .ok (.lcmp, 1) := by decide +kernel
theorem dX6_isRuleName_18 : decode cX6_isRuleName 18 = .ok (.ifCond .ne 5, 3) := by decide +kernel
theorem dX6_isRuleName_23 : decode cX6_isRuleName 23 = .ok (.iinc 3 1, 3) := by decide +kernel
theorem dX6_isRuleName_26 : decode cX6_isRuleName 26 = .ok (.goto (-24), 3) := by decide +kernel
theorem dX6_isRuleName_21 : decode cX6_isRuleName 21 = .ok (.iconst 1, 1) := by decide +kernel
theorem dX6_isRuleName_22 : decode cX6_isRuleName 22 = .ok (.ireturn, 1) := by decide +kernel
theorem dX6_isRuleName_29 : decode cX6_isRuleName 29 = .ok (.iconst 0, 1) := by decide +kernel
theorem dX6_isRuleName_30 : decode cX6_isRuleName 30 = .ok (.ireturn, 1) := by decide +kernel
theorem dX6_skipSign_0 : decode cX6_skipSign 0 = .ok (.aload_n 0, 1) := by decide +kernel
theorem dX6_skipSign_1 : decode cX6_skipSign 1 = .ok (.getfield 13, 3) := by decide +kernel
theorem dX6_skipSign_4 : decode cX6_skipSign 4 = .ok (.aload_n 0, 1) := by decide +kernel
theorem dX6_skipSign_5 : decode cX6_skipSign 5 = .ok (.getfield 43, 3) := by decide +kernel
theorem dX6_skipSign_8 : decode cX6_skipSign 8 = .ok (.iaload, 1) := by decide +kernel
theorem dX6_skipSign_9 : decode cX6_skipSign 9 = .ok (.iload_n 1, 1) := by decide +kernel
theorem dX6_skipSign_10 : decode cX6_skipSign 10 = .ok (.if_icmp .ne 12, 3) := by decide +kernel
theorem dX6_skipSign_22 : decode cX6_skipSign 22 = .ok (.iconst 0, 1) := by decide +kernel
theorem dX6_skipSign_23 : decode cX6_skipSign 23 = .ok (.ireturn, 1) := by decide +kernel
theorem dX6_skipSign_13 : decode cX6_skipSign 13 = .ok (.aload_n 0, 1) := by decide +kernel
theorem dX6_skipSign_14 : decode cX6_skipSign 14 = .ok (.getfield 43, 3) := by decide +kernel
theorem dX6_skipSign_17 : decode cX6_skipSign 17 = .ok (.bipush 120, 2) := by decide +kernel
theorem dX6_skipSign_19 : decode cX6_skipSign 19 = .ok (.if_icmp .lt 5, 3) := by decide +kernel
theorem dX6_skipSign_24 : decode cX6_skipSign 24 = .ok (.aload_n 0, 1) := by decide +kernel
theorem dX6_skipSign_25 : decode cX6_skipSign 25 = .ok (.dup, 1) := by decide +kernel
theorem dX6_skipSign_26 : decode cX6_skipSign 26 = .ok (.getfield 43, 3) := by decide +kernel
theorem dX6_skipSign_29 : decode cX6_skipSign 29 = .ok (.iconst 1, 1) := by decide +kernel
theorem dX6_skipSign_30 : decode cX6_skipSign 30 = .ok (.iadd, 1) := by decide +kernel
theorem dX6_skipSign_31 : decode cX6_skipSign 31 = .ok (.putfield 43, 3) := by decide +kernel
theorem dX6_skipSign_34 : decode cX6_skipSign 34 = .ok (.iconst 1, 1) := by decide +kernel
theorem dX6_skipSign_35 : decode cX6_skipSign 35 = .ok (.ireturn, 1) := by decide +kernel
theorem dX6_readFactor_0 : decode cX6_readFactor 0 = .ok (.aload_n 0, 1) := by decide +kernel
theorem dX6_readFactor_1 : decode cX6_readFactor 1 = .ok (.bipush 48, 2) := by decide +kernel
theorem dX6_readFactor_3 : decode cX6_readFactor 3 = .ok (.invokevirtual 56, 3) := by decide +kernel
theorem dX6_readFactor_6 : decode cX6_readFactor 6 = .ok (.ifCond .ne 12, 3) := by decide +kernel
theorem dX6_readFactor_18 : decode cX6_readFactor 18 = .ok (.iconst 1, 1) := by decide +kernel
theorem dX6_readFactor_19 : decode cX6_readFactor 19 = .ok (.ireturn, 1) := by decide +kernel
theorem dX6_readFactor_9 : decode cX6_readFactor 9 = .ok (.aload_n 0, 1) := by decide +kernel
theorem dX6_readFactor_10 : decode cX6_readFactor 10 = .ok (.bipush 97, 2) := by decide +kernel
theorem dX6_readFactor_12 : decode cX6_readFactor 12 = .ok (.invokevirtual 56, 3) := by decide +kernel
theorem dX6_readFactor_15 : decode cX6_readFactor 15 = .ok (.ifCond .eq 5, 3) := by decide +kernel
theorem dX6_readFactor_20 : decode cX6_readFactor 20 = .ok (.iload_n 1, 1) := by decide +kernel
theorem dX6_readFactor_21 : decode cX6_readFactor 21 = .ok (.bipush 8, 2) := by decide +kernel
theorem dX6_readFactor_23 : decode cX6_readFactor 23 = .ok (.if_icmp .ge 35, 3) := by decide +kernel
theorem dX6_readFactor_58 : decode cX6_readFactor 58 = .ok (.iconst 0, 1) := by decide +kernel
theorem dX6_readFactor_59 : decode cX6_readFactor 59 = .ok (.ireturn, 1) := by decide +kernel
theorem dX6_readFactor_26 : decode cX6_readFactor 26 = .ok (.aload_n 0, 1) := by decide +kernel
theorem dX6_readFactor_27 : decode cX6_readFactor 27 = .ok (.bipush 40, 2) := by decide +kernel
theorem dX6_readFactor_29 : decode cX6_readFactor 29 = .ok (.invokevirtual 56, 3) := by decide +kernel
theorem dX6_readFactor_32 : decode cX6_readFactor 32 = .ok (.ifCond .eq 26, 3) := by decide +kernel
theorem dX6_readFactor_35 : decode cX6_readFactor 35 = .ok (.aload_n 0, 1) := by decide +kernel
theorem dX6_readFactor_36 : decode cX6_readFactor 36 = .ok (.iload_n 1, 1) := by decide +kernel
theorem dX6_readFactor_37 : decode cX6_readFactor 37 = .ok (.iconst 1, 1) := by decide +kernel
theorem dX6_readFactor_38 : decode cX6_readFactor 38 = .ok (.iadd, 1) := by decide +kernel
theorem dX6_readFactor_39 : decode cX6_readFactor 39 = .ok (.invokevirtual 92, 3) := by decide +kernel
theorem dX6_readFactor_42 : decode cX6_readFactor 42 = .ok (.ifCond .eq 16, 3) := by decide +kernel
theorem dX6_readFactor_45 : decode cX6_readFactor 45 = .ok (.aload_n 0, 1) := by decide +kernel
theorem dX6_readFactor_46 : decode cX6_readFactor 46 = .ok (.bipush 41, 2) := by decide +kernel
theorem dX6_readFactor_48 : decode cX6_readFactor 48 = .ok (.invokevirtual 56, 3) := by decide +kernel
theorem dX6_readFactor_51 : decode cX6_readFactor 51 = .ok (.ifCond .eq 7, 3) := by decide +kernel
theorem dX6_readFactor_54 : decode cX6_readFactor 54 = .ok (.iconst 1, 1) := by decide +kernel
theorem dX6_readFactor_55 : decode cX6_readFactor 55 = .ok (.goto 4, 3) := by decide +kernel
theorem dX6_readTerm_0 : decode cX6_readTerm 0 = .ok (.aload_n 0, 1) := by decide +kernel
theorem dX6_readTerm_1 : decode cX6_readTerm 1 = .ok (.iload_n 1, 1) := by decide +kernel
theorem dX6_readTerm_2 : decode cX6_readTerm 2 = .ok (.invokevirtual 101, 3) := by decide +kernel
theorem dX6_readTerm_5 : decode cX6_readTerm 5 = .ok (.istore_n 2, 1) := by decide +kernel
theorem dX6_readTerm_6 : decode cX6_readTerm 6 = .ok (.iconst 0, 1) := by decide +kernel
theorem dX6_readTerm_7 : decode cX6_readTerm 7 = .ok (.istore_n 3, 1) := by decide +kernel
theorem dX6_readTerm_8 : decode cX6_readTerm 8 = .ok (.iload_n 3, 1) := by decide +kernel
theorem dX6_readTerm_9 : decode cX6_readTerm 9 = .ok (.bipush 120, 2) := by decide +kernel
theorem dX6_readTerm_11 : decode cX6_readTerm 11 = .ok (.if_icmp .ge 37, 3) := by decide +kernel
theorem dX6_readTerm_14 : decode cX6_readTerm 14 = .ok (.iload_n 2, 1) := by decide +kernel
theorem dX6_readTerm_15 : decode cX6_readTerm 15 = .ok (.ifCond .eq 33, 3) := by decide +kernel
theorem dX6_readTerm_18 : decode cX6_readTerm 18 = .ok (.aload_n 0, 1) := by decide +kernel
theorem dX6_readTerm_19 : decode cX6_readTerm 19 = .ok (.bipush 42, 2) := by decide +kernel
theorem dX6_readTerm_21 : decode cX6_readTerm 21 = .ok (.invokevirtual 56, 3) := by decide +kernel
theorem dX6_readTerm_24 : decode cX6_readTerm 24 = .ok (.ifCond .ne 12, 3) := by decide +kernel
theorem dX6_readTerm_36 : decode cX6_readTerm 36 = .ok (.aload_n 0, 1) := by decide +kernel
theorem dX6_readTerm_37 : decode cX6_readTerm 37 = .ok (.iload_n 1, 1) := by decide +kernel
theorem dX6_readTerm_38 : decode cX6_readTerm 38 = .ok (.invokevirtual 101, 3) := by decide +kernel
theorem dX6_readTerm_41 : decode cX6_readTerm 41 = .ok (.istore_n 2, 1) := by decide +kernel
theorem dX6_readTerm_42 : decode cX6_readTerm 42 = .ok (.iinc 3 1, 3) := by decide +kernel
theorem dX6_readTerm_45 : decode cX6_readTerm 45 = .ok (.goto (-37), 3) := by decide +kernel
theorem dX6_readTerm_27 : decode cX6_readTerm 27 = .ok (.aload_n 0, 1) := by decide +kernel
theorem dX6_readTerm_28 : decode cX6_readTerm 28 = .ok (.bipush 47, 2) := by decide +kernel
theorem dX6_readTerm_30 : decode cX6_readTerm 30 = .ok (.invokevirtual 56, 3) := by decide +kernel
theorem dX6_readTerm_33 : decode cX6_readTerm 33 = .ok (.ifCond .eq 15, 3) := by decide +kernel
theorem dX6_readTerm_48 : decode cX6_readTerm 48 = .ok (.iload_n 2, 1) := by decide +kernel
theorem dX6_readTerm_49 : decode cX6_readTerm 49 = .ok (.ireturn, 1) := by decide +kernel
theorem dX6_readSide_0 : decode cX6_readSide 0 = .ok (.aload_n 0, 1) := by decide +kernel
theorem dX6_readSide_1 : decode cX6_readSide 1 = .ok (.bipush 45, 2) := by decide +kernel
theorem dX6_readSide_3 : decode cX6_readSide 3 = .ok (.invokevirtual 56, 3) := by decide +kernel
theorem dX6_readSide_6 : decode cX6_readSide 6 = .ok (.pop, 1) := by decide +kernel
theorem dX6_readSide_7 : decode cX6_readSide 7 = .ok (.aload_n 0, 1) := by decide +kernel
theorem dX6_readSide_8 : decode cX6_readSide 8 = .ok (.iload_n 1, 1) := by decide +kernel
theorem dX6_readSide_9 : decode cX6_readSide 9 = .ok (.invokevirtual 98, 3) := by decide +kernel
theorem dX6_readSide_12 : decode cX6_readSide 12 = .ok (.istore_n 2, 1) := by decide +kernel
theorem dX6_readSide_13 : decode cX6_readSide 13 = .ok (.iconst 0, 1) := by decide +kernel
theorem dX6_readSide_14 : decode cX6_readSide 14 = .ok (.istore_n 3, 1) := by decide +kernel
theorem dX6_readSide_15 : decode cX6_readSide 15 = .ok (.iload_n 3, 1) := by decide +kernel
theorem dX6_readSide_16 : decode cX6_readSide 16 = .ok (.bipush 120, 2) := by decide +kernel
theorem dX6_readSide_18 : decode cX6_readSide 18 = .ok (.if_icmp .ge 37, 3) := by decide +kernel
theorem dX6_readSide_21 : decode cX6_readSide 21 = .ok (.iload_n 2, 1) := by decide +kernel
theorem dX6_readSide_22 : decode cX6_readSide 22 = .ok (.ifCond .eq 33, 3) := by decide +kernel
theorem dX6_readSide_25 : decode cX6_readSide 25 = .ok (.aload_n 0, 1) := by decide +kernel
theorem dX6_readSide_26 : decode cX6_readSide 26 = .ok (.bipush 43, 2) := by decide +kernel
theorem dX6_readSide_28 : decode cX6_readSide 28 = .ok (.invokevirtual 56, 3) := by decide +kernel
theorem dX6_readSide_31 : decode cX6_readSide 31 = .ok (.ifCond .ne 12, 3) := by decide +kernel
theorem dX6_readSide_43 : decode cX6_readSide 43 = .ok (.aload_n 0, 1) := by decide +kernel
theorem dX6_readSide_44 : decode cX6_readSide 44 = .ok (.iload_n 1, 1) := by decide +kernel
theorem dX6_readSide_45 : decode cX6_readSide 45 = .ok (.invokevirtual 98, 3) := by decide +kernel
theorem dX6_readSide_48 : decode cX6_readSide 48 = .ok (.istore_n 2, 1) := by decide +kernel
theorem dX6_readSide_49 : decode cX6_readSide 49 = .ok (.iinc 3 1, 3) := by decide +kernel
theorem dX6_readSide_52 : decode cX6_readSide 52 = .ok (.goto (-37), 3) := by decide +kernel
theorem dX6_readSide_34 : decode cX6_readSide 34 = .ok (.aload_n 0, 1) := by decide +kernel
theorem dX6_readSide_35 : decode cX6_readSide 35 = .ok (.bipush 45, 2) := by decide +kernel
theorem dX6_readSide_37 : decode cX6_readSide 37 = .ok (.invokevirtual 56, 3) := by decide +kernel
theorem dX6_readSide_40 : decode cX6_readSide 40 = .ok (.ifCond .eq 15, 3) := by decide +kernel
theorem dX6_readSide_55 : decode cX6_readSide 55 = .ok (.iload_n 2, 1) := by decide +kernel
theorem dX6_readSide_56 : decode cX6_readSide 56 = .ok (.ireturn, 1) := by decide +kernel
theorem dX6_skipCompareSign_0 : decode cX6_skipCompareSign 0 = .ok (.aload_n 0, 1) := by decide +kernel
theorem dX6_skipCompareSign_1 : decode cX6_skipCompareSign 1 = .ok (.bipush 60, 2) := by decide +kernel
theorem dX6_skipCompareSign_3 : decode cX6_skipCompareSign 3 = .ok (.invokevirtual 56, 3) := by decide +kernel
theorem dX6_skipCompareSign_6 : decode cX6_skipCompareSign 6 = .ok (.ifCond .ne 39, 3) := by decide +kernel
theorem dX6_skipCompareSign_45 : decode cX6_skipCompareSign 45 = .ok (.iconst 1, 1) := by decide +kernel
theorem dX6_skipCompareSign_46 : decode cX6_skipCompareSign 46 = .ok (.goto 4, 3) := by decide +kernel
theorem dX6_skipCompareSign_50 : decode cX6_skipCompareSign 50 = .ok (.ireturn, 1) := by decide +kernel
theorem dX6_skipCompareSign_9 : decode cX6_skipCompareSign 9 = .ok (.aload_n 0, 1) := by decide +kernel
theorem dX6_skipCompareSign_10 : decode cX6_skipCompareSign 10 = .ok (.bipush 108, 2) := by decide +kernel
theorem dX6_skipCompareSign_12 : decode cX6_skipCompareSign 12 = .ok (.invokevirtual 56, 3) := by decide +kernel
theorem dX6_skipCompareSign_15 : decode cX6_skipCompareSign 15 = .ok (.ifCond .ne 30, 3) := by decide +kernel
theorem dX6_skipCompareSign_18 : decode cX6_skipCompareSign 18 = .ok (.aload_n 0, 1) := by decide +kernel
theorem dX6_skipCompareSign_19 : decode cX6_skipCompareSign 19 = .ok (.bipush 61, 2) := by decide +kernel
theorem dX6_skipCompareSign_21 : decode cX6_skipCompareSign 21 = .ok (.invokevirtual 56, 3) := by decide +kernel
theorem dX6_skipCompareSign_24 : decode cX6_skipCompareSign 24 = .ok (.ifCond .ne 21, 3) := by decide +kernel
theorem dX6_skipCompareSign_27 : decode cX6_skipCompareSign 27 = .ok (.aload_n 0, 1) := by decide +kernel
theorem dX6_skipCompareSign_28 : decode cX6_skipCompareSign 28 = .ok (.bipush 103, 2) := by decide +kernel
theorem dX6_skipCompareSign_30 : decode cX6_skipCompareSign 30 = .ok (.invokevirtual 56, 3) := by decide +kernel
theorem dX6_skipCompareSign_33 : decode cX6_skipCompareSign 33 = .ok (.ifCond .ne 12, 3) := by decide +kernel
theorem dX6_skipCompareSign_36 : decode cX6_skipCompareSign 36 = .ok (.aload_n 0, 1) := by decide +kernel
theorem dX6_skipCompareSign_37 : decode cX6_skipCompareSign 37 = .ok (.bipush 62, 2) := by decide +kernel
theorem dX6_skipCompareSign_39 : decode cX6_skipCompareSign 39 = .ok (.invokevirtual 56, 3) := by decide +kernel
theorem dX6_skipCompareSign_42 : decode cX6_skipCompareSign 42 = .ok (.ifCond .eq 7, 3) := by decide +kernel
theorem dX6_skipCompareSign_49 : decode cX6_skipCompareSign 49 = .ok (.iconst 0, 1) := by decide +kernel
theorem dX6_readClause_0 : decode cX6_readClause 0 = .ok (.aload_n 0, 1) := by decide +kernel
theorem dX6_readClause_1 : decode cX6_readClause 1 = .ok (.iconst 0, 1) := by decide +kernel
theorem dX6_readClause_2 : decode cX6_readClause 2 = .ok (.invokevirtual 92, 3) := by decide +kernel
theorem dX6_readClause_5 : decode cX6_readClause 5 = .ok (.ifCond .eq 22, 3) := by decide +kernel
theorem dX6_readClause_27 : decode cX6_readClause 27 = .ok (.iconst 0, 1) := by decide +kernel
theorem dX6_readClause_28 : decode cX6_readClause 28 = .ok (.ireturn, 1) := by decide +kernel
theorem dX6_readClause_8 : decode cX6_readClause 8 = .ok (.aload_n 0, 1) := by decide +kernel
theorem dX6_readClause_9 : decode cX6_readClause 9 = .ok (.invokevirtual 95, 3) := by decide +kernel
theorem dX6_readClause_12 : decode cX6_readClause 12 = .ok (.ifCond .eq 15, 3) := by decide +kernel
theorem dX6_readClause_15 : decode cX6_readClause 15 = .ok (.aload_n 0, 1) := by decide +kernel
theorem dX6_readClause_16 : decode cX6_readClause 16 = .ok (.iconst 0, 1) := by decide +kernel
theorem dX6_readClause_17 : decode cX6_readClause 17 = .ok (.invokevirtual 92, 3) := by decide +kernel
theorem dX6_readClause_20 : decode cX6_readClause 20 = .ok (.ifCond .eq 7, 3) := by decide +kernel
theorem dX6_readClause_23 : decode cX6_readClause 23 = .ok (.iconst 1, 1) := by decide +kernel
theorem dX6_readClause_24 : decode cX6_readClause 24 = .ok (.goto 4, 3) := by decide +kernel
theorem dX6_readRule_0 : decode cX6_readRule 0 = .ok (.aload_n 0, 1) := by decide +kernel
theorem dX6_readRule_1 : decode cX6_readRule 1 = .ok (.getfield 13, 3) := by decide +kernel
theorem dX6_readRule_4 : decode cX6_readRule 4 = .ok (.aload_n 0, 1) := by decide +kernel
theorem dX6_readRule_5 : decode cX6_readRule 5 = .ok (.getfield 43, 3) := by decide +kernel
theorem dX6_readRule_8 : decode cX6_readRule 8 = .ok (.iaload, 1) := by decide +kernel
theorem dX6_readRule_9 : decode cX6_readRule 9 = .ok (.bipush 97, 2) := by decide +kernel
theorem dX6_readRule_11 : decode cX6_readRule 11 = .ok (.if_icmp .ne 28, 3) := by decide +kernel
theorem dX6_readRule_39 : decode cX6_readRule 39 = .ok (.iconst 0, 1) := by decide +kernel
theorem dX6_readRule_40 : decode cX6_readRule 40 = .ok (.ireturn, 1) := by decide +kernel
theorem dX6_readRule_14 : decode cX6_readRule 14 = .ok (.aload_n 0, 1) := by decide +kernel
theorem dX6_readRule_15 : decode cX6_readRule 15 = .ok (.getfield 49, 3) := by decide +kernel
theorem dX6_readRule_18 : decode cX6_readRule 18 = .ok (.bipush 12, 2) := by decide +kernel
theorem dX6_readRule_20 : decode cX6_readRule 20 = .ok (.if_icmp .ge 19, 3) := by decide +kernel
theorem dX6_readRule_23 : decode cX6_readRule 23 = .ok (.aload_n 0, 1) := by decide +kernel
theorem dX6_readRule_24 : decode cX6_readRule 24 = .ok (.aload_n 0, 1) := by decide +kernel
theorem dX6_readRule_25 : decode cX6_readRule 25 = .ok (.getfield 17, 3) := by decide +kernel
theorem dX6_readRule_28 : decode cX6_readRule 28 = .ok (.aload_n 0, 1) := by decide +kernel
theorem dX6_readRule_29 : decode cX6_readRule 29 = .ok (.getfield 43, 3) := by decide +kernel
theorem dX6_readRule_32 : decode cX6_readRule 32 = .ok (.laload, 1) := by decide +kernel
theorem dX6_readRule_33 : decode cX6_readRule 33 = .ok (.invokevirtual 85, 3) := by decide +kernel
theorem dX6_readRule_36 : decode cX6_readRule 36 = .ok (.ifCond .eq 5, 3) := by decide +kernel
theorem dX6_readRule_41 : decode cX6_readRule 41 = .ok (.aload_n 0, 1) := by decide +kernel
theorem dX6_readRule_42 : decode cX6_readRule 42 = .ok (.getfield 24, 3) := by decide +kernel
theorem dX6_readRule_45 : decode cX6_readRule 45 = .ok (.aload_n 0, 1) := by decide +kernel
theorem dX6_readRule_46 : decode cX6_readRule 46 = .ok (.getfield 49, 3) := by decide +kernel
theorem dX6_readRule_49 : decode cX6_readRule 49 = .ok (.aload_n 0, 1) := by decide +kernel
theorem dX6_readRule_50 : decode cX6_readRule 50 = .ok (.getfield 17, 3) := by decide +kernel
theorem dX6_readRule_53 : decode cX6_readRule 53 = .ok (.aload_n 0, 1) := by decide +kernel
theorem dX6_readRule_54 : decode cX6_readRule 54 = .ok (.getfield 43, 3) := by decide +kernel
theorem dX6_readRule_57 : decode cX6_readRule 57 = .ok (.laload, 1) := by decide +kernel
theorem dX6_readRule_58 : decode cX6_readRule 58 = .ok (.lastore, 1) := by decide +kernel
theorem dX6_readRule_59 : decode cX6_readRule 59 = .ok (.aload_n 0, 1) := by decide +kernel
theorem dX6_readRule_60 : decode cX6_readRule 60 = .ok (.bipush 97, 2) := by decide +kernel
theorem dX6_readRule_62 : decode cX6_readRule 62 = .ok (.invokevirtual 56, 3) := by decide +kernel
theorem dX6_readRule_65 : decode cX6_readRule 65 = .ok (.ifCond .eq 12, 3) := by decide +kernel
theorem dX6_readRule_77 : decode cX6_readRule 77 = .ok (.iconst 0, 1) := by decide +kernel
theorem dX6_readRule_78 : decode cX6_readRule 78 = .ok (.ireturn, 1) := by decide +kernel
theorem dX6_readRule_68 : decode cX6_readRule 68 = .ok (.aload_n 0, 1) := by decide +kernel
theorem dX6_readRule_69 : decode cX6_readRule 69 = .ok (.bipush 58, 2) := by decide +kernel
theorem dX6_readRule_71 : decode cX6_readRule 71 = .ok (.invokevirtual 56, 3) := by decide +kernel
theorem dX6_readRule_74 : decode cX6_readRule 74 = .ok (.ifCond .ne 5, 3) := by decide +kernel
theorem dX6_readRule_79 : decode cX6_readRule 79 = .ok (.aload_n 0, 1) := by decide +kernel
theorem dX6_readRule_80 : decode cX6_readRule 80 = .ok (.getfield 27, 3) := by decide +kernel
theorem dX6_readRule_83 : decode cX6_readRule 83 = .ok (.aload_n 0, 1) := by decide +kernel
theorem dX6_readRule_84 : decode cX6_readRule 84 = .ok (.getfield 49, 3) := by decide +kernel
theorem dX6_readRule_87 : decode cX6_readRule 87 = .ok (.aload_n 0, 1) := by decide +kernel
theorem dX6_readRule_88 : decode cX6_readRule 88 = .ok (.getfield 43, 3) := by decide +kernel
theorem dX6_readRule_91 : decode cX6_readRule 91 = .ok (.iastore, 1) := by decide +kernel
theorem dX6_readRule_92 : decode cX6_readRule 92 = .ok (.aload_n 0, 1) := by decide +kernel
theorem dX6_readRule_93 : decode cX6_readRule 93 = .ok (.getfield 30, 3) := by decide +kernel
theorem dX6_readRule_96 : decode cX6_readRule 96 = .ok (.aload_n 0, 1) := by decide +kernel
theorem dX6_readRule_97 : decode cX6_readRule 97 = .ok (.getfield 49, 3) := by decide +kernel
theorem dX6_readRule_100 : decode cX6_readRule 100 = .ok (.iconst 0, 1) := by decide +kernel
theorem dX6_readRule_101 : decode cX6_readRule 101 = .ok (.iastore, 1) := by decide +kernel
theorem dX6_readRule_102 : decode cX6_readRule 102 = .ok (.aload_n 0, 1) := by decide +kernel
theorem dX6_readRule_103 : decode cX6_readRule 103 = .ok (.invokevirtual 89, 3) := by decide +kernel
theorem dX6_readRule_106 : decode cX6_readRule 106 = .ok (.ifCond .ne 5, 3) := by decide +kernel
theorem dX6_readRule_111 : decode cX6_readRule 111 = .ok (.iconst 0, 1) := by decide +kernel
theorem dX6_readRule_112 : decode cX6_readRule 112 = .ok (.istore_n 1, 1) := by decide +kernel
theorem dX6_readRule_113 : decode cX6_readRule 113 = .ok (.iload_n 1, 1) := by decide +kernel
theorem dX6_readRule_114 : decode cX6_readRule 114 = .ok (.bipush 120, 2) := by decide +kernel
theorem dX6_readRule_116 : decode cX6_readRule 116 = .ok (.if_icmp .ge 27, 3) := by decide +kernel
theorem dX6_readRule_119 : decode cX6_readRule 119 = .ok (.aload_n 0, 1) := by decide +kernel
theorem dX6_readRule_120 : decode cX6_readRule 120 = .ok (.bipush 33, 2) := by decide +kernel
theorem dX6_readRule_122 : decode cX6_readRule 122 = .ok (.invokevirtual 56, 3) := by decide +kernel
theorem dX6_readRule_125 : decode cX6_readRule 125 = .ok (.ifCond .eq 18, 3) := by decide +kernel
theorem dX6_readRule_128 : decode cX6_readRule 128 = .ok (.aload_n 0, 1) := by decide +kernel
theorem dX6_readRule_129 : decode cX6_readRule 129 = .ok (.invokevirtual 89, 3) := by decide +kernel
theorem dX6_readRule_132 : decode cX6_readRule 132 = .ok (.ifCond .ne 5, 3) := by decide +kernel
theorem dX6_readRule_137 : decode cX6_readRule 137 = .ok (.iinc 1 1, 3) := by decide +kernel
theorem dX6_readRule_140 : decode cX6_readRule 140 = .ok (.goto (-27), 3) := by decide +kernel
theorem dX6_readRule_135 : decode cX6_readRule 135 = .ok (.iconst 0, 1) := by decide +kernel
theorem dX6_readRule_136 : decode cX6_readRule 136 = .ok (.ireturn, 1) := by decide +kernel
theorem dX6_readRule_143 : decode cX6_readRule 143 = .ok (.aload_n 0, 1) := by decide +kernel
theorem dX6_readRule_144 : decode cX6_readRule 144 = .ok (.bipush 64, 2) := by decide +kernel
theorem dX6_readRule_146 : decode cX6_readRule 146 = .ok (.invokevirtual 56, 3) := by decide +kernel
theorem dX6_readRule_149 : decode cX6_readRule 149 = .ok (.ifCond .eq 33, 3) := by decide +kernel
theorem dX6_readRule_182 : decode cX6_readRule 182 = .ok (.aload_n 0, 1) := by decide +kernel
theorem dX6_readRule_183 : decode cX6_readRule 183 = .ok (.dup, 1) := by decide +kernel
theorem dX6_readRule_184 : decode cX6_readRule 184 = .ok (.getfield 49, 3) := by decide +kernel
theorem dX6_readRule_187 : decode cX6_readRule 187 = .ok (.iconst 1, 1) := by decide +kernel
theorem dX6_readRule_188 : decode cX6_readRule 188 = .ok (.iadd, 1) := by decide +kernel
theorem dX6_readRule_189 : decode cX6_readRule 189 = .ok (.putfield 49, 3) := by decide +kernel
theorem dX6_readRule_192 : decode cX6_readRule 192 = .ok (.iconst 1, 1) := by decide +kernel
theorem dX6_readRule_193 : decode cX6_readRule 193 = .ok (.ireturn, 1) := by decide +kernel
theorem dX6_readRule_152 : decode cX6_readRule 152 = .ok (.aload_n 0, 1) := by decide +kernel
theorem dX6_readRule_153 : decode cX6_readRule 153 = .ok (.getfield 30, 3) := by decide +kernel
theorem dX6_readRule_156 : decode cX6_readRule 156 = .ok (.aload_n 0, 1) := by decide +kernel
theorem dX6_readRule_157 : decode cX6_readRule 157 = .ok (.getfield 49, 3) := by decide +kernel
theorem dX6_readRule_160 : decode cX6_readRule 160 = .ok (.aload_n 0, 1) := by decide +kernel
theorem dX6_readRule_161 : decode cX6_readRule 161 = .ok (.getfield 17, 3) := by decide +kernel
theorem dX6_readRule_164 : decode cX6_readRule 164 = .ok (.aload_n 0, 1) := by decide +kernel
theorem dX6_readRule_165 : decode cX6_readRule 165 = .ok (.getfield 43, 3) := by decide +kernel
theorem dX6_readRule_168 : decode cX6_readRule 168 = .ok (.laload, 1) := by decide +kernel
theorem dX6_readRule_169 : decode cX6_readRule 169 = .ok (.l2i, 1) := by decide +kernel
theorem dX6_readRule_170 : decode cX6_readRule 170 = .ok (.iastore, 1) := by decide +kernel
theorem dX6_readRule_171 : decode cX6_readRule 171 = .ok (.aload_n 0, 1) := by decide +kernel
theorem dX6_readRule_172 : decode cX6_readRule 172 = .ok (.bipush 48, 2) := by decide +kernel
theorem dX6_readRule_174 : decode cX6_readRule 174 = .ok (.invokevirtual 56, 3) := by decide +kernel
theorem dX6_readRule_177 : decode cX6_readRule 177 = .ok (.ifCond .ne 5, 3) := by decide +kernel
theorem dX6_readRule_180 : decode cX6_readRule 180 = .ok (.iconst 0, 1) := by decide +kernel
theorem dX6_readRule_181 : decode cX6_readRule 181 = .ok (.ireturn, 1) := by decide +kernel
theorem dX6_readRule_109 : decode cX6_readRule 109 = .ok (.iconst 0, 1) := by decide +kernel
theorem dX6_readRule_110 : decode cX6_readRule 110 = .ok (.ireturn, 1) := by decide +kernel
theorem dX6_readRules_0 : decode cX6_readRules 0 = .ok (.aload_n 0, 1) := by decide +kernel
theorem dX6_readRules_1 : decode cX6_readRules 1 = .ok (.invokevirtual 46, 3) := by decide +kernel
theorem dX6_readRules_4 : decode cX6_readRules 4 = .ok (.aload_n 0, 1) := by decide +kernel
theorem dX6_readRules_5 : decode cX6_readRules 5 = .ok (.iconst 0, 1) := by decide +kernel
theorem dX6_readRules_6 : decode cX6_readRules 6 = .ok (.putfield 43, 3) := by decide +kernel
theorem dX6_readRules_9 : decode cX6_readRules 9 = .ok (.aload_n 0, 1) := by decide +kernel
theorem dX6_readRules_10 : decode cX6_readRules 10 = .ok (.iconst 0, 1) := by decide +kernel
theorem dX6_readRules_11 : decode cX6_readRules 11 = .ok (.putfield 49, 3) := by decide +kernel
theorem dX6_readRules_14 : decode cX6_readRules 14 = .ok (.iconst 0, 1) := by decide +kernel
theorem dX6_readRules_15 : decode cX6_readRules 15 = .ok (.istore_n 1, 1) := by decide +kernel
theorem dX6_readRules_16 : decode cX6_readRules 16 = .ok (.iload_n 1, 1) := by decide +kernel
theorem dX6_readRules_17 : decode cX6_readRules 17 = .ok (.bipush 12, 2) := by decide +kernel
theorem dX6_readRules_19 : decode cX6_readRules 19 = .ok (.if_icmp .gt 61, 3) := by decide +kernel
theorem dX6_readRules_22 : decode cX6_readRules 22 = .ok (.aload_n 0, 1) := by decide +kernel
theorem dX6_readRules_23 : decode cX6_readRules 23 = .ok (.invokevirtual 52, 3) := by decide +kernel
theorem dX6_readRules_26 : decode cX6_readRules 26 = .ok (.ifCond .ne 5, 3) := by decide +kernel
theorem dX6_readRules_31 : decode cX6_readRules 31 = .ok (.aload_n 0, 1) := by decide +kernel
theorem dX6_readRules_32 : decode cX6_readRules 32 = .ok (.getfield 13, 3) := by decide +kernel
theorem dX6_readRules_35 : decode cX6_readRules 35 = .ok (.aload_n 0, 1) := by decide +kernel
theorem dX6_readRules_36 : decode cX6_readRules 36 = .ok (.getfield 43, 3) := by decide +kernel
theorem dX6_readRules_39 : decode cX6_readRules 39 = .ok (.iaload, 1) := by decide +kernel
theorem dX6_readRules_40 : decode cX6_readRules 40 = .ok (.bipush 101, 2) := by decide +kernel
theorem dX6_readRules_42 : decode cX6_readRules 42 = .ok (.if_icmp .ne 5, 3) := by decide +kernel
theorem dX6_readRules_47 : decode cX6_readRules 47 = .ok (.aload_n 0, 1) := by decide +kernel
theorem dX6_readRules_48 : decode cX6_readRules 48 = .ok (.bipush 59, 2) := by decide +kernel
theorem dX6_readRules_50 : decode cX6_readRules 50 = .ok (.invokevirtual 56, 3) := by decide +kernel
theorem dX6_readRules_53 : decode cX6_readRules 53 = .ok (.ifCond .ne 5, 3) := by decide +kernel
theorem dX6_readRules_58 : decode cX6_readRules 58 = .ok (.aload_n 0, 1) := by decide +kernel
theorem dX6_readRules_59 : decode cX6_readRules 59 = .ok (.getfield 13, 3) := by decide +kernel
theorem dX6_readRules_62 : decode cX6_readRules 62 = .ok (.aload_n 0, 1) := by decide +kernel
theorem dX6_readRules_63 : decode cX6_readRules 63 = .ok (.getfield 43, 3) := by decide +kernel
theorem dX6_readRules_66 : decode cX6_readRules 66 = .ok (.iaload, 1) := by decide +kernel
theorem dX6_readRules_67 : decode cX6_readRules 67 = .ok (.bipush 101, 2) := by decide +kernel
theorem dX6_readRules_69 : decode cX6_readRules 69 = .ok (.if_icmp .ne 5, 3) := by decide +kernel
theorem dX6_readRules_74 : decode cX6_readRules 74 = .ok (.iinc 1 1, 3) := by decide +kernel
theorem dX6_readRules_77 : decode cX6_readRules 77 = .ok (.goto (-61), 3) := by decide +kernel
theorem dX6_readRules_72 : decode cX6_readRules 72 = .ok (.iconst 1, 1) := by decide +kernel
theorem dX6_readRules_73 : decode cX6_readRules 73 = .ok (.ireturn, 1) := by decide +kernel
theorem dX6_readRules_56 : decode cX6_readRules 56 = .ok (.iconst 0, 1) := by decide +kernel
theorem dX6_readRules_57 : decode cX6_readRules 57 = .ok (.ireturn, 1) := by decide +kernel
theorem dX6_readRules_45 : decode cX6_readRules 45 = .ok (.iconst 1, 1) := by decide +kernel
theorem dX6_readRules_46 : decode cX6_readRules 46 = .ok (.ireturn, 1) := by decide +kernel
theorem dX6_readRules_29 : decode cX6_readRules 29 = .ok (.iconst 0, 1) := by decide +kernel
theorem dX6_readRules_30 : decode cX6_readRules 30 = .ok (.ireturn, 1) := by decide +kernel
theorem dX6_readRules_80 : decode cX6_readRules 80 = .ok (.iconst 0, 1) := by decide +kernel
theorem dX6_readRules_81 : decode cX6_readRules 81 = .ok (.ireturn, 1) := by decide +kernel
theorem dX7_init_0 : decode cX7_init 0 = .ok (.aload_n 0, 1) := by decide +kernel
theorem dX7_init_1 : decode cX7_init 1 = .ok (.invokespecial 3, 3) := by decide +kernel
theorem dX7_init_4 : decode cX7_init 4 = .ok (.aload_n 0, 1) := by decide +kernel
theorem dX7_init_5 : decode cX7_init 5 = .ok (.bipush 121, 2) := by decide +kernel
theorem dX7_init_7 : decode cX7_init 7 = .ok (.newarray .int, 2) := by decide +kernel
theorem dX7_init_9 : decode cX7_init 9 = .ok (.putfield 11, 3) := by decide +kernel
theorem dX7_init_12 : decode cX7_init 12 = .ok (.aload_n 0, 1) := by decide +kernel
theorem dX7_init_13 : decode cX7_init 13 = .ok (.bipush 121, 2) := by decide +kernel
theorem dX7_init_15 : decode cX7_init 15 = .ok (.newarray .long, 2) := by decide +kernel
theorem dX7_init_17 : decode cX7_init 17 = .ok (.putfield 17, 3) := by decide +kernel
theorem dX7_init_20 : decode cX7_init 20 = .ok (.aload_n 0, 1) := by decide +kernel
theorem dX7_init_21 : decode cX7_init 21 = .ok (.bipush 12, 2) := by decide +kernel
theorem dX7_init_23 : decode cX7_init 23 = .ok (.newarray .int, 2) := by decide +kernel
theorem dX7_init_25 : decode cX7_init 25 = .ok (.putfield 21, 3) := by decide +kernel
theorem dX7_init_28 : decode cX7_init 28 = .ok (.aload_n 0, 1) := by decide +kernel
theorem dX7_init_29 : decode cX7_init 29 = .ok (.bipush 12, 2) := by decide +kernel
theorem dX7_init_31 : decode cX7_init 31 = .ok (.newarray .int, 2) := by decide +kernel
theorem dX7_init_33 : decode cX7_init 33 = .ok (.putfield 24, 3) := by decide +kernel
theorem dX7_init_36 : decode cX7_init 36 = .ok (.aload_n 0, 1) := by decide +kernel
theorem dX7_init_37 : decode cX7_init 37 = .ok (.bipush 12, 2) := by decide +kernel
theorem dX7_init_39 : decode cX7_init 39 = .ok (.bipush 7, 2) := by decide +kernel
theorem dX7_init_41 : decode cX7_init 41 = .ok (.multianewarray 27 2, 4) := by decide +kernel
theorem dX7_init_45 : decode cX7_init 45 = .ok (.putfield 29, 3) := by decide +kernel
theorem dX7_init_48 : decode cX7_init 48 = .ok (.aload_n 0, 1) := by decide +kernel
theorem dX7_init_49 : decode cX7_init 49 = .ok (.bipush 7, 2) := by decide +kernel
theorem dX7_init_51 : decode cX7_init 51 = .ok (.newarray .long, 2) := by decide +kernel
theorem dX7_init_53 : decode cX7_init 53 = .ok (.putfield 32, 3) := by decide +kernel
theorem dX7_init_56 : decode cX7_init 56 = .ok (.aload_n 0, 1) := by decide +kernel
theorem dX7_init_57 : decode cX7_init 57 = .ok (.bipush 40, 2) := by decide +kernel
theorem dX7_init_59 : decode cX7_init 59 = .ok (.newarray .long, 2) := by decide +kernel
theorem dX7_init_61 : decode cX7_init 61 = .ok (.putfield 35, 3) := by decide +kernel
theorem dX7_init_64 : decode cX7_init 64 = .ok (.aload_n 0, 1) := by decide +kernel
theorem dX7_init_65 : decode cX7_init 65 = .ok (.bipush 40, 2) := by decide +kernel
theorem dX7_init_67 : decode cX7_init 67 = .ok (.newarray .int, 2) := by decide +kernel
theorem dX7_init_69 : decode cX7_init 69 = .ok (.putfield 38, 3) := by decide +kernel
theorem dX7_init_72 : decode cX7_init 72 = .ok (.return_, 1) := by decide +kernel
theorem dX7_takeRules_0 : decode cX7_takeRules 0 = .ok (.aload_n 1, 1) := by decide +kernel
theorem dX7_takeRules_1 : decode cX7_takeRules 1 = .ok (.getfield 41, 3) := by decide +kernel
theorem dX7_takeRules_4 : decode cX7_takeRules 4 = .ok (.iconst 0, 1) := by decide +kernel
theorem dX7_takeRules_5 : decode cX7_takeRules 5 = .ok (.aload_n 0, 1) := by decide +kernel
theorem dX7_takeRules_6 : decode cX7_takeRules 6 = .ok (.getfield 11, 3) := by decide +kernel
theorem dX7_takeRules_9 : decode cX7_takeRules 9 = .ok (.iconst 0, 1) := by decide +kernel
theorem dX7_takeRules_10 : decode cX7_takeRules 10 = .ok (.aload_n 0, 1) := by decide +kernel
theorem dX7_takeRules_11 : decode cX7_takeRules 11 = .ok (.getfield 11, 3) := by decide +kernel
theorem dX7_takeRules_14 : decode cX7_takeRules 14 = .ok (.arraylength, 1) := by decide +kernel
theorem dX7_takeRules_15 : decode cX7_takeRules 15 = .ok (.invokestatic 42, 3) := by decide +kernel
theorem dX7_takeRules_18 : decode cX7_takeRules 18 = .ok (.aload_n 1, 1) := by decide +kernel
theorem dX7_takeRules_19 : decode cX7_takeRules 19 = .ok (.getfield 48, 3) := by decide +kernel
theorem dX7_takeRules_22 : decode cX7_takeRules 22 = .ok (.iconst 0, 1) := by decide +kernel
theorem dX7_takeRules_23 : decode cX7_takeRules 23 = .ok (.aload_n 0, 1) := by decide +kernel
theorem dX7_takeRules_24 : decode cX7_takeRules 24 = .ok (.getfield 17, 3) := by decide +kernel
theorem dX7_takeRules_27 : decode cX7_takeRules 27 = .ok (.iconst 0, 1) := by decide +kernel
theorem dX7_takeRules_28 : decode cX7_takeRules 28 = .ok (.aload_n 0, 1) := by decide +kernel
theorem dX7_takeRules_29 : decode cX7_takeRules 29 = .ok (.getfield 17, 3) := by decide +kernel
theorem dX7_takeRules_32 : decode cX7_takeRules 32 = .ok (.arraylength, 1) := by decide +kernel
theorem dX7_takeRules_33 : decode cX7_takeRules 33 = .ok (.invokestatic 42, 3) := by decide +kernel
theorem dX7_takeRules_36 : decode cX7_takeRules 36 = .ok (.aload_n 1, 1) := by decide +kernel
theorem dX7_takeRules_37 : decode cX7_takeRules 37 = .ok (.getfield 49, 3) := by decide +kernel
theorem dX7_takeRules_40 : decode cX7_takeRules 40 = .ok (.iconst 0, 1) := by decide +kernel
theorem dX7_takeRules_41 : decode cX7_takeRules 41 = .ok (.aload_n 0, 1) := by decide +kernel
theorem dX7_takeRules_42 : decode cX7_takeRules 42 = .ok (.getfield 21, 3) := by decide +kernel
theorem dX7_takeRules_45 : decode cX7_takeRules 45 = .ok (.iconst 0, 1) := by decide +kernel
theorem dX7_takeRules_46 : decode cX7_takeRules 46 = .ok (.aload_n 0, 1) := by decide +kernel
theorem dX7_takeRules_47 : decode cX7_takeRules 47 = .ok (.getfield 21, 3) := by decide +kernel
theorem dX7_takeRules_50 : decode cX7_takeRules 50 = .ok (.arraylength, 1) := by decide +kernel
theorem dX7_takeRules_51 : decode cX7_takeRules 51 = .ok (.invokestatic 42, 3) := by decide +kernel
theorem dX7_takeRules_54 : decode cX7_takeRules 54 = .ok (.aload_n 1, 1) := by decide +kernel
theorem dX7_takeRules_55 : decode cX7_takeRules 55 = .ok (.getfield 50, 3) := by decide +kernel
theorem dX7_takeRules_58 : decode cX7_takeRules 58 = .ok (.iconst 0, 1) := by decide +kernel
theorem dX7_takeRules_59 : decode cX7_takeRules 59 = .ok (.aload_n 0, 1) := by decide +kernel
theorem dX7_takeRules_60 : decode cX7_takeRules 60 = .ok (.getfield 24, 3) := by decide +kernel
theorem dX7_takeRules_63 : decode cX7_takeRules 63 = .ok (.iconst 0, 1) := by decide +kernel
theorem dX7_takeRules_64 : decode cX7_takeRules 64 = .ok (.aload_n 0, 1) := by decide +kernel
theorem dX7_takeRules_65 : decode cX7_takeRules 65 = .ok (.getfield 24, 3) := by decide +kernel
theorem dX7_takeRules_68 : decode cX7_takeRules 68 = .ok (.arraylength, 1) := by decide +kernel
theorem dX7_takeRules_69 : decode cX7_takeRules 69 = .ok (.invokestatic 42, 3) := by decide +kernel
theorem dX7_takeRules_72 : decode cX7_takeRules 72 = .ok (.aload_n 0, 1) := by decide +kernel
theorem dX7_takeRules_73 : decode cX7_takeRules 73 = .ok (.aload_n 1, 1) := by decide +kernel
theorem dX7_takeRules_74 : decode cX7_takeRules 74 = .ok (.getfield 51, 3) := by decide +kernel
theorem dX7_takeRules_77 : decode cX7_takeRules 77 = .ok (.putfield 55, 3) := by decide +kernel
theorem dX7_takeRules_80 : decode cX7_takeRules 80 = .ok (.aload_n 0, 1) := by decide +kernel
theorem dX7_takeRules_81 : decode cX7_takeRules 81 = .ok (.iconst 0, 1) := by decide +kernel
theorem dX7_takeRules_82 : decode cX7_takeRules 82 = .ok (.putfield 56, 3) := by decide +kernel
theorem dX7_takeRules_85 : decode cX7_takeRules 85 = .ok (.return_, 1) := by decide +kernel
theorem dX7_isFactName_0 : decode cX7_isFactName 0 = .ok (.lload_n 0, 1) := by decide +kernel
theorem dX7_isFactName_1 : decode cX7_isFactName 1 = .ok (.lstore_n 2, 1) := by decide +kernel
theorem dX7_isFactName_2 : decode cX7_isFactName 2 = .ok (.iconst 0, 1) := by decide +kernel
theorem dX7_isFactName_3 : decode cX7_isFactName 3 = .ok (.istore 4, 2) := by decide +kernel
theorem dX7_isFactName_5 : decode cX7_isFactName 5 = .ok (.iload 4, 2) := by decide +kernel
theorem dX7_isFactName_7 : decode cX7_isFactName 7 = .ok (.bipush 8, 2) := by decide +kernel
theorem dX7_isFactName_9 : decode cX7_isFactName 9 = .ok (.if_icmp .ge 47, 3) := by decide +kernel
theorem dX7_isFactName_12 : decode cX7_isFactName 12 = .ok (.lload_n 2, 1) := by decide +kernel
theorem dX7_isFactName_13 : decode cX7_isFactName 13 = .ok (.lconst 0, 1) := by decide +kernel
theorem dX7_isFactName_14 : decode cX7_isFactName 14 = .ok (.lcmp, 1) := by decide +kernel
theorem dX7_isFactName_15 : decode cX7_isFactName 15 = .ok (.ifCond .eq 41, 3) := by decide +kernel
theorem dX7_isFactName_18 : decode cX7_isFactName 18 = .ok (.lload_n 2, 1) := by decide +kernel
theorem dX7_isFactName_19 : decode cX7_isFactName 19 = .ok (.ldc2_w 60, 3) := by decide +kernel
theorem dX7_isFactName_22 : decode cX7_isFactName 22 = .ok (.land, 1) := by decide +kernel
theorem dX7_isFactName_23 : decode cX7_isFactName 23 = .ok (.lstore 5, 2) := by decide +kernel
theorem dX7_isFactName_25 : decode cX7_isFactName 25 = .ok (.lload 5, 2) := by decide +kernel
theorem dX7_isFactName_27 : decode cX7_isFactName 27 = .ok (.ldc2_w 62, 3) := by decide +kernel
theorem dX7_isFactName_30 : decode cX7_isFactName 30 = .ok (.lcmp, 1) := by decide +kernel
theorem dX7_isFactName_31 : decode cX7_isFactName 31 = .ok (.ifCond .lt 12, 3) := by decide +kernel
theorem dX7_isFactName_43 : decode cX7_isFactName 43 = .ok (.iconst 0, 1) := by decide +kernel
theorem dX7_isFactName_44 : decode cX7_isFactName 44 = .ok (.ireturn, 1) := by decide +kernel
theorem dX7_isFactName_34 : decode cX7_isFactName 34 = .ok (.lload 5, 2) := by decide +kernel
theorem dX7_isFactName_36 : decode cX7_isFactName 36 = .ok (.ldc2_w 64, 3) := by decide +kernel
theorem dX7_isFactName_39 : decode cX7_isFactName 39 = .ok (.lcmp, 1) := by decide +kernel
theorem dX7_isFactName_40 : decode cX7_isFactName 40 = .ok (.ifCond .le 5, 3) := by decide +kernel
theorem dX7_isFactName_45 : decode cX7_isFactName 45 = .ok (.lload_n 2, 1) := by decide +kernel
theorem dX7_isFactName_46 : decode cX7_isFactName 46 = .ok (.bipush 8, 2) := by decide +kernel
theorem dX7_isFactName_48 : decode cX7_isFactName 48 = .ok (.lushr, 1) := by decide +kernel
theorem dX7_isFactName_49 : decode cX7_isFactName 49 = .ok (.lstore_n 2, 1) := by decide +kernel
theorem dX7_isFactName_50 : decode cX7_isFactName 50 = .ok (.iinc 4 1, 3) := by decide +kernel
theorem dX7_isFactName_53 : decode cX7_isFactName 53 = .ok (.goto (-48), 3) := by decide +kernel
theorem dX7_isFactName_56 : decode cX7_isFactName 56 = .ok (.lload_n 0, 1) := by decide +kernel
theorem dX7_isFactName_57 : decode cX7_isFactName 57 = .ok (.lconst 0, 1) := by decide +kernel
theorem dX7_isFactName_58 : decode cX7_isFactName 58 = .ok (.lcmp, 1) := by decide +kernel
theorem dX7_isFactName_59 : decode cX7_isFactName 59 = .ok (.ifCond .eq 7, 3) := by decide +kernel
theorem dX7_isFactName_66 : decode cX7_isFactName 66 = .ok (.iconst 0, 1) := by decide +kernel
theorem dX7_isFactName_67 : decode cX7_isFactName 67 = .ok (.ireturn, 1) := by decide +kernel
theorem dX7_isFactName_62 : decode cX7_isFactName 62 = .ok (.iconst 1, 1) := by decide +kernel
theorem dX7_isFactName_63 : decode cX7_isFactName 63 = .ok (.goto 4, 3) := by decide +kernel
theorem dX7_findFact_0 : decode cX7_findFact 0 = .ok (.iconst 0, 1) := by decide +kernel
theorem dX7_findFact_1 : decode cX7_findFact 1 = .ok (.istore_n 3, 1) := by decide +kernel
theorem dX7_findFact_2 : decode cX7_findFact 2 = .ok (.iload_n 3, 1) := by decide +kernel
theorem dX7_findFact_3 : decode cX7_findFact 3 = .ok (.aload_n 0, 1) := by decide +kernel
theorem dX7_findFact_4 : decode cX7_findFact 4 = .ok (.getfield 66, 3) := by decide +kernel
theorem dX7_findFact_7 : decode cX7_findFact 7 = .ok (.if_icmp .ge 22, 3) := by decide +kernel
theorem dX7_findFact_10 : decode cX7_findFact 10 = .ok (.aload_n 0, 1) := by decide +kernel
theorem dX7_findFact_11 : decode cX7_findFact 11 = .ok (.getfield 35, 3) := by decide +kernel
theorem dX7_findFact_14 : decode cX7_findFact 14 = .ok (.iload_n 3, 1) := by decide +kernel
theorem dX7_findFact_15 : decode cX7_findFact 15 = .ok (.laload, 1) := by decide +kernel
theorem dX7_findFact_16 : decode cX7_findFact 16 = .ok (.lload_n 1, 1) := by decide +kernel
theorem dX7_findFact_17 : decode cX7_findFact 17 = .ok (.lcmp, 1) := by decide +kernel
theorem dX7_findFact_18 : decode cX7_findFact 18 = .ok (.ifCond .ne 5, 3) := by decide +kernel
theorem dX7_findFact_23 : decode cX7_findFact 23 = .ok (.iinc 3 1, 3) := by decide +kernel
theorem dX7_findFact_26 : decode cX7_findFact 26 = .ok (.goto (-24), 3) := by decide +kernel
theorem dX7_findFact_21 : decode cX7_findFact 21 = .ok (.iload_n 3, 1) := by decide +kernel
theorem dX7_findFact_22 : decode cX7_findFact 22 = .ok (.ireturn, 1) := by decide +kernel
theorem dX7_findFact_29 : decode cX7_findFact 29 = .ok (.iconst (-1), 1) := by decide +kernel
theorem dX7_findFact_30 : decode cX7_findFact 30 = .ok (.ireturn, 1) := by decide +kernel
theorem dX7_hasRoomForFact_0 : decode cX7_hasRoomForFact 0 = .ok (.aload_n 0, 1) := by decide +kernel
theorem dX7_hasRoomForFact_1 : decode cX7_hasRoomForFact 1 = .ok (.getfield 66, 3) := by decide +kernel
theorem dX7_hasRoomForFact_4 : decode cX7_hasRoomForFact 4 = .ok (.bipush 40, 2) := by decide +kernel
theorem dX7_hasRoomForFact_6 : decode cX7_hasRoomForFact 6 = .ok (.if_icmp .lt 12, 3) := by decide +kernel
theorem dX7_hasRoomForFact_18 : decode cX7_hasRoomForFact 18 = .ok (.iconst 1, 1) := by decide +kernel
theorem dX7_hasRoomForFact_19 : decode cX7_hasRoomForFact 19 = .ok (.goto 4, 3) := by decide +kernel
theorem dX7_hasRoomForFact_23 : decode cX7_hasRoomForFact 23 = .ok (.ireturn, 1) := by decide +kernel
theorem dX7_hasRoomForFact_9 : decode cX7_hasRoomForFact 9 = .ok (.aload_n 0, 1) := by decide +kernel
theorem dX7_hasRoomForFact_10 : decode cX7_hasRoomForFact 10 = .ok (.lload_n 1, 1) := by decide +kernel
theorem dX7_hasRoomForFact_11 : decode cX7_hasRoomForFact 11 = .ok (.invokevirtual 69, 3) := by decide +kernel
theorem dX7_hasRoomForFact_14 : decode cX7_hasRoomForFact 14 = .ok (.iconst (-1), 1) := by decide +kernel
theorem dX7_hasRoomForFact_15 : decode cX7_hasRoomForFact 15 = .ok (.if_icmp .eq 7, 3) := by decide +kernel
theorem dX7_hasRoomForFact_22 : decode cX7_hasRoomForFact 22 = .ok (.iconst 0, 1) := by decide +kernel
theorem dX7_setFact_0 : decode cX7_setFact 0 = .ok (.aload_n 0, 1) := by decide +kernel
theorem dX7_setFact_1 : decode cX7_setFact 1 = .ok (.lload_n 1, 1) := by decide +kernel
theorem dX7_setFact_2 : decode cX7_setFact 2 = .ok (.invokevirtual 69, 3) := by decide +kernel
theorem dX7_setFact_5 : decode cX7_setFact 5 = .ok (.istore 4, 2) := by decide +kernel
theorem dX7_setFact_7 : decode cX7_setFact 7 = .ok (.iload 4, 2) := by decide +kernel
theorem dX7_setFact_9 : decode cX7_setFact 9 = .ok (.iconst (-1), 1) := by decide +kernel
theorem dX7_setFact_10 : decode cX7_setFact 10 = .ok (.if_icmp .eq 24, 3) := by decide +kernel
theorem dX7_setFact_34 : decode cX7_setFact 34 = .ok (.aload_n 0, 1) := by decide +kernel
theorem dX7_setFact_35 : decode cX7_setFact 35 = .ok (.getfield 66, 3) := by decide +kernel
theorem dX7_setFact_38 : decode cX7_setFact 38 = .ok (.bipush 40, 2) := by decide +kernel
theorem dX7_setFact_40 : decode cX7_setFact 40 = .ok (.if_icmp .ge 33, 3) := by decide +kernel
theorem dX7_setFact_73 : decode cX7_setFact 73 = .ok (.ldc2_w 73, 3) := by decide +kernel
theorem dX7_setFact_76 : decode cX7_setFact 76 = .ok (.lreturn, 1) := by decide +kernel
theorem dX7_setFact_43 : decode cX7_setFact 43 = .ok (.aload_n 0, 1) := by decide +kernel
theorem dX7_setFact_44 : decode cX7_setFact 44 = .ok (.getfield 35, 3) := by decide +kernel
theorem dX7_setFact_47 : decode cX7_setFact 47 = .ok (.aload_n 0, 1) := by decide +kernel
theorem dX7_setFact_48 : decode cX7_setFact 48 = .ok (.getfield 66, 3) := by decide +kernel
theorem dX7_setFact_51 : decode cX7_setFact 51 = .ok (.lload_n 1, 1) := by decide +kernel
theorem dX7_setFact_52 : decode cX7_setFact 52 = .ok (.lastore, 1) := by decide +kernel
theorem dX7_setFact_53 : decode cX7_setFact 53 = .ok (.aload_n 0, 1) := by decide +kernel
theorem dX7_setFact_54 : decode cX7_setFact 54 = .ok (.getfield 38, 3) := by decide +kernel
theorem dX7_setFact_57 : decode cX7_setFact 57 = .ok (.aload_n 0, 1) := by decide +kernel
theorem dX7_setFact_58 : decode cX7_setFact 58 = .ok (.getfield 66, 3) := by decide +kernel
theorem dX7_setFact_61 : decode cX7_setFact 61 = .ok (.iload_n 3, 1) := by decide +kernel
theorem dX7_setFact_62 : decode cX7_setFact 62 = .ok (.iastore, 1) := by decide +kernel
theorem dX7_setFact_63 : decode cX7_setFact 63 = .ok (.aload_n 0, 1) := by decide +kernel
theorem dX7_setFact_64 : decode cX7_setFact 64 = .ok (.dup, 1) := by decide +kernel
theorem dX7_setFact_65 : decode cX7_setFact 65 = .ok (.getfield 66, 3) := by decide +kernel
theorem dX7_setFact_68 : decode cX7_setFact 68 = .ok (.iconst 1, 1) := by decide +kernel
theorem dX7_setFact_69 : decode cX7_setFact 69 = .ok (.iadd, 1) := by decide +kernel
theorem dX7_setFact_70 : decode cX7_setFact 70 = .ok (.putfield 66, 3) := by decide +kernel
theorem dX7_setFact_13 : decode cX7_setFact 13 = .ok (.aload_n 0, 1) := by decide +kernel
theorem dX7_setFact_14 : decode cX7_setFact 14 = .ok (.getfield 38, 3) := by decide +kernel
theorem dX7_setFact_17 : decode cX7_setFact 17 = .ok (.iload 4, 2) := by decide +kernel
theorem dX7_setFact_19 : decode cX7_setFact 19 = .ok (.iaload, 1) := by decide +kernel
theorem dX7_setFact_20 : decode cX7_setFact 20 = .ok (.i2l, 1) := by decide +kernel
theorem dX7_setFact_21 : decode cX7_setFact 21 = .ok (.lstore 5, 2) := by decide +kernel
theorem dX7_setFact_23 : decode cX7_setFact 23 = .ok (.aload_n 0, 1) := by decide +kernel
theorem dX7_setFact_24 : decode cX7_setFact 24 = .ok (.getfield 38, 3) := by decide +kernel
theorem dX7_setFact_27 : decode cX7_setFact 27 = .ok (.iload 4, 2) := by decide +kernel
theorem dX7_setFact_29 : decode cX7_setFact 29 = .ok (.iload_n 3, 1) := by decide +kernel
theorem dX7_setFact_30 : decode cX7_setFact 30 = .ok (.iastore, 1) := by decide +kernel
theorem dX7_setFact_31 : decode cX7_setFact 31 = .ok (.lload 5, 2) := by decide +kernel
theorem dX7_setFact_33 : decode cX7_setFact 33 = .ok (.lreturn, 1) := by decide +kernel
theorem dJ7_fill_d0a16_0 : decode cJ7_fill_d0a16 0 = .ok (.iconst 0, 1) := by decide +kernel
theorem dJ7_fill_d0a16_1 : decode cJ7_fill_d0a16 1 = .ok (.istore_n 3, 1) := by decide +kernel
theorem dJ7_fill_d0a16_2 : decode cJ7_fill_d0a16 2 = .ok (.aload_n 0, 1) := by decide +kernel
theorem dJ7_fill_d0a16_3 : decode cJ7_fill_d0a16 3 = .ok (.arraylength, 1) := by decide +kernel
theorem dJ7_fill_d0a16_4 : decode cJ7_fill_d0a16 4 = .ok (.istore 4, 2) := by decide +kernel
theorem dJ7_fill_d0a16_6 : decode cJ7_fill_d0a16 6 = .ok (.iload_n 3, 1) := by decide +kernel
theorem dJ7_fill_d0a16_7 : decode cJ7_fill_d0a16 7 = .ok (.iload 4, 2) := by decide +kernel
theorem dJ7_fill_d0a16_9 : decode cJ7_fill_d0a16 9 = .ok (.if_icmp .ge 13, 3) := by decide +kernel
theorem dJ7_fill_d0a16_12 : decode cJ7_fill_d0a16 12 = .ok (.aload_n 0, 1) := by decide +kernel
theorem dJ7_fill_d0a16_13 : decode cJ7_fill_d0a16 13 = .ok (.iload_n 3, 1) := by decide +kernel
theorem dJ7_fill_d0a16_14 : decode cJ7_fill_d0a16 14 = .ok (.lload_n 1, 1) := by decide +kernel
theorem dJ7_fill_d0a16_15 : decode cJ7_fill_d0a16 15 = .ok (.lastore, 1) := by decide +kernel
theorem dJ7_fill_d0a16_16 : decode cJ7_fill_d0a16 16 = .ok (.iinc 3 1, 3) := by decide +kernel
theorem dJ7_fill_d0a16_19 : decode cJ7_fill_d0a16 19 = .ok (.goto (-13), 3) := by decide +kernel
theorem dJ7_fill_d0a16_22 : decode cJ7_fill_d0a16 22 = .ok (.return_, 1) := by decide +kernel
theorem dX7_takeWord_0 : decode cX7_takeWord 0 = .ok (.aload_n 0, 1) := by decide +kernel
theorem dX7_takeWord_1 : decode cX7_takeWord 1 = .ok (.getfield 11, 3) := by decide +kernel
theorem dX7_takeWord_4 : decode cX7_takeWord 4 = .ok (.aload_n 0, 1) := by decide +kernel
theorem dX7_takeWord_5 : decode cX7_takeWord 5 = .ok (.getfield 96, 3) := by decide +kernel
theorem dX7_takeWord_8 : decode cX7_takeWord 8 = .ok (.iaload, 1) := by decide +kernel
theorem dX7_takeWord_9 : decode cX7_takeWord 9 = .ok (.istore_n 1, 1) := by decide +kernel
theorem dX7_takeWord_10 : decode cX7_takeWord 10 = .ok (.aload_n 0, 1) := by decide +kernel
theorem dX7_takeWord_11 : decode cX7_takeWord 11 = .ok (.getfield 96, 3) := by decide +kernel
theorem dX7_takeWord_14 : decode cX7_takeWord 14 = .ok (.bipush 120, 2) := by decide +kernel
theorem dX7_takeWord_16 : decode cX7_takeWord 16 = .ok (.if_icmp .ge 13, 3) := by decide +kernel
theorem dX7_takeWord_29 : decode cX7_takeWord 29 = .ok (.iload_n 1, 1) := by decide +kernel
theorem dX7_takeWord_30 : decode cX7_takeWord 30 = .ok (.ireturn, 1) := by decide +kernel
theorem dX7_takeWord_19 : decode cX7_takeWord 19 = .ok (.aload_n 0, 1) := by decide +kernel
theorem dX7_takeWord_20 : decode cX7_takeWord 20 = .ok (.dup, 1) := by decide +kernel
theorem dX7_takeWord_21 : decode cX7_takeWord 21 = .ok (.getfield 96, 3) := by decide +kernel
theorem dX7_takeWord_24 : decode cX7_takeWord 24 = .ok (.iconst 1, 1) := by decide +kernel
theorem dX7_takeWord_25 : decode cX7_takeWord 25 = .ok (.iadd, 1) := by decide +kernel
theorem dX7_takeWord_26 : decode cX7_takeWord 26 = .ok (.putfield 96, 3) := by decide +kernel
theorem dX7_reckonFactor_0 : decode cX7_reckonFactor 0 = .ok (.aload_n 0, 1) := by decide +kernel
theorem dX7_reckonFactor_1 : decode cX7_reckonFactor 1 = .ok (.getfield 17, 3) := by decide +kernel
theorem dX7_reckonFactor_4 : decode cX7_reckonFactor 4 = .ok (.aload_n 0, 1) := by decide +kernel
theorem dX7_reckonFactor_5 : decode cX7_reckonFactor 5 = .ok (.getfield 96, 3) := by decide +kernel
theorem dX7_reckonFactor_8 : decode cX7_reckonFactor 8 = .ok (.laload, 1) := by decide +kernel
theorem dX7_reckonFactor_9 : decode cX7_reckonFactor 9 = .ok (.lstore_n 2, 1) := by decide +kernel
theorem dX7_reckonFactor_10 : decode cX7_reckonFactor 10 = .ok (.aload_n 0, 1) := by decide +kernel
theorem dX7_reckonFactor_11 : decode cX7_reckonFactor 11 = .ok (.invokevirtual 103, 3) := by decide +kernel
theorem dX7_reckonFactor_14 : decode cX7_reckonFactor 14 = .ok (.istore 4, 2) := by decide +kernel
theorem dX7_reckonFactor_16 : decode cX7_reckonFactor 16 = .ok (.iload 4, 2) := by decide +kernel
theorem dX7_reckonFactor_18 : decode cX7_reckonFactor 18 = .ok (.bipush 40, 2) := by decide +kernel
theorem dX7_reckonFactor_20 : decode cX7_reckonFactor 20 = .ok (.if_icmp .ne 22, 3) := by decide +kernel
theorem dX7_reckonFactor_42 : decode cX7_reckonFactor 42 = .ok (.aload_n 0, 1) := by decide +kernel
theorem dX7_reckonFactor_43 : decode cX7_reckonFactor 43 = .ok (.lconst 1, 1) := by decide +kernel
theorem dX7_reckonFactor_44 : decode cX7_reckonFactor 44 = .ok (.putfield 114, 3) := by decide +kernel
theorem dX7_reckonFactor_47 : decode cX7_reckonFactor 47 = .ok (.iload 4, 2) := by decide +kernel
theorem dX7_reckonFactor_49 : decode cX7_reckonFactor 49 = .ok (.bipush 48, 2) := by decide +kernel
theorem dX7_reckonFactor_51 : decode cX7_reckonFactor 51 = .ok (.if_icmp .ne 9, 3) := by decide +kernel
theorem dX7_reckonFactor_60 : decode cX7_reckonFactor 60 = .ok (.aload_n 0, 1) := by decide +kernel
theorem dX7_reckonFactor_61 : decode cX7_reckonFactor 61 = .ok (.lload_n 2, 1) := by decide +kernel
theorem dX7_reckonFactor_62 : decode cX7_reckonFactor 62 = .ok (.invokevirtual 69, 3) := by decide +kernel
theorem dX7_reckonFactor_65 : decode cX7_reckonFactor 65 = .ok (.istore 5, 2) := by decide +kernel
theorem dX7_reckonFactor_67 : decode cX7_reckonFactor 67 = .ok (.iload 5, 2) := by decide +kernel
theorem dX7_reckonFactor_69 : decode cX7_reckonFactor 69 = .ok (.iconst (-1), 1) := by decide +kernel
theorem dX7_reckonFactor_70 : decode cX7_reckonFactor 70 = .ok (.if_icmp .ne 14, 3) := by decide +kernel
theorem dX7_reckonFactor_84 : decode cX7_reckonFactor 84 = .ok (.aload_n 0, 1) := by decide +kernel
theorem dX7_reckonFactor_85 : decode cX7_reckonFactor 85 = .ok (.aload_n 0, 1) := by decide +kernel
theorem dX7_reckonFactor_86 : decode cX7_reckonFactor 86 = .ok (.getfield 38, 3) := by decide +kernel
theorem dX7_reckonFactor_89 : decode cX7_reckonFactor 89 = .ok (.iload 5, 2) := by decide +kernel
theorem dX7_reckonFactor_91 : decode cX7_reckonFactor 91 = .ok (.iaload, 1) := by decide +kernel
theorem dX7_reckonFactor_92 : decode cX7_reckonFactor 92 = .ok (.i2l, 1) := by decide +kernel
theorem dX7_reckonFactor_93 : decode cX7_reckonFactor 93 = .ok (.putfield 111, 3) := by decide +kernel
theorem dX7_reckonFactor_96 : decode cX7_reckonFactor 96 = .ok (.return_, 1) := by decide +kernel
theorem dX7_reckonFactor_73 : decode cX7_reckonFactor 73 = .ok (.aload_n 0, 1) := by decide +kernel
theorem dX7_reckonFactor_74 : decode cX7_reckonFactor 74 = .ok (.iconst 1, 1) := by decide +kernel
theorem dX7_reckonFactor_75 : decode cX7_reckonFactor 75 = .ok (.putfield 89, 3) := by decide +kernel
theorem dX7_reckonFactor_78 : decode cX7_reckonFactor 78 = .ok (.aload_n 0, 1) := by decide +kernel
theorem dX7_reckonFactor_79 : decode cX7_reckonFactor 79 = .ok (.lload_n 2, 1) := by decide +kernel
theorem dX7_reckonFactor_80 : decode cX7_reckonFactor 80 = .ok (.putfield 92, 3) := by decide +kernel
theorem dX7_reckonFactor_83 : decode cX7_reckonFactor 83 = .ok (.return_, 1) := by decide +kernel
theorem dX7_reckonFactor_54 : decode cX7_reckonFactor 54 = .ok (.aload_n 0, 1) := by decide +kernel
theorem dX7_reckonFactor_55 : decode cX7_reckonFactor 55 = .ok (.lload_n 2, 1) := by decide +kernel
theorem dX7_reckonFactor_56 : decode cX7_reckonFactor 56 = .ok (.putfield 111, 3) := by decide +kernel
theorem dX7_reckonFactor_59 : decode cX7_reckonFactor 59 = .ok (.return_, 1) := by decide +kernel
theorem dX7_reckonFactor_23 : decode cX7_reckonFactor 23 = .ok (.iload_n 1, 1) := by decide +kernel
theorem dX7_reckonFactor_24 : decode cX7_reckonFactor 24 = .ok (.bipush 8, 2) := by decide +kernel
theorem dX7_reckonFactor_26 : decode cX7_reckonFactor 26 = .ok (.if_icmp .ge 16, 3) := by decide +kernel
theorem dX7_reckonFactor_29 : decode cX7_reckonFactor 29 = .ok (.aload_n 0, 1) := by decide +kernel
theorem dX7_reckonFactor_30 : decode cX7_reckonFactor 30 = .ok (.iload_n 1, 1) := by decide +kernel
theorem dX7_reckonFactor_31 : decode cX7_reckonFactor 31 = .ok (.iconst 1, 1) := by decide +kernel
theorem dX7_reckonFactor_32 : decode cX7_reckonFactor 32 = .ok (.iadd, 1) := by decide +kernel
theorem dX7_reckonFactor_33 : decode cX7_reckonFactor 33 = .ok (.invokevirtual 107, 3) := by decide +kernel
theorem dX7_reckonFactor_36 : decode cX7_reckonFactor 36 = .ok (.aload_n 0, 1) := by decide +kernel
theorem dX7_reckonFactor_37 : decode cX7_reckonFactor 37 = .ok (.invokevirtual 103, 3) := by decide +kernel
theorem dX7_reckonFactor_40 : decode cX7_reckonFactor 40 = .ok (.pop, 1) := by decide +kernel
theorem dX7_reckonFactor_41 : decode cX7_reckonFactor 41 = .ok (.return_, 1) := by decide +kernel
theorem dX7_isSign_0 : decode cX7_isSign 0 = .ok (.aload_n 0, 1) := by decide +kernel
theorem dX7_isSign_1 : decode cX7_isSign 1 = .ok (.getfield 11, 3) := by decide +kernel
theorem dX7_isSign_4 : decode cX7_isSign 4 = .ok (.aload_n 0, 1) := by decide +kernel
theorem dX7_isSign_5 : decode cX7_isSign 5 = .ok (.getfield 96, 3) := by decide +kernel
theorem dX7_isSign_8 : decode cX7_isSign 8 = .ok (.iaload, 1) := by decide +kernel
theorem dX7_isSign_9 : decode cX7_isSign 9 = .ok (.iload_n 1, 1) := by decide +kernel
theorem dX7_isSign_10 : decode cX7_isSign 10 = .ok (.if_icmp .eq 16, 3) := by decide +kernel
theorem dX7_isSign_26 : decode cX7_isSign 26 = .ok (.iconst 1, 1) := by decide +kernel
theorem dX7_isSign_27 : decode cX7_isSign 27 = .ok (.goto 4, 3) := by decide +kernel
theorem dX7_isSign_31 : decode cX7_isSign 31 = .ok (.ireturn, 1) := by decide +kernel
theorem dX7_isSign_13 : decode cX7_isSign 13 = .ok (.aload_n 0, 1) := by decide +kernel
theorem dX7_isSign_14 : decode cX7_isSign 14 = .ok (.getfield 11, 3) := by decide +kernel
theorem dX7_isSign_17 : decode cX7_isSign 17 = .ok (.aload_n 0, 1) := by decide +kernel
theorem dX7_isSign_18 : decode cX7_isSign 18 = .ok (.getfield 96, 3) := by decide +kernel
theorem dX7_isSign_21 : decode cX7_isSign 21 = .ok (.iaload, 1) := by decide +kernel
theorem dX7_isSign_22 : decode cX7_isSign 22 = .ok (.iload_n 2, 1) := by decide +kernel
theorem dX7_isSign_23 : decode cX7_isSign 23 = .ok (.if_icmp .ne 7, 3) := by decide +kernel
theorem dX7_isSign_30 : decode cX7_isSign 30 = .ok (.iconst 0, 1) := by decide +kernel
theorem dX7_multiply_0 : decode cX7_multiply 0 = .ok (.lload_n 1, 1) := by decide +kernel
theorem dX7_multiply_1 : decode cX7_multiply 1 = .ok (.lconst 0, 1) := by decide +kernel
theorem dX7_multiply_2 : decode cX7_multiply 2 = .ok (.lcmp, 1) := by decide +kernel
theorem dX7_multiply_3 : decode cX7_multiply 3 = .ok (.ifCond .eq 9, 3) := by decide +kernel
theorem dX7_multiply_12 : decode cX7_multiply 12 = .ok (.lconst 0, 1) := by decide +kernel
theorem dX7_multiply_13 : decode cX7_multiply 13 = .ok (.lreturn, 1) := by decide +kernel
theorem dX7_multiply_6 : decode cX7_multiply 6 = .ok (.lload_n 3, 1) := by decide +kernel
theorem dX7_multiply_7 : decode cX7_multiply 7 = .ok (.lconst 0, 1) := by decide +kernel
theorem dX7_multiply_8 : decode cX7_multiply 8 = .ok (.lcmp, 1) := by decide +kernel
theorem dX7_multiply_9 : decode cX7_multiply 9 = .ok (.ifCond .ne 5, 3) := by decide +kernel
theorem dX7_multiply_14 : decode cX7_multiply 14 = .ok (.lload_n 1, 1) := by decide +kernel
theorem dX7_multiply_15 : decode cX7_multiply 15 = .ok (.lload_n 3, 1) := by decide +kernel
theorem dX7_multiply_16 : decode cX7_multiply 16 = .ok (.lmul, 1) := by decide +kernel
theorem dX7_multiply_17 : decode cX7_multiply 17 = .ok (.lstore 5, 2) := by decide +kernel
theorem dX7_multiply_19 : decode cX7_multiply 19 = .ok (.lload_n 1, 1) := by decide +kernel
theorem dX7_multiply_20 : decode cX7_multiply 20 = .ok (.ldc2_w 148, 3) := by decide +kernel
theorem dX7_multiply_23 : decode cX7_multiply 23 = .ok (.lcmp, 1) := by decide +kernel
theorem dX7_multiply_24 : decode cX7_multiply 24 = .ok (.ifCond .ne 11, 3) := by decide +kernel
theorem dX7_multiply_35 : decode cX7_multiply 35 = .ok (.lload_n 3, 1) := by decide +kernel
theorem dX7_multiply_36 : decode cX7_multiply 36 = .ok (.ldc2_w 148, 3) := by decide +kernel
theorem dX7_multiply_39 : decode cX7_multiply 39 = .ok (.lcmp, 1) := by decide +kernel
theorem dX7_multiply_40 : decode cX7_multiply 40 = .ok (.ifCond .ne 15, 3) := by decide +kernel
theorem dX7_multiply_55 : decode cX7_multiply 55 = .ok (.iconst 0, 1) := by decide +kernel
theorem dX7_multiply_56 : decode cX7_multiply 56 = .ok (.istore 7, 2) := by decide +kernel
theorem dX7_multiply_58 : decode cX7_multiply 58 = .ok (.iload 7, 2) := by decide +kernel
theorem dX7_multiply_60 : decode cX7_multiply 60 = .ok (.ifCond .ne 12, 3) := by decide +kernel
theorem dX7_multiply_72 : decode cX7_multiply 72 = .ok (.aload_n 0, 1) := by decide +kernel
theorem dX7_multiply_73 : decode cX7_multiply 73 = .ok (.iconst 2, 1) := by decide +kernel
theorem dX7_multiply_74 : decode cX7_multiply 74 = .ok (.putfield 89, 3) := by decide +kernel
theorem dX7_multiply_77 : decode cX7_multiply 77 = .ok (.lload 5, 2) := by decide +kernel
theorem dX7_multiply_79 : decode cX7_multiply 79 = .ok (.lreturn, 1) := by decide +kernel
theorem dX7_multiply_63 : decode cX7_multiply 63 = .ok (.lload 5, 2) := by decide +kernel
theorem dX7_multiply_65 : decode cX7_multiply 65 = .ok (.lload_n 3, 1) := by decide +kernel
theorem dX7_multiply_66 : decode cX7_multiply 66 = .ok (.ldiv, 1) := by decide +kernel
theorem dX7_multiply_67 : decode cX7_multiply 67 = .ok (.lload_n 1, 1) := by decide +kernel
theorem dX7_multiply_68 : decode cX7_multiply 68 = .ok (.lcmp, 1) := by decide +kernel
theorem dX7_multiply_69 : decode cX7_multiply 69 = .ok (.ifCond .eq 8, 3) := by decide +kernel
theorem dX7_multiply_43 : decode cX7_multiply 43 = .ok (.lload_n 1, 1) := by decide +kernel
theorem dX7_multiply_44 : decode cX7_multiply 44 = .ok (.ldc2_w 152, 3) := by decide +kernel
theorem dX7_multiply_47 : decode cX7_multiply 47 = .ok (.lcmp, 1) := by decide +kernel
theorem dX7_multiply_48 : decode cX7_multiply 48 = .ok (.ifCond .ne 7, 3) := by decide +kernel
theorem dX7_multiply_51 : decode cX7_multiply 51 = .ok (.iconst 1, 1) := by decide +kernel
theorem dX7_multiply_52 : decode cX7_multiply 52 = .ok (.goto 4, 3) := by decide +kernel
theorem dX7_multiply_27 : decode cX7_multiply 27 = .ok (.lload_n 3, 1) := by decide +kernel
theorem dX7_multiply_28 : decode cX7_multiply 28 = .ok (.ldc2_w 152, 3) := by decide +kernel
theorem dX7_multiply_31 : decode cX7_multiply 31 = .ok (.lcmp, 1) := by decide +kernel
theorem dX7_multiply_32 : decode cX7_multiply 32 = .ok (.ifCond .eq 19, 3) := by decide +kernel
theorem dX7_add_0 : decode cX7_add 0 = .ok (.lload_n 1, 1) := by decide +kernel
theorem dX7_add_1 : decode cX7_add 1 = .ok (.lload_n 3, 1) := by decide +kernel
theorem dX7_add_2 : decode cX7_add 2 = .ok (.ladd, 1) := by decide +kernel
theorem dX7_add_3 : decode cX7_add 3 = .ok (.lstore 5, 2) := by decide +kernel
theorem dX7_add_5 : decode cX7_add 5 = .ok (.lload_n 1, 1) := by decide +kernel
theorem dX7_add_6 : decode cX7_add 6 = .ok (.lload 5, 2) := by decide +kernel
theorem dX7_add_8 : decode cX7_add 8 = .ok (.lxor, 1) := by decide +kernel
theorem dX7_add_9 : decode cX7_add 9 = .ok (.lload_n 3, 1) := by decide +kernel
theorem dX7_add_10 : decode cX7_add 10 = .ok (.lload 5, 2) := by decide +kernel
theorem dX7_add_12 : decode cX7_add 12 = .ok (.lxor, 1) := by decide +kernel
theorem dX7_add_13 : decode cX7_add 13 = .ok (.land, 1) := by decide +kernel
theorem dX7_add_14 : decode cX7_add 14 = .ok (.lconst 0, 1) := by decide +kernel
theorem dX7_add_15 : decode cX7_add 15 = .ok (.lcmp, 1) := by decide +kernel
theorem dX7_add_16 : decode cX7_add 16 = .ok (.ifCond .ge 8, 3) := by decide +kernel
theorem dX7_add_24 : decode cX7_add 24 = .ok (.lload 5, 2) := by decide +kernel
theorem dX7_add_26 : decode cX7_add 26 = .ok (.lreturn, 1) := by decide +kernel
theorem dX7_add_19 : decode cX7_add 19 = .ok (.aload_n 0, 1) := by decide +kernel
theorem dX7_add_20 : decode cX7_add 20 = .ok (.iconst 2, 1) := by decide +kernel
theorem dX7_add_21 : decode cX7_add 21 = .ok (.putfield 89, 3) := by decide +kernel
theorem dX7_subtract_0 : decode cX7_subtract 0 = .ok (.lload_n 1, 1) := by decide +kernel
theorem dX7_subtract_1 : decode cX7_subtract 1 = .ok (.lload_n 3, 1) := by decide +kernel
theorem dX7_subtract_2 : decode cX7_subtract 2 = .ok (.lsub, 1) := by decide +kernel
theorem dX7_subtract_3 : decode cX7_subtract 3 = .ok (.lstore 5, 2) := by decide +kernel
theorem dX7_subtract_5 : decode cX7_subtract 5 = .ok (.lload_n 1, 1) := by decide +kernel
theorem dX7_subtract_6 : decode cX7_subtract 6 = .ok (.lload_n 3, 1) := by decide +kernel
theorem dX7_subtract_7 : decode cX7_subtract 7 = .ok (.lxor, 1) := by decide +kernel
theorem dX7_subtract_8 : decode cX7_subtract 8 = .ok (.lload_n 1, 1) := by decide +kernel
theorem dX7_subtract_9 : decode cX7_subtract 9 = .ok (.lload 5, 2) := by decide +kernel
theorem dX7_subtract_11 : decode cX7_subtract 11 = .ok (.lxor, 1) := by decide +kernel
theorem dX7_subtract_12 : decode cX7_subtract 12 = .ok (.land, 1) := by decide +kernel
theorem dX7_subtract_13 : decode cX7_subtract 13 = .ok (.lconst 0, 1) := by decide +kernel
theorem dX7_subtract_14 : decode cX7_subtract 14 = .ok (.lcmp, 1) := by decide +kernel
theorem dX7_subtract_15 : decode cX7_subtract 15 = .ok (.ifCond .ge 8, 3) := by decide +kernel
theorem dX7_subtract_23 : decode cX7_subtract 23 = .ok (.lload 5, 2) := by decide +kernel
theorem dX7_subtract_25 : decode cX7_subtract 25 = .ok (.lreturn, 1) := by decide +kernel
theorem dX7_subtract_18 : decode cX7_subtract 18 = .ok (.aload_n 0, 1) := by decide +kernel
theorem dX7_subtract_19 : decode cX7_subtract 19 = .ok (.iconst 2, 1) := by decide +kernel
theorem dX7_subtract_20 : decode cX7_subtract 20 = .ok (.putfield 89, 3) := by decide +kernel
theorem dX7_combine_0 : decode cX7_combine 0 = .ok (.aload_n 0, 1) := by decide +kernel
theorem dX7_combine_1 : decode cX7_combine 1 = .ok (.getfield 111, 3) := by decide +kernel
theorem dX7_combine_4 : decode cX7_combine 4 = .ok (.lstore 6, 2) := by decide +kernel
theorem dX7_combine_6 : decode cX7_combine 6 = .ok (.aload_n 0, 1) := by decide +kernel
theorem dX7_combine_7 : decode cX7_combine 7 = .ok (.getfield 114, 3) := by decide +kernel
theorem dX7_combine_10 : decode cX7_combine 10 = .ok (.lstore 8, 2) := by decide +kernel
theorem dX7_combine_12 : decode cX7_combine 12 = .ok (.aload_n 0, 1) := by decide +kernel
theorem dX7_combine_13 : decode cX7_combine 13 = .ok (.getfield 89, 3) := by decide +kernel
theorem dX7_combine_16 : decode cX7_combine 16 = .ok (.ifCond .eq 4, 3) := by decide +kernel
theorem dX7_combine_20 : decode cX7_combine 20 = .ok (.iload_n 1, 1) := by decide +kernel
theorem dX7_combine_21 : decode cX7_combine 21 = .ok (.bipush 42, 2) := by decide +kernel
theorem dX7_combine_23 : decode cX7_combine 23 = .ok (.if_icmp .ne 27, 3) := by decide +kernel
theorem dX7_combine_50 : decode cX7_combine 50 = .ok (.aload_n 0, 1) := by decide +kernel
theorem dX7_combine_51 : decode cX7_combine 51 = .ok (.aload_n 0, 1) := by decide +kernel
theorem dX7_combine_52 : decode cX7_combine 52 = .ok (.lload_n 2, 1) := by decide +kernel
theorem dX7_combine_53 : decode cX7_combine 53 = .ok (.lload 8, 2) := by decide +kernel
theorem dX7_combine_55 : decode cX7_combine 55 = .ok (.invokevirtual 121, 3) := by decide +kernel
theorem dX7_combine_58 : decode cX7_combine 58 = .ok (.putfield 111, 3) := by decide +kernel
theorem dX7_combine_61 : decode cX7_combine 61 = .ok (.iload_n 1, 1) := by decide +kernel
theorem dX7_combine_62 : decode cX7_combine 62 = .ok (.bipush 47, 2) := by decide +kernel
theorem dX7_combine_64 : decode cX7_combine 64 = .ok (.if_icmp .ne 35, 3) := by decide +kernel
theorem dX7_combine_99 : decode cX7_combine 99 = .ok (.aload_n 0, 1) := by decide +kernel
theorem dX7_combine_100 : decode cX7_combine 100 = .ok (.lload 6, 2) := by decide +kernel
theorem dX7_combine_102 : decode cX7_combine 102 = .ok (.lload 4, 2) := by decide +kernel
theorem dX7_combine_104 : decode cX7_combine 104 = .ok (.invokevirtual 121, 3) := by decide +kernel
theorem dX7_combine_107 : decode cX7_combine 107 = .ok (.lstore 10, 2) := by decide +kernel
theorem dX7_combine_109 : decode cX7_combine 109 = .ok (.aload_n 0, 1) := by decide +kernel
theorem dX7_combine_110 : decode cX7_combine 110 = .ok (.iload_n 1, 1) := by decide +kernel
theorem dX7_combine_111 : decode cX7_combine 111 = .ok (.bipush 43, 2) := by decide +kernel
theorem dX7_combine_113 : decode cX7_combine 113 = .ok (.if_icmp .ne 16, 3) := by decide +kernel
theorem dX7_combine_129 : decode cX7_combine 129 = .ok (.aload_n 0, 1) := by decide +kernel
theorem dX7_combine_130 : decode cX7_combine 130 = .ok (.aload_n 0, 1) := by decide +kernel
theorem dX7_combine_131 : decode cX7_combine 131 = .ok (.getfield 111, 3) := by decide +kernel
theorem dX7_combine_134 : decode cX7_combine 134 = .ok (.lload 10, 2) := by decide +kernel
theorem dX7_combine_136 : decode cX7_combine 136 = .ok (.invokevirtual 145, 3) := by decide +kernel
theorem dX7_combine_139 : decode cX7_combine 139 = .ok (.putfield 111, 3) := by decide +kernel
theorem dX7_combine_142 : decode cX7_combine 142 = .ok (.aload_n 0, 1) := by decide +kernel
theorem dX7_combine_143 : decode cX7_combine 143 = .ok (.aload_n 0, 1) := by decide +kernel
theorem dX7_combine_144 : decode cX7_combine 144 = .ok (.lload 4, 2) := by decide +kernel
theorem dX7_combine_146 : decode cX7_combine 146 = .ok (.lload 8, 2) := by decide +kernel
theorem dX7_combine_148 : decode cX7_combine 148 = .ok (.invokevirtual 121, 3) := by decide +kernel
theorem dX7_combine_151 : decode cX7_combine 151 = .ok (.putfield 114, 3) := by decide +kernel
theorem dX7_combine_154 : decode cX7_combine 154 = .ok (.return_, 1) := by decide +kernel
theorem dX7_combine_116 : decode cX7_combine 116 = .ok (.aload_n 0, 1) := by decide +kernel
theorem dX7_combine_117 : decode cX7_combine 117 = .ok (.aload_n 0, 1) := by decide +kernel
theorem dX7_combine_118 : decode cX7_combine 118 = .ok (.getfield 111, 3) := by decide +kernel
theorem dX7_combine_121 : decode cX7_combine 121 = .ok (.lload 10, 2) := by decide +kernel
theorem dX7_combine_123 : decode cX7_combine 123 = .ok (.invokevirtual 142, 3) := by decide +kernel
theorem dX7_combine_126 : decode cX7_combine 126 = .ok (.goto 13, 3) := by decide +kernel
theorem dX7_combine_67 : decode cX7_combine 67 = .ok (.aload_n 0, 1) := by decide +kernel
theorem dX7_combine_68 : decode cX7_combine 68 = .ok (.aload_n 0, 1) := by decide +kernel
theorem dX7_combine_69 : decode cX7_combine 69 = .ok (.lload 4, 2) := by decide +kernel
theorem dX7_combine_71 : decode cX7_combine 71 = .ok (.lload 6, 2) := by decide +kernel
theorem dX7_combine_73 : decode cX7_combine 73 = .ok (.invokevirtual 121, 3) := by decide +kernel
theorem dX7_combine_76 : decode cX7_combine 76 = .ok (.putfield 114, 3) := by decide +kernel
theorem dX7_combine_79 : decode cX7_combine 79 = .ok (.aload_n 0, 1) := by decide +kernel
theorem dX7_combine_80 : decode cX7_combine 80 = .ok (.lload 6, 2) := by decide +kernel
theorem dX7_combine_82 : decode cX7_combine 82 = .ok (.lconst 0, 1) := by decide +kernel
theorem dX7_combine_83 : decode cX7_combine 83 = .ok (.lcmp, 1) := by decide +kernel
theorem dX7_combine_84 : decode cX7_combine 84 = .ok (.ifCond .ne 7, 3) := by decide +kernel
theorem dX7_combine_91 : decode cX7_combine 91 = .ok (.aload_n 0, 1) := by decide +kernel
theorem dX7_combine_92 : decode cX7_combine 92 = .ok (.getfield 89, 3) := by decide +kernel
theorem dX7_combine_95 : decode cX7_combine 95 = .ok (.putfield 89, 3) := by decide +kernel
theorem dX7_combine_98 : decode cX7_combine 98 = .ok (.return_, 1) := by decide +kernel
theorem dX7_combine_87 : decode cX7_combine 87 = .ok (.iconst 3, 1) := by decide +kernel
theorem dX7_combine_88 : decode cX7_combine 88 = .ok (.goto 7, 3) := by decide +kernel
theorem dX7_combine_26 : decode cX7_combine 26 = .ok (.aload_n 0, 1) := by decide +kernel
theorem dX7_combine_27 : decode cX7_combine 27 = .ok (.aload_n 0, 1) := by decide +kernel
theorem dX7_combine_28 : decode cX7_combine 28 = .ok (.lload_n 2, 1) := by decide +kernel
theorem dX7_combine_29 : decode cX7_combine 29 = .ok (.lload 6, 2) := by decide +kernel
theorem dX7_combine_31 : decode cX7_combine 31 = .ok (.invokevirtual 121, 3) := by decide +kernel
theorem dX7_combine_34 : decode cX7_combine 34 = .ok (.putfield 111, 3) := by decide +kernel
theorem dX7_combine_37 : decode cX7_combine 37 = .ok (.aload_n 0, 1) := by decide +kernel
theorem dX7_combine_38 : decode cX7_combine 38 = .ok (.aload_n 0, 1) := by decide +kernel
theorem dX7_combine_39 : decode cX7_combine 39 = .ok (.lload 4, 2) := by decide +kernel
theorem dX7_combine_41 : decode cX7_combine 41 = .ok (.lload 8, 2) := by decide +kernel
theorem dX7_combine_43 : decode cX7_combine 43 = .ok (.invokevirtual 121, 3) := by decide +kernel
theorem dX7_combine_46 : decode cX7_combine 46 = .ok (.putfield 114, 3) := by decide +kernel
theorem dX7_combine_49 : decode cX7_combine 49 = .ok (.return_, 1) := by decide +kernel
theorem dX7_combine_19 : decode cX7_combine 19 = .ok (.return_, 1) := by decide +kernel
theorem dX7_commonBelowZero_0 : decode cX7_commonBelowZero 0 = .ok (.lload_n 0, 1) := by decide +kernel
theorem dX7_commonBelowZero_1 : decode cX7_commonBelowZero 1 = .ok (.lconst 0, 1) := by decide +kernel
theorem dX7_commonBelowZero_2 : decode cX7_commonBelowZero 2 = .ok (.lcmp, 1) := by decide +kernel
theorem dX7_commonBelowZero_3 : decode cX7_commonBelowZero 3 = .ok (.ifCond .le 8, 3) := by decide +kernel
theorem dX7_commonBelowZero_11 : decode cX7_commonBelowZero 11 = .ok (.lload_n 0, 1) := by decide +kernel
theorem dX7_commonBelowZero_12 : decode cX7_commonBelowZero 12 = .ok (.lstore 4, 2) := by decide +kernel
theorem dX7_commonBelowZero_14 : decode cX7_commonBelowZero 14 = .ok (.lload_n 2, 1) := by decide +kernel
theorem dX7_commonBelowZero_15 : decode cX7_commonBelowZero 15 = .ok (.lconst 0, 1) := by decide +kernel
theorem dX7_commonBelowZero_16 : decode cX7_commonBelowZero 16 = .ok (.lcmp, 1) := by decide +kernel
theorem dX7_commonBelowZero_17 : decode cX7_commonBelowZero 17 = .ok (.ifCond .le 8, 3) := by decide +kernel
theorem dX7_commonBelowZero_25 : decode cX7_commonBelowZero 25 = .ok (.lload_n 2, 1) := by decide +kernel
theorem dX7_commonBelowZero_26 : decode cX7_commonBelowZero 26 = .ok (.lstore 6, 2) := by decide +kernel
theorem dX7_commonBelowZero_28 : decode cX7_commonBelowZero 28 = .ok (.iconst 0, 1) := by decide +kernel
theorem dX7_commonBelowZero_29 : decode cX7_commonBelowZero 29 = .ok (.istore 8, 2) := by decide +kernel
theorem dX7_commonBelowZero_31 : decode cX7_commonBelowZero 31 = .ok (.iload 8, 2) := by decide +kernel
theorem dX7_commonBelowZero_33 : decode cX7_commonBelowZero 33 = .ok (.bipush 100, 2) := by decide +kernel
theorem dX7_commonBelowZero_35 : decode cX7_commonBelowZero 35 = .ok (.if_icmp .ge 31, 3) := by decide +kernel
theorem dX7_commonBelowZero_38 : decode cX7_commonBelowZero 38 = .ok (.lload 6, 2) := by decide +kernel
theorem dX7_commonBelowZero_40 : decode cX7_commonBelowZero 40 = .ok (.lconst 0, 1) := by decide +kernel
theorem dX7_commonBelowZero_41 : decode cX7_commonBelowZero 41 = .ok (.lcmp, 1) := by decide +kernel
theorem dX7_commonBelowZero_42 : decode cX7_commonBelowZero 42 = .ok (.ifCond .eq 24, 3) := by decide +kernel
theorem dX7_commonBelowZero_45 : decode cX7_commonBelowZero 45 = .ok (.lload 4, 2) := by decide +kernel
theorem dX7_commonBelowZero_47 : decode cX7_commonBelowZero 47 = .ok (.lload 6, 2) := by decide +kernel
theorem dX7_commonBelowZero_49 : decode cX7_commonBelowZero 49 = .ok (.lrem, 1) := by decide +kernel
theorem dX7_commonBelowZero_50 : decode cX7_commonBelowZero 50 = .ok (.lstore 9, 2) := by decide +kernel
theorem dX7_commonBelowZero_52 : decode cX7_commonBelowZero 52 = .ok (.lload 6, 2) := by decide +kernel
theorem dX7_commonBelowZero_54 : decode cX7_commonBelowZero 54 = .ok (.lstore 4, 2) := by decide +kernel
theorem dX7_commonBelowZero_56 : decode cX7_commonBelowZero 56 = .ok (.lload 9, 2) := by decide +kernel
theorem dX7_commonBelowZero_58 : decode cX7_commonBelowZero 58 = .ok (.lstore 6, 2) := by decide +kernel
theorem dX7_commonBelowZero_60 : decode cX7_commonBelowZero 60 = .ok (.iinc 8 1, 3) := by decide +kernel
theorem dX7_commonBelowZero_63 : decode cX7_commonBelowZero 63 = .ok (.goto (-32), 3) := by decide +kernel
theorem dX7_commonBelowZero_66 : decode cX7_commonBelowZero 66 = .ok (.lload 4, 2) := by decide +kernel
theorem dX7_commonBelowZero_68 : decode cX7_commonBelowZero 68 = .ok (.lreturn, 1) := by decide +kernel
theorem dX7_commonBelowZero_20 : decode cX7_commonBelowZero 20 = .ok (.lload_n 2, 1) := by decide +kernel
theorem dX7_commonBelowZero_21 : decode cX7_commonBelowZero 21 = .ok (.lneg, 1) := by decide +kernel
theorem dX7_commonBelowZero_22 : decode cX7_commonBelowZero 22 = .ok (.goto 4, 3) := by decide +kernel
theorem dX7_commonBelowZero_6 : decode cX7_commonBelowZero 6 = .ok (.lload_n 0, 1) := by decide +kernel
theorem dX7_commonBelowZero_7 : decode cX7_commonBelowZero 7 = .ok (.lneg, 1) := by decide +kernel
theorem dX7_commonBelowZero_8 : decode cX7_commonBelowZero 8 = .ok (.goto 4, 3) := by decide +kernel
theorem zl_X6_33 : Cond.constantLong RX6 33 (255 : Int64) ∈ zk_E.2.2.1 := zk_b7 45 (by decide +kernel) rfl
theorem zl_X6_35 : Cond.constantLong RX6 35 (32 : Int64) ∈ zk_E.2.2.1 := zk_b7 46 (by decide +kernel) rfl
theorem zl_X6_37 : Cond.constantLong RX6 37 (126 : Int64) ∈ zk_E.2.2.1 := zk_b7 47 (by decide +kernel) rfl
theorem zl_X6_39 : zm_F zk_E RX6 39 6 1 := ⟨RX6, TX6, 10, rfl, zk_i6, by decide, zk_b1 156 (by decide +kernel) rfl⟩
theorem zt_6_1 : zm_T zk_E RX6 6 1 .int false := ⟨RX6, TX6, 10, tyX6, rfl, tyX6_ok, nmX6, rfl, rfl, rfl⟩
theorem zl_X6_43 : zm_F zk_E RX6 43 6 5 := ⟨RX6, TX6, 10, rfl, zk_i6, by decide, zk_b1 163 (by decide +kernel) rfl⟩
theorem zl_X6_64 : zm_L zk_E RX6 64 yX6_isDigit (.code yX6_isDigit cX6_isDigit 1 (some .boolean)) 1 ∧ Cond.static yX6_isDigit ∈ zk_E.2.2.1 := ⟨⟨zk_b4 44 (by decide +kernel) rfl, zk_b1 4 (by decide +kernel) rfl, zk_b4 42 (by decide +kernel) rfl, by decide +kernel, by decide +kernel, by decide +kernel⟩, zk_b4 43 (by decide +kernel) rfl⟩
theorem zl_X6_80 : Cond.constantLong RX6 80 (10 : Int64) ∈ zk_E.2.2.1 := zk_b4 49 (by decide +kernel) rfl
theorem zl_X6_71 : zm_L zk_E RX6 71 yX6_isLetter (.code yX6_isLetter cX6_isLetter 1 (some .boolean)) 1 ∧ Cond.static yX6_isLetter ∈ zk_E.2.2.1 := ⟨⟨zk_b4 52 (by decide +kernel) rfl, zk_b1 4 (by decide +kernel) rfl, zk_b4 50 (by decide +kernel) rfl, by decide +kernel, by decide +kernel, by decide +kernel⟩, zk_b4 51 (by decide +kernel) rfl⟩
theorem zl_X6_82 : Cond.fieldLink RX6 82 "TowerHouse$PermitText" "SIGNS" "[C" ∈ zk_E.2.2.1 := zk_b4 60 (by decide +kernel) rfl
theorem zl_X6_77 : zm_L zk_E RX6 77 yX6_isSign (.code yX6_isSign cX6_isSign 2 (some .boolean)) 1 ∧ Cond.static yX6_isSign ∈ zk_E.2.2.1 := ⟨⟨zk_b4 59 (by decide +kernel) rfl, zk_b1 4 (by decide +kernel) rfl, zk_b4 57 (by decide +kernel) rfl, by decide +kernel, by decide +kernel, by decide +kernel⟩, zk_b4 58 (by decide +kernel) rfl⟩
theorem zl_X6_74 : zm_L zk_E RX6 74 yX6_splitName (.code yX6_splitName cX6_splitName 6 (some .int)) 2 ∧ Cond.instanceMethod yX6_splitName ∈ zk_E.2.2.1 ∧ Cond.selects yX6_splitName.cls yX6_splitName yX6_splitName ∈ zk_E.2.2.1 := ⟨⟨zk_b4 56 (by decide +kernel) rfl, zk_b1 4 (by decide +kernel) rfl, zk_b4 53 (by decide +kernel) rfl, by decide +kernel, by decide +kernel, by decide +kernel⟩, zk_b4 55 (by decide +kernel) rfl, zk_s1 (q := (yX6_splitName, 10)) 3 (by decide +kernel)⟩
theorem zl_X6_68 : zm_L zk_E RX6 68 yX6_splitNumber (.code yX6_splitNumber cX6_splitNumber 6 (some .int)) 2 ∧ Cond.instanceMethod yX6_splitNumber ∈ zk_E.2.2.1 ∧ Cond.selects yX6_splitNumber.cls yX6_splitNumber yX6_splitNumber ∈ zk_E.2.2.1 := ⟨⟨zk_b4 48 (by decide +kernel) rfl, zk_b1 4 (by decide +kernel) rfl, zk_b4 45 (by decide +kernel) rfl, by decide +kernel, by decide +kernel, by decide +kernel⟩, zk_b4 47 (by decide +kernel) rfl, zk_s1 (q := (yX6_splitNumber, 10)) 2 (by decide +kernel)⟩
theorem zl_X6_60 : zm_L zk_E RX6 60 yX6_splitWord (.code yX6_splitWord cX6_splitWord 5 (some .int)) 2 ∧ Cond.instanceMethod yX6_splitWord ∈ zk_E.2.2.1 ∧ Cond.selects yX6_splitWord.cls yX6_splitWord yX6_splitWord ∈ zk_E.2.2.1 := ⟨⟨zk_b4 41 (by decide +kernel) rfl, zk_b1 4 (by decide +kernel) rfl, zk_b4 38 (by decide +kernel) rfl, by decide +kernel, by decide +kernel, by decide +kernel⟩, zk_b4 40 (by decide +kernel) rfl, zk_s1 (q := (yX6_splitWord, 10)) 1 (by decide +kernel)⟩
theorem zl_X6_49 : zm_F zk_E RX6 49 6 6 := ⟨RX6, TX6, 10, rfl, zk_i6, by decide, zk_b1 165 (by decide +kernel) rfl⟩
theorem zt_6_5 : zm_T zk_E RX6 6 5 .int false := ⟨RX6, TX6, 10, tyX6, rfl, tyX6_ok, nmX6, rfl, rfl, rfl⟩
theorem zl_X6_56 : zm_L zk_E RX6 56 yX6_skipSign (.code yX6_skipSign cX6_skipSign 2 (some .boolean)) 1 ∧ Cond.instanceMethod yX6_skipSign ∈ zk_E.2.2.1 ∧ Cond.selects yX6_skipSign.cls yX6_skipSign yX6_skipSign ∈ zk_E.2.2.1 := ⟨⟨zk_b4 73 (by decide +kernel) rfl, zk_b1 4 (by decide +kernel) rfl, zk_b4 70 (by decide +kernel) rfl, by decide +kernel, by decide +kernel, by decide +kernel⟩, zk_b4 72 (by decide +kernel) rfl, zk_s1 (q := (yX6_skipSign, 10)) 6 (by decide +kernel)⟩
theorem zl_X6_92 : zm_L zk_E RX6 92 yX6_readSide (.code yX6_readSide cX6_readSide 4 (some .boolean)) 1 ∧ Cond.instanceMethod yX6_readSide ∈ zk_E.2.2.1 ∧ Cond.selects yX6_readSide.cls yX6_readSide yX6_readSide ∈ zk_E.2.2.1 := ⟨⟨zk_b4 81 (by decide +kernel) rfl, zk_b1 4 (by decide +kernel) rfl, zk_b4 78 (by decide +kernel) rfl, by decide +kernel, by decide +kernel, by decide +kernel⟩, zk_b4 80 (by decide +kernel) rfl, zk_s1 (q := (yX6_readSide, 10)) 8 (by decide +kernel)⟩
theorem zl_X6_101 : zm_L zk_E RX6 101 yX6_readFactor (.code yX6_readFactor cX6_readFactor 2 (some .boolean)) 1 ∧ Cond.instanceMethod yX6_readFactor ∈ zk_E.2.2.1 ∧ Cond.selects yX6_readFactor.cls yX6_readFactor yX6_readFactor ∈ zk_E.2.2.1 := ⟨⟨zk_b4 89 (by decide +kernel) rfl, zk_b1 4 (by decide +kernel) rfl, zk_b4 86 (by decide +kernel) rfl, by decide +kernel, by decide +kernel, by decide +kernel⟩, zk_b4 88 (by decide +kernel) rfl, zk_s1 (q := (yX6_readFactor, 10)) 10 (by decide +kernel)⟩
theorem zl_X6_98 : zm_L zk_E RX6 98 yX6_readTerm (.code yX6_readTerm cX6_readTerm 4 (some .boolean)) 1 ∧ Cond.instanceMethod yX6_readTerm ∈ zk_E.2.2.1 ∧ Cond.selects yX6_readTerm.cls yX6_readTerm yX6_readTerm ∈ zk_E.2.2.1 := ⟨⟨zk_b4 85 (by decide +kernel) rfl, zk_b1 4 (by decide +kernel) rfl, zk_b4 82 (by decide +kernel) rfl, by decide +kernel, by decide +kernel, by decide +kernel⟩, zk_b4 84 (by decide +kernel) rfl, zk_s1 (q := (yX6_readTerm, 10)) 9 (by decide +kernel)⟩
theorem zl_X6_95 : zm_L zk_E RX6 95 yX6_skipCompareSign (.code yX6_skipCompareSign cX6_skipCompareSign 1 (some .boolean)) 0 ∧ Cond.instanceMethod yX6_skipCompareSign ∈ zk_E.2.2.1 ∧ Cond.selects yX6_skipCompareSign.cls yX6_skipCompareSign yX6_skipCompareSign ∈ zk_E.2.2.1 := ⟨⟨zk_b4 93 (by decide +kernel) rfl, zk_b1 4 (by decide +kernel) rfl, zk_b4 90 (by decide +kernel) rfl, by decide +kernel, by decide +kernel, by decide +kernel⟩, zk_b4 92 (by decide +kernel) rfl, zk_s1 (q := (yX6_skipCompareSign, 10)) 11 (by decide +kernel)⟩
theorem zl_X6_85 : zm_L zk_E RX6 85 yX6_isRuleName (.code yX6_isRuleName cX6_isRuleName 4 (some .boolean)) 1 ∧ Cond.instanceMethod yX6_isRuleName ∈ zk_E.2.2.1 ∧ Cond.selects yX6_isRuleName.cls yX6_isRuleName yX6_isRuleName ∈ zk_E.2.2.1 := ⟨⟨zk_b4 69 (by decide +kernel) rfl, zk_b1 4 (by decide +kernel) rfl, zk_b4 66 (by decide +kernel) rfl, by decide +kernel, by decide +kernel, by decide +kernel⟩, zk_b4 68 (by decide +kernel) rfl, zk_s1 (q := (yX6_isRuleName, 10)) 5 (by decide +kernel)⟩
theorem zl_X6_89 : zm_L zk_E RX6 89 yX6_readClause (.code yX6_readClause cX6_readClause 1 (some .boolean)) 0 ∧ Cond.instanceMethod yX6_readClause ∈ zk_E.2.2.1 ∧ Cond.selects yX6_readClause.cls yX6_readClause yX6_readClause ∈ zk_E.2.2.1 := ⟨⟨zk_b4 77 (by decide +kernel) rfl, zk_b1 4 (by decide +kernel) rfl, zk_b4 74 (by decide +kernel) rfl, by decide +kernel, by decide +kernel, by decide +kernel⟩, zk_b4 76 (by decide +kernel) rfl, zk_s1 (q := (yX6_readClause, 10)) 7 (by decide +kernel)⟩
theorem zt_6_6 : zm_T zk_E RX6 6 6 .int false := ⟨RX6, TX6, 10, tyX6, rfl, tyX6_ok, nmX6, rfl, rfl, rfl⟩
theorem zl_X6_46 : zm_L zk_E RX6 46 yX6_splitWords (.code yX6_splitWords cX6_splitWords 3 none) 0 ∧ Cond.instanceMethod yX6_splitWords ∈ zk_E.2.2.1 ∧ Cond.selects yX6_splitWords.cls yX6_splitWords yX6_splitWords ∈ zk_E.2.2.1 := ⟨⟨zk_b4 37 (by decide +kernel) rfl, zk_b1 4 (by decide +kernel) rfl, zk_b4 34 (by decide +kernel) rfl, by decide +kernel, by decide +kernel, by decide +kernel⟩, zk_b4 36 (by decide +kernel) rfl, zk_s1 (q := (yX6_splitWords, 10)) 0 (by decide +kernel)⟩
theorem zl_X6_52 : zm_L zk_E RX6 52 yX6_readRule (.code yX6_readRule cX6_readRule 2 (some .boolean)) 0 ∧ Cond.instanceMethod yX6_readRule ∈ zk_E.2.2.1 ∧ Cond.selects yX6_readRule.cls yX6_readRule yX6_readRule ∈ zk_E.2.2.1 := ⟨⟨zk_b4 65 (by decide +kernel) rfl, zk_b1 4 (by decide +kernel) rfl, zk_b4 62 (by decide +kernel) rfl, by decide +kernel, by decide +kernel, by decide +kernel⟩, zk_b4 64 (by decide +kernel) rfl, zk_s1 (q := (yX6_readRule, 10)) 4 (by decide +kernel)⟩
theorem zl_X7_3 : Cond.methodLink RX7 3 Lib.objectInit ∈ zk_E.2.2.1 ∧ Cond.instanceMethod Lib.objectInit ∈ zk_E.2.2.1 ∧ Cond.code Lib.objectInit ⟨#[0xb1]⟩ 1 none ∈ zk_E.2.2.1 := ⟨zk_b1 199 (by decide +kernel) rfl, zk_b1 43 (by decide +kernel) rfl, zk_b1 44 (by decide +kernel) rfl⟩
theorem zl_X7_11 : zm_F zk_E RX7 11 7 2 := ⟨RX7, TX7, 16, rfl, zk_i7, by decide, zk_b1 206 (by decide +kernel) rfl⟩
theorem zt_7_2 : zm_T zk_E RX7 7 2 (.array .int) true := ⟨RX7, TX7, 16, tyX7, rfl, tyX7_ok, nmX7, rfl, rfl, rfl⟩
theorem zl_X7_17 : zm_F zk_E RX7 17 7 3 := ⟨RX7, TX7, 16, rfl, zk_i7, by decide, zk_b1 207 (by decide +kernel) rfl⟩
theorem zt_7_3 : zm_T zk_E RX7 7 3 (.array .long) true := ⟨RX7, TX7, 16, tyX7, rfl, tyX7_ok, nmX7, rfl, rfl, rfl⟩
theorem zl_X7_21 : zm_F zk_E RX7 21 7 4 := ⟨RX7, TX7, 16, rfl, zk_i7, by decide, zk_b1 208 (by decide +kernel) rfl⟩
theorem zt_7_4 : zm_T zk_E RX7 7 4 (.array .int) true := ⟨RX7, TX7, 16, tyX7, rfl, tyX7_ok, nmX7, rfl, rfl, rfl⟩
theorem zl_X7_24 : zm_F zk_E RX7 24 7 5 := ⟨RX7, TX7, 16, rfl, zk_i7, by decide, zk_b1 209 (by decide +kernel) rfl⟩
theorem zt_7_5 : zm_T zk_E RX7 7 5 (.array .int) true := ⟨RX7, TX7, 16, tyX7, rfl, tyX7_ok, nmX7, rfl, rfl, rfl⟩
theorem zl_X7_27 : Cond.classLink RX7 27 "[[J" ∈ zk_E.2.2.1 := zk_b1 200 (by decide +kernel) rfl
theorem zl_X7_29 : zm_F zk_E RX7 29 7 6 := ⟨RX7, TX7, 16, rfl, zk_i7, by decide, zk_b1 210 (by decide +kernel) rfl⟩
theorem zt_7_6 : zm_T zk_E RX7 7 6 (.array (.array .long)) true := ⟨RX7, TX7, 16, tyX7, rfl, tyX7_ok, nmX7, rfl, rfl, rfl⟩
theorem zl_X7_32 : zm_F zk_E RX7 32 7 7 := ⟨RX7, TX7, 16, rfl, zk_i7, by decide, zk_b1 211 (by decide +kernel) rfl⟩
theorem zt_7_7 : zm_T zk_E RX7 7 7 (.array .long) true := ⟨RX7, TX7, 16, tyX7, rfl, tyX7_ok, nmX7, rfl, rfl, rfl⟩
theorem zl_X7_35 : zm_F zk_E RX7 35 7 9 := ⟨RX7, TX7, 16, rfl, zk_i7, by decide, zk_b1 213 (by decide +kernel) rfl⟩
theorem zt_7_9 : zm_T zk_E RX7 7 9 (.array .long) true := ⟨RX7, TX7, 16, tyX7, rfl, tyX7_ok, nmX7, rfl, rfl, rfl⟩
theorem zl_X7_38 : zm_F zk_E RX7 38 7 10 := ⟨RX7, TX7, 16, rfl, zk_i7, by decide, zk_b1 214 (by decide +kernel) rfl⟩
theorem zt_7_10 : zm_T zk_E RX7 7 10 (.array .int) true := ⟨RX7, TX7, 16, tyX7, rfl, tyX7_ok, nmX7, rfl, rfl, rfl⟩
theorem zl_X7_41 : zm_FN zk_E RX7 41 6 2 := ⟨RX6, TX6, 10, "TowerHouse", rfl, zk_i6, by decide, zk_n1 159 (by decide +kernel) rfl⟩
theorem zl_X7_42 : Cond.methodLink RX7 42 arraycopyName ∈ zk_E.2.2.1 ∧ Cond.native arraycopyName ∈ zk_E.2.2.1 ∧ Cond.static arraycopyName ∈ zk_E.2.2.1 ∧ Cond.initialized "java/lang/System" ∈ zk_E.2.2.1 := ⟨zk_b4 102 (by decide +kernel) rfl, zk_b4 104 (by decide +kernel) rfl, zk_b4 103 (by decide +kernel) rfl, zk_b1 32 (by decide +kernel) rfl⟩
theorem zl_X7_48 : zm_FN zk_E RX7 48 6 3 := ⟨RX6, TX6, 10, "TowerHouse", rfl, zk_i6, by decide, zk_n1 161 (by decide +kernel) rfl⟩
theorem zl_X7_49 : zm_FN zk_E RX7 49 6 8 := ⟨RX6, TX6, 10, "TowerHouse", rfl, zk_i6, by decide, zk_n1 168 (by decide +kernel) rfl⟩
theorem zl_X7_50 : zm_FN zk_E RX7 50 6 9 := ⟨RX6, TX6, 10, "TowerHouse", rfl, zk_i6, by decide, zk_n1 170 (by decide +kernel) rfl⟩
theorem zl_X7_51 : zm_FN zk_E RX7 51 6 6 := ⟨RX6, TX6, 10, "TowerHouse", rfl, zk_i6, by decide, zk_n1 164 (by decide +kernel) rfl⟩
theorem zl_X7_55 : zm_F zk_E RX7 55 7 0 := ⟨RX7, TX7, 16, rfl, zk_i7, by decide, zk_b1 202 (by decide +kernel) rfl⟩
theorem zt_7_0 : zm_T zk_E RX7 7 0 .int false := ⟨RX7, TX7, 16, tyX7, rfl, tyX7_ok, nmX7, rfl, rfl, rfl⟩
theorem zl_X7_56 : zm_F zk_E RX7 56 7 1 := ⟨RX7, TX7, 16, rfl, zk_i7, by decide, zk_b1 204 (by decide +kernel) rfl⟩
theorem zt_7_1 : zm_T zk_E RX7 7 1 .boolean false := ⟨RX7, TX7, 16, tyX7, rfl, tyX7_ok, nmX7, rfl, rfl, rfl⟩
theorem zl_X7_60 : Cond.constantLong RX7 60 (255 : Int64) ∈ zk_E.2.2.1 := zk_b7 73 (by decide +kernel) rfl
theorem zl_X7_62 : Cond.constantLong RX7 62 (97 : Int64) ∈ zk_E.2.2.1 := zk_b7 74 (by decide +kernel) rfl
theorem zl_X7_64 : Cond.constantLong RX7 64 (122 : Int64) ∈ zk_E.2.2.1 := zk_b7 75 (by decide +kernel) rfl
theorem zl_X7_66 : zm_F zk_E RX7 66 7 8 := ⟨RX7, TX7, 16, rfl, zk_i7, by decide, zk_b1 212 (by decide +kernel) rfl⟩
theorem zl_X7_69 : zm_L zk_E RX7 69 yX7_findFact (.code yX7_findFact cX7_findFact 4 (some .int)) 1 ∧ Cond.instanceMethod yX7_findFact ∈ zk_E.2.2.1 ∧ Cond.selects yX7_findFact.cls yX7_findFact yX7_findFact ∈ zk_E.2.2.1 := ⟨⟨zk_b7 85 (by decide +kernel) rfl, zk_b1 5 (by decide +kernel) rfl, zk_b7 82 (by decide +kernel) rfl, by decide +kernel, by decide +kernel, by decide +kernel⟩, zk_b7 84 (by decide +kernel) rfl, zk_s3 (q := (yX7_findFact, 16)) 6 (by decide +kernel)⟩
theorem zl_X7_73 : Cond.constantLong RX7 73 (1000000000000 : Int64) ∈ zk_E.2.2.1 := zk_b7 90 (by decide +kernel) rfl
theorem zt_7_8 : zm_T zk_E RX7 7 8 .int false := ⟨RX7, TX7, 16, tyX7, rfl, tyX7_ok, nmX7, rfl, rfl, rfl⟩
theorem zl_X7_96 : zm_F zk_E RX7 96 7 11 := ⟨RX7, TX7, 16, rfl, zk_i7, by decide, zk_b1 215 (by decide +kernel) rfl⟩
theorem zt_7_11 : zm_T zk_E RX7 7 11 .int false := ⟨RX7, TX7, 16, tyX7, rfl, tyX7_ok, nmX7, rfl, rfl, rfl⟩
theorem zl_X7_103 : zm_L zk_E RX7 103 yX7_takeWord (.code yX7_takeWord cX7_takeWord 2 (some .int)) 0 ∧ Cond.instanceMethod yX7_takeWord ∈ zk_E.2.2.1 ∧ Cond.selects yX7_takeWord.cls yX7_takeWord yX7_takeWord ∈ zk_E.2.2.1 := ⟨⟨zk_b7 129 (by decide +kernel) rfl, zk_b1 5 (by decide +kernel) rfl, zk_b7 126 (by decide +kernel) rfl, by decide +kernel, by decide +kernel, by decide +kernel⟩, zk_b7 128 (by decide +kernel) rfl, zk_s3 (q := (yX7_takeWord, 16)) 10 (by decide +kernel)⟩
theorem zl_X7_114 : zm_F zk_E RX7 114 7 15 := ⟨RX7, TX7, 16, rfl, zk_i7, by decide, zk_b1 219 (by decide +kernel) rfl⟩
theorem zt_7_15 : zm_T zk_E RX7 7 15 .long false := ⟨RX7, TX7, 16, tyX7, rfl, tyX7_ok, nmX7, rfl, rfl, rfl⟩
theorem zl_X7_111 : zm_F zk_E RX7 111 7 14 := ⟨RX7, TX7, 16, rfl, zk_i7, by decide, zk_b1 218 (by decide +kernel) rfl⟩
theorem zt_7_14 : zm_T zk_E RX7 7 14 .long false := ⟨RX7, TX7, 16, tyX7, rfl, tyX7_ok, nmX7, rfl, rfl, rfl⟩
theorem zl_X7_89 : zm_F zk_E RX7 89 7 12 := ⟨RX7, TX7, 16, rfl, zk_i7, by decide, zk_b1 216 (by decide +kernel) rfl⟩
theorem zt_7_12 : zm_T zk_E RX7 7 12 .int false := ⟨RX7, TX7, 16, tyX7, rfl, tyX7_ok, nmX7, rfl, rfl, rfl⟩
theorem zl_X7_92 : zm_F zk_E RX7 92 7 13 := ⟨RX7, TX7, 16, rfl, zk_i7, by decide, zk_b1 217 (by decide +kernel) rfl⟩
theorem zt_7_13 : zm_T zk_E RX7 7 13 .long false := ⟨RX7, TX7, 16, tyX7, rfl, tyX7_ok, nmX7, rfl, rfl, rfl⟩
theorem zl_X7_107 : zm_L zk_E RX7 107 yX7_reckonSide (.code yX7_reckonSide cX7_reckonSide 9 none) 1 ∧ Cond.instanceMethod yX7_reckonSide ∈ zk_E.2.2.1 ∧ Cond.selects yX7_reckonSide.cls yX7_reckonSide yX7_reckonSide ∈ zk_E.2.2.1 := ⟨⟨zk_b7 125 (by decide +kernel) rfl, zk_b1 5 (by decide +kernel) rfl, zk_b7 122 (by decide +kernel) rfl, by decide +kernel, by decide +kernel, by decide +kernel⟩, zk_b7 124 (by decide +kernel) rfl, zk_s3 (q := (yX7_reckonSide, 16)) 9 (by decide +kernel)⟩
theorem zl_X7_148 : Cond.constantLong RX7 148 (-1 : Int64) ∈ zk_E.2.2.1 := zk_b7 150 (by decide +kernel) rfl
theorem zl_X7_152 : Cond.constantLong RX7 152 (-9223372036854775808 : Int64) ∈ zk_E.2.2.1 := zk_b7 151 (by decide +kernel) rfl
theorem zl_X7_121 : zm_L zk_E RX7 121 yX7_multiply (.code yX7_multiply cX7_multiply 8 (some .long)) 2 ∧ Cond.instanceMethod yX7_multiply ∈ zk_E.2.2.1 ∧ Cond.selects yX7_multiply.cls yX7_multiply yX7_multiply ∈ zk_E.2.2.1 := ⟨⟨zk_b7 149 (by decide +kernel) rfl, zk_b1 5 (by decide +kernel) rfl, zk_b7 146 (by decide +kernel) rfl, by decide +kernel, by decide +kernel, by decide +kernel⟩, zk_b7 148 (by decide +kernel) rfl, zk_s3 (q := (yX7_multiply, 16)) 15 (by decide +kernel)⟩
theorem zl_X7_145 : zm_L zk_E RX7 145 yX7_subtract (.code yX7_subtract cX7_subtract 7 (some .long)) 2 ∧ Cond.instanceMethod yX7_subtract ∈ zk_E.2.2.1 ∧ Cond.selects yX7_subtract.cls yX7_subtract yX7_subtract ∈ zk_E.2.2.1 := ⟨⟨zk_b7 159 (by decide +kernel) rfl, zk_b1 5 (by decide +kernel) rfl, zk_b7 156 (by decide +kernel) rfl, by decide +kernel, by decide +kernel, by decide +kernel⟩, zk_b7 158 (by decide +kernel) rfl, zk_s4 (q := (yX7_subtract, 16)) 1 (by decide +kernel)⟩
theorem zl_X7_142 : zm_L zk_E RX7 142 yX7_add (.code yX7_add cX7_add 7 (some .long)) 2 ∧ Cond.instanceMethod yX7_add ∈ zk_E.2.2.1 ∧ Cond.selects yX7_add.cls yX7_add yX7_add ∈ zk_E.2.2.1 := ⟨⟨zk_b7 155 (by decide +kernel) rfl, zk_b1 5 (by decide +kernel) rfl, zk_b7 152 (by decide +kernel) rfl, by decide +kernel, by decide +kernel, by decide +kernel⟩, zk_b7 154 (by decide +kernel) rfl, zk_s4 (q := (yX7_add, 16)) 0 (by decide +kernel)⟩
set_option maxHeartbeats 4000000 in
set_option maxRecDepth 100000 in
theorem zt_X6_isSayable_L2 {p : Program} {l : Launch} {e : Env} {R : Room} {s : State} {m : MethodId} {args : Array Value} {below : List Frame} {meth : Method} {c : Code} {V : zm_V} {mc ms d rc rs : Nat} (hX : zm_X p R s m args meth c RX6 "isSayable" cX6_isSayable 5 zk_E V mc ms) (hr : meth.sig.returnType = (some .boolean)) (hR : R.frames = d ∧ R.locals = 64 * d) (hd : 1 ≤ d) {N : Nat} {res : (Int32 × zm_S) ⊕ ((Unit) × zm_S)} {out : (Int32 × zm_S)} (j0 : Int64) (hf : ∀ o, res = .inl o → o = out) (hk : ∀ (S' : zm_S), res = .inr ((), S') → zw p l e R s m args below meth c (vx_MQ below (zm_Qc zk_E V (zo_i out)) (zm_XC zk_E V zo_x) args s mc ms (fun q => V.2.2.2.1 ≤ q)) 5 zk_E V mc ms 46 [] [] S' rc rs) : ∀ (n : Nat) (i2 : Int32) (S : zm_S), zf_X6_isSayable_L2 N n j0 i2 S = some res → zw p l e R s m args below meth c (vx_MQ below (zm_Qc zk_E V (zo_i out)) (zm_XC zk_E V zo_x) args s mc ms (fun q => V.2.2.2.1 ≤ q)) 5 zk_E V mc ms 2 [(0, .long j0), (2, .int i2)] [] S rc rs := by
  intro n
  induction n with
  | zero => intro i2 S h; cases h
  | succ n ih =>
    intro i2 S h
    rw [zf_X6_isSayable_L2] at h
    refine zw_iload_n hX dX6_isSayable_2 rfl ?_
    refine zw_bipush (v := (64 : Int32)) hX dX6_isSayable_3 (by decide) ?_
    refine zw_icmp_ge (tgt := 46) hX dX6_isSayable_5 (by decide) (fun c5 => ?_) (fun c5 => ?_)
    · rw [if_pos c5] at h
      refine zw_sub (lv' := []) zs_nil ?_
      exact hk  _ (Option.some.inj h).symm
    · rw [if_neg c5] at h
      refine zw_lload_n hX dX6_isSayable_8 rfl ?_
      refine zw_iload_n hX dX6_isSayable_9 rfl ?_
      refine zw_lshr hX dX6_isSayable_10 ?_
      refine zw_ldc2 (v := (255 : Int64)) hX dX6_isSayable_11 zl_X6_33 ?_
      refine zw_land hX dX6_isSayable_14 ?_
      refine zw_lstore_n hX dX6_isSayable_15 (by decide) ?_
      refine zw_lload_n hX dX6_isSayable_16 rfl ?_
      refine zw_lconst (v := (0 : Int64)) hX dX6_isSayable_17 (by decide) ?_
      refine zw_lcmp hX dX6_isSayable_18 ?_
      refine zw_if_eq (tgt := 40) hX dX6_isSayable_19 (by decide) (fun c19 => ?_) (fun c19 => ?_)
      · rw [if_pos c19] at h
        refine zw_iinc (v := (i2 + (8 : Int32))) hX dX6_isSayable_40 rfl rfl (by decide) ?_
        refine zw_goto (tgt := 2) hX dX6_isSayable_43 (by decide) ?_
        refine zw_sub (lv' := [(0, .long j0), (2, .int (i2 + (8 : Int32)))]) (List.forall_mem_cons.mpr ⟨rfl, (List.forall_mem_cons.mpr ⟨rfl, zs_nil⟩)⟩) ?_
        exact ih _ _ h
      · rw [if_neg c19] at h
        refine zw_lload_n hX dX6_isSayable_22 rfl ?_
        refine zw_ldc2 (v := (32 : Int64)) hX dX6_isSayable_23 zl_X6_35 ?_
        refine zw_lcmp hX dX6_isSayable_26 ?_
        refine zw_if_lt (tgt := 38) hX dX6_isSayable_27 (by decide) (fun c27 => ?_) (fun c27 => ?_)
        · rw [if_pos c27] at h
          refine zw_iconst (v := (0 : Int32)) hX dX6_isSayable_38 (by decide) ?_
          have hz := hf _ (Option.some.inj h).symm
          subst hz
          exact zw_iret hX hr dX6_isSayable_39 rfl ⟨rfl, rfl⟩
        · rw [if_neg c27] at h
          refine zw_lload_n hX dX6_isSayable_30 rfl ?_
          refine zw_ldc2 (v := (126 : Int64)) hX dX6_isSayable_31 zl_X6_37 ?_
          refine zw_lcmp hX dX6_isSayable_34 ?_
          refine zw_if_le (tgt := 40) hX dX6_isSayable_35 (by decide) (fun c35 => ?_) (fun c35 => ?_)
          · rw [if_pos c35] at h
            refine zw_iinc (v := (i2 + (8 : Int32))) hX dX6_isSayable_40 rfl rfl (by decide) ?_
            refine zw_goto (tgt := 2) hX dX6_isSayable_43 (by decide) ?_
            refine zw_sub (lv' := [(0, .long j0), (2, .int (i2 + (8 : Int32)))]) (List.forall_mem_cons.mpr ⟨rfl, (List.forall_mem_cons.mpr ⟨rfl, zs_nil⟩)⟩) ?_
            exact ih _ _ h
          · rw [if_neg c35] at h
            refine zw_iconst (v := (0 : Int32)) hX dX6_isSayable_38 (by decide) ?_
            have hz := hf _ (Option.some.inj h).symm
            subst hz
            exact zw_iret hX hr dX6_isSayable_39 rfl ⟨rfl, rfl⟩
set_option maxHeartbeats 4000000 in
set_option maxRecDepth 100000 in
theorem zt_X6_isSayable {l : Launch} {V : zm_V} {N : Nat} {S : zm_S} {out : (Int32 × zm_S)} {d : Nat} {j0 : Int64} (hd : 1 ≤ d) (h : zf_X6_isSayable N j0 S = some out) : zm_Met l zk_E V yX6_isSayable (.code yX6_isSayable cX6_isSayable 5 (some .boolean)) d [.long j0] S 0 0 (zo_i out) zo_x := by
  refine zm_of (by decide +kernel) (Nat.le_of_ble_eq_true rfl) ?_
  intro p e R s m args below meth c hRR hX hr hxt
  have hR : R.frames = d ∧ R.locals = 64 * d := by rw [hRR]; exact ⟨rfl, rfl⟩
  have hX : zm_X p R s m args meth c RX6 "isSayable" cX6_isSayable 5 zk_E V 0 0 := hX
  unfold zf_X6_isSayable at h
  refine zw_sub (lv' := [(0, .long j0)]) (List.forall_mem_cons.mpr ⟨rfl, zs_nil⟩) ?_
  refine zw_iconst (v := (0 : Int32)) hX dX6_isSayable_0 (by decide) ?_
  refine zw_istore_n hX dX6_isSayable_1 (by decide) ?_
  obtain ⟨r, g, h⟩ := zb_some h
  refine zw_sub (lv' := [(0, .long j0), (2, .int (0 : Int32))]) (List.forall_mem_cons.mpr ⟨rfl, (List.forall_mem_cons.mpr ⟨rfl, zs_nil⟩)⟩) ?_
  refine zt_X6_isSayable_L2 hX hr hR hd (res := r) (out := out) j0 ?_ ?_ N _ _ g
  · intro o ho
    subst ho
    exact Option.some.inj h
  · intro  S1 hx
    subst hx
    try dsimp only at h
    refine zw_iconst (v := (1 : Int32)) hX dX6_isSayable_46 (by decide) ?_
    obtain rfl := Option.some.inj h
    exact zw_iret hX hr dX6_isSayable_47 rfl ⟨rfl, rfl⟩
set_option maxHeartbeats 4000000 in
set_option maxRecDepth 100000 in
theorem zt_X6_hasRoomFor_J31 {p : Program} {l : Launch} {e : Env} {R : Room} {s : State} {m : MethodId} {args : Array Value} {below : List Frame} {meth : Method} {c : Code} {V : zm_V} {mc ms d rc rs : Nat} (hX : zm_X p R s m args meth c RX6 "hasRoomFor" cX6_hasRoomFor 5 zk_E V mc ms) (hr : meth.sig.returnType = (some .boolean)) (hR : R.frames = d ∧ R.locals = 64 * d) (hd : 1 ≤ d) {N : Nat} {k : Nat → Int64 → Int32 → Int32 → zm_S → Option ((Int32 × zm_S) ⊕ ((Int32) × zm_S))} {a0 : Nat} {j1 : Int64} {i4 : Int32} {t0 : Int32} {t1 : Int32} {res : (Int32 × zm_S) ⊕ ((Int32) × zm_S)} {out : (Int32 × zm_S)}   (hf : ∀ o, res = .inl o → o = out) (hk : ∀ (x3 : Int32) (S' : zm_S), res = .inr (x3, S') → zw p l e R s m args below meth c (vx_MQ below (zm_Qc zk_E V (zo_i out)) (zm_XC zk_E V zo_x) args s mc ms (fun q => V.2.2.2.1 ≤ q)) 5 zk_E V mc ms 39 [(0, .ref a0), (3, .int x3)] [] S' rc rs) (hrec : ∀ (i3' : Int32) (i4' : Int32) (S : zm_S), k a0 j1 i3' i4' S = some res → zw p l e R s m args below meth c (vx_MQ below (zm_Qc zk_E V (zo_i out)) (zm_XC zk_E V zo_x) args s mc ms (fun q => V.2.2.2.1 ≤ q)) 5 zk_E V mc ms 5 [(0, .ref a0), (1, .long j1), (3, .int i3'), (4, .int i4')] [] S rc rs) {S : zm_S} (h : zf_X6_hasRoomFor_J31 N k a0 j1 i4 t0 t1 S = some res) : zw p l e R s m args below meth c (vx_MQ below (zm_Qc zk_E V (zo_i out)) (zm_XC zk_E V zo_x) args s mc ms (fun q => V.2.2.2.1 ≤ q)) 5 zk_E V mc ms 31 [(0, .ref a0), (1, .long j1), (4, .int i4)] [.int t1, .int t0] S rc rs := by
  unfold zf_X6_hasRoomFor_J31 at h
  refine zw_iadd hX dX6_hasRoomFor_31 ?_
  refine zw_istore_n hX dX6_hasRoomFor_32 (by decide) ?_
  refine zw_iinc (v := (i4 + (8 : Int32))) hX dX6_hasRoomFor_33 rfl rfl (by decide) ?_
  refine zw_goto (tgt := 5) hX dX6_hasRoomFor_36 (by decide) ?_
  refine zw_sub (lv' := [(0, .ref a0), (1, .long j1), (3, .int (t0 + t1)), (4, .int (i4 + (8 : Int32)))]) (List.forall_mem_cons.mpr ⟨rfl, (List.forall_mem_cons.mpr ⟨rfl, (List.forall_mem_cons.mpr ⟨rfl, (List.forall_mem_cons.mpr ⟨rfl, zs_nil⟩)⟩)⟩)⟩) ?_
  exact hrec _ _ _ h
set_option maxHeartbeats 4000000 in
set_option maxRecDepth 100000 in
theorem zt_X6_hasRoomFor_L5 {p : Program} {l : Launch} {e : Env} {R : Room} {s : State} {m : MethodId} {args : Array Value} {below : List Frame} {meth : Method} {c : Code} {V : zm_V} {mc ms d rc rs : Nat} (hX : zm_X p R s m args meth c RX6 "hasRoomFor" cX6_hasRoomFor 5 zk_E V mc ms) (hr : meth.sig.returnType = (some .boolean)) (hR : R.frames = d ∧ R.locals = 64 * d) (hd : 1 ≤ d) {N : Nat} {res : (Int32 × zm_S) ⊕ ((Int32) × zm_S)} {out : (Int32 × zm_S)} (a0 : Nat) (j1 : Int64) (hf : ∀ o, res = .inl o → o = out) (hk : ∀ (x3 : Int32) (S' : zm_S), res = .inr (x3, S') → zw p l e R s m args below meth c (vx_MQ below (zm_Qc zk_E V (zo_i out)) (zm_XC zk_E V zo_x) args s mc ms (fun q => V.2.2.2.1 ≤ q)) 5 zk_E V mc ms 39 [(0, .ref a0), (3, .int x3)] [] S' rc rs) : ∀ (n : Nat) (i3 : Int32) (i4 : Int32) (S : zm_S), zf_X6_hasRoomFor_L5 N n a0 j1 i3 i4 S = some res → zw p l e R s m args below meth c (vx_MQ below (zm_Qc zk_E V (zo_i out)) (zm_XC zk_E V zo_x) args s mc ms (fun q => V.2.2.2.1 ≤ q)) 5 zk_E V mc ms 5 [(0, .ref a0), (1, .long j1), (3, .int i3), (4, .int i4)] [] S rc rs := by
  intro n
  induction n with
  | zero => intro i3 i4 S h; cases h
  | succ n ih =>
    intro i3 i4 S h
    rw [zf_X6_hasRoomFor_L5] at h
    refine zw_iload hX dX6_hasRoomFor_5 rfl ?_
    refine zw_bipush (v := (64 : Int32)) hX dX6_hasRoomFor_7 (by decide) ?_
    refine zw_icmp_ge (tgt := 39) hX dX6_hasRoomFor_9 (by decide) (fun c9 => ?_) (fun c9 => ?_)
    · rw [if_pos c9] at h
      refine zw_sub (lv' := [(0, .ref a0), (3, .int i3)]) (List.forall_mem_cons.mpr ⟨rfl, (List.forall_mem_cons.mpr ⟨rfl, zs_nil⟩)⟩) ?_
      exact hk _ _ (Option.some.inj h).symm
    · rw [if_neg c9] at h
      refine zw_iload_n hX dX6_hasRoomFor_12 rfl ?_
      refine zw_lload_n hX dX6_hasRoomFor_13 rfl ?_
      refine zw_iload hX dX6_hasRoomFor_14 rfl ?_
      refine zw_lshr hX dX6_hasRoomFor_16 ?_
      refine zw_ldc2 (v := (255 : Int64)) hX dX6_hasRoomFor_17 zl_X6_33 ?_
      refine zw_land hX dX6_hasRoomFor_20 ?_
      refine zw_lconst (v := (0 : Int64)) hX dX6_hasRoomFor_21 (by decide) ?_
      refine zw_lcmp hX dX6_hasRoomFor_22 ?_
      refine zw_if_eq (tgt := 30) hX dX6_hasRoomFor_23 (by decide) (fun c23 => ?_) (fun c23 => ?_)
      · rw [if_pos c23] at h
        refine zw_iconst (v := (0 : Int32)) hX dX6_hasRoomFor_30 (by decide) ?_
        refine zw_sub (lv' := [(0, .ref a0), (1, .long j1), (4, .int i4)]) (List.forall_mem_cons.mpr ⟨rfl, (List.forall_mem_cons.mpr ⟨rfl, (List.forall_mem_cons.mpr ⟨rfl, zs_nil⟩)⟩)⟩) ?_
        exact zt_X6_hasRoomFor_J31 hX hr hR hd hf hk ih h
      · rw [if_neg c23] at h
        refine zw_iconst (v := (1 : Int32)) hX dX6_hasRoomFor_26 (by decide) ?_
        refine zw_goto (tgt := 31) hX dX6_hasRoomFor_27 (by decide) ?_
        refine zw_sub (lv' := [(0, .ref a0), (1, .long j1), (4, .int i4)]) (List.forall_mem_cons.mpr ⟨rfl, (List.forall_mem_cons.mpr ⟨rfl, (List.forall_mem_cons.mpr ⟨rfl, zs_nil⟩)⟩)⟩) ?_
        exact zt_X6_hasRoomFor_J31 hX hr hR hd hf hk ih h
set_option maxHeartbeats 4000000 in
set_option maxRecDepth 100000 in
theorem zt_X6_hasRoomFor {l : Launch} {V : zm_V} {N : Nat} {S : zm_S} {out : (Int32 × zm_S)} {d : Nat} {a0 : Nat} {j1 : Int64} (hd : 1 ≤ d) (h : zf_X6_hasRoomFor N a0 j1 S = some out) : zm_Met l zk_E V yX6_hasRoomFor (.code yX6_hasRoomFor cX6_hasRoomFor 5 (some .boolean)) d [.ref a0, .long j1] S 0 0 (zo_i out) zo_x := by
  refine zm_of (by decide +kernel) (Nat.le_of_ble_eq_true rfl) ?_
  intro p e R s m args below meth c hRR hX hr hxt
  have hR : R.frames = d ∧ R.locals = 64 * d := by rw [hRR]; exact ⟨rfl, rfl⟩
  have hX : zm_X p R s m args meth c RX6 "hasRoomFor" cX6_hasRoomFor 5 zk_E V 0 0 := hX
  unfold zf_X6_hasRoomFor at h
  refine zw_sub (lv' := [(0, .ref a0), (1, .long j1)]) (List.forall_mem_cons.mpr ⟨rfl, (List.forall_mem_cons.mpr ⟨rfl, zs_nil⟩)⟩) ?_
  refine zw_iconst (v := (0 : Int32)) hX dX6_hasRoomFor_0 (by decide) ?_
  refine zw_istore_n hX dX6_hasRoomFor_1 (by decide) ?_
  refine zw_iconst (v := (0 : Int32)) hX dX6_hasRoomFor_2 (by decide) ?_
  refine zw_istore hX dX6_hasRoomFor_3 (by decide) ?_
  obtain ⟨r, g, h⟩ := zb_some h
  refine zw_sub (lv' := [(0, .ref a0), (1, .long j1), (3, .int (0 : Int32)), (4, .int (0 : Int32))]) (List.forall_mem_cons.mpr ⟨rfl, (List.forall_mem_cons.mpr ⟨rfl, (List.forall_mem_cons.mpr ⟨rfl, (List.forall_mem_cons.mpr ⟨rfl, zs_nil⟩)⟩)⟩)⟩) ?_
  refine zt_X6_hasRoomFor_L5 hX hr hR hd (res := r) (out := out) a0 j1 ?_ ?_ N _ _ _ g
  · intro o ho
    subst ho
    exact Option.some.inj h
  · intro v2 S1 hx
    subst hx
    try dsimp only at h
    refine zw_aload_n hX dX6_hasRoomFor_39 rfl ?_
    obtain ⟨v3, g, h⟩ := zb_some h
    refine zw_geti hX zl_X6_39 dX6_hasRoomFor_40 g ?_
    refine zw_iload_n hX dX6_hasRoomFor_43 rfl ?_
    refine zw_iadd hX dX6_hasRoomFor_44 ?_
    refine zw_sipush (v := (800 : Int32)) hX dX6_hasRoomFor_45 (by decide) ?_
    refine zw_icmp_gt (tgt := 55) hX dX6_hasRoomFor_48 (by decide) (fun c48 => ?_) (fun c48 => ?_)
    · rw [if_pos c48] at h
      refine zw_iconst (v := (0 : Int32)) hX dX6_hasRoomFor_55 (by decide) ?_
      obtain rfl := Option.some.inj h
      exact zw_iret hX hr dX6_hasRoomFor_56 rfl ⟨rfl, rfl⟩
    · rw [if_neg c48] at h
      refine zw_iconst (v := (1 : Int32)) hX dX6_hasRoomFor_51 (by decide) ?_
      refine zw_goto (tgt := 56) hX dX6_hasRoomFor_52 (by decide) ?_
      obtain rfl := Option.some.inj h
      exact zw_iret hX hr dX6_hasRoomFor_56 rfl ⟨rfl, rfl⟩
set_option maxHeartbeats 4000000 in
set_option maxRecDepth 100000 in
theorem zt_X6_append_L3 {p : Program} {l : Launch} {e : Env} {R : Room} {s : State} {m : MethodId} {args : Array Value} {below : List Frame} {meth : Method} {c : Code} {V : zm_V} {mc ms d rc rs : Nat} (hX : zm_X p R s m args meth c RX6 "append" cX6_append 6 zk_E V mc ms) (hr : meth.sig.returnType = (some .int)) (hR : R.frames = d ∧ R.locals = 64 * d) (hd : 1 ≤ d) {N : Nat} {res : (Int32 × zm_S) ⊕ ((Unit) × zm_S)} {out : (Int32 × zm_S)} (a0 : Nat) (j1 : Int64) (hf : ∀ o, res = .inl o → o = out) (hk : ∀ (S' : zm_S), res = .inr ((), S') → zw p l e R s m args below meth c (vx_MQ below (zm_Qc zk_E V (zo_i out)) (zm_XC zk_E V zo_x) args s mc ms (fun q => V.2.2.2.1 ≤ q)) 6 zk_E V mc ms 62 [(0, .ref a0)] [] S' rc rs) : ∀ (n : Nat) (i3 : Int32) (S : zm_S), zf_X6_append_L3 N n a0 j1 i3 S = some res → zw p l e R s m args below meth c (vx_MQ below (zm_Qc zk_E V (zo_i out)) (zm_XC zk_E V zo_x) args s mc ms (fun q => V.2.2.2.1 ≤ q)) 6 zk_E V mc ms 3 [(0, .ref a0), (1, .long j1), (3, .int i3)] [] S rc rs := by
  intro n
  induction n with
  | zero => intro i3 S h; cases h
  | succ n ih =>
    intro i3 S h
    rw [zf_X6_append_L3] at h
    refine zw_iload_n hX dX6_append_3 rfl ?_
    refine zw_if_lt (tgt := 62) hX dX6_append_4 (by decide) (fun c4 => ?_) (fun c4 => ?_)
    · rw [if_pos c4] at h
      refine zw_sub (lv' := [(0, .ref a0)]) (List.forall_mem_cons.mpr ⟨rfl, zs_nil⟩) ?_
      exact hk  _ (Option.some.inj h).symm
    · rw [if_neg c4] at h
      refine zw_lload_n hX dX6_append_7 rfl ?_
      refine zw_iload_n hX dX6_append_8 rfl ?_
      refine zw_lshr hX dX6_append_9 ?_
      refine zw_ldc2 (v := (255 : Int64)) hX dX6_append_10 zl_X6_33 ?_
      refine zw_land hX dX6_append_13 ?_
      refine zw_lstore hX dX6_append_14 (by decide) ?_
      refine zw_lload hX dX6_append_16 rfl ?_
      refine zw_lconst (v := (0 : Int64)) hX dX6_append_18 (by decide) ?_
      refine zw_lcmp hX dX6_append_19 ?_
      refine zw_if_eq (tgt := 56) hX dX6_append_20 (by decide) (fun c20 => ?_) (fun c20 => ?_)
      · rw [if_pos c20] at h
        refine zw_iinc (v := (i3 + (-8 : Int32))) hX dX6_append_56 rfl rfl (by decide) ?_
        refine zw_goto (tgt := 3) hX dX6_append_59 (by decide) ?_
        refine zw_sub (lv' := [(0, .ref a0), (1, .long j1), (3, .int (i3 + (-8 : Int32)))]) (List.forall_mem_cons.mpr ⟨rfl, (List.forall_mem_cons.mpr ⟨rfl, (List.forall_mem_cons.mpr ⟨rfl, zs_nil⟩)⟩)⟩) ?_
        exact ih _ _ h
      · rw [if_neg c20] at h
        refine zw_aload_n hX dX6_append_23 rfl ?_
        obtain ⟨v1, g, h⟩ := zb_some h
        refine zw_geti hX zl_X6_39 dX6_append_24 g ?_
        refine zw_sipush (v := (800 : Int32)) hX dX6_append_27 (by decide) ?_
        refine zw_icmp_ge (tgt := 56) hX dX6_append_30 (by decide) (fun c30 => ?_) (fun c30 => ?_)
        · rw [if_pos c30] at h
          refine zw_iinc (v := (i3 + (-8 : Int32))) hX dX6_append_56 rfl rfl (by decide) ?_
          refine zw_goto (tgt := 3) hX dX6_append_59 (by decide) ?_
          refine zw_sub (lv' := [(0, .ref a0), (1, .long j1), (3, .int (i3 + (-8 : Int32)))]) (List.forall_mem_cons.mpr ⟨rfl, (List.forall_mem_cons.mpr ⟨rfl, (List.forall_mem_cons.mpr ⟨rfl, zs_nil⟩)⟩)⟩) ?_
          exact ih _ _ h
        · rw [if_neg c30] at h
          refine zw_aload_n hX dX6_append_33 rfl ?_
          obtain ⟨b2, g, h⟩ := zb_some h
          refine zw_getr hX zl_X6_9 dX6_append_34 g ?_
          refine zw_aload_n hX dX6_append_37 rfl ?_
          obtain ⟨v3, g, h⟩ := zb_some h
          refine zw_geti hX zl_X6_39 dX6_append_38 g ?_
          refine zw_lload hX dX6_append_41 rfl ?_
          refine zw_l2i hX dX6_append_43 ?_
          refine zw_i2c hX dX6_append_44 ?_
          obtain ⟨S4, g, h⟩ := zb_some h
          refine zw_sc hX dX6_append_45 g ?_
          refine zw_aload_n hX dX6_append_46 rfl ?_
          refine zw_dup hX dX6_append_47 rfl ?_
          obtain ⟨v5, g, h⟩ := zb_some h
          refine zw_geti hX zl_X6_39 dX6_append_48 g ?_
          refine zw_iconst (v := (1 : Int32)) hX dX6_append_51 (by decide) ?_
          refine zw_iadd hX dX6_append_52 ?_
          obtain ⟨S6, g, h⟩ := zb_some h
          refine zw_putv hX zl_X6_39 zt_6_1 dX6_append_53 rfl rfl g ?_
          refine zw_iinc (v := (i3 + (-8 : Int32))) hX dX6_append_56 rfl rfl (by decide) ?_
          refine zw_goto (tgt := 3) hX dX6_append_59 (by decide) ?_
          refine zw_sub (lv' := [(0, .ref a0), (1, .long j1), (3, .int (i3 + (-8 : Int32)))]) (List.forall_mem_cons.mpr ⟨rfl, (List.forall_mem_cons.mpr ⟨rfl, (List.forall_mem_cons.mpr ⟨rfl, zs_nil⟩)⟩)⟩) ?_
          exact ih _ _ h
set_option maxHeartbeats 4000000 in
set_option maxRecDepth 100000 in
theorem zt_X6_append {l : Launch} {V : zm_V} {N : Nat} {S : zm_S} {out : (Int32 × zm_S)} {d : Nat} {a0 : Nat} {j1 : Int64} (hd : 1 ≤ d) (h : zf_X6_append N a0 j1 S = some out) : zm_Met l zk_E V yX6_append (.code yX6_append cX6_append 6 (some .int)) d [.ref a0, .long j1] S 0 0 (zo_i out) zo_x := by
  refine zm_of (by decide +kernel) (Nat.le_of_ble_eq_true rfl) ?_
  intro p e R s m args below meth c hRR hX hr hxt
  have hR : R.frames = d ∧ R.locals = 64 * d := by rw [hRR]; exact ⟨rfl, rfl⟩
  have hX : zm_X p R s m args meth c RX6 "append" cX6_append 6 zk_E V 0 0 := hX
  unfold zf_X6_append at h
  refine zw_sub (lv' := [(0, .ref a0), (1, .long j1)]) (List.forall_mem_cons.mpr ⟨rfl, (List.forall_mem_cons.mpr ⟨rfl, zs_nil⟩)⟩) ?_
  refine zw_bipush (v := (56 : Int32)) hX dX6_append_0 (by decide) ?_
  refine zw_istore_n hX dX6_append_2 (by decide) ?_
  obtain ⟨r, g, h⟩ := zb_some h
  refine zw_sub (lv' := [(0, .ref a0), (1, .long j1), (3, .int (56 : Int32))]) (List.forall_mem_cons.mpr ⟨rfl, (List.forall_mem_cons.mpr ⟨rfl, (List.forall_mem_cons.mpr ⟨rfl, zs_nil⟩)⟩)⟩) ?_
  refine zt_X6_append_L3 hX hr hR hd (res := r) (out := out) a0 j1 ?_ ?_ N _ _ g
  · intro o ho
    subst ho
    exact Option.some.inj h
  · intro  S7 hx
    subst hx
    try dsimp only at h
    refine zw_aload_n hX dX6_append_62 rfl ?_
    obtain ⟨v8, g, h⟩ := zb_some h
    refine zw_geti hX zl_X6_39 dX6_append_63 g ?_
    obtain rfl := Option.some.inj h
    exact zw_iret hX hr dX6_append_66 rfl ⟨rfl, rfl⟩
set_option maxHeartbeats 4000000 in
set_option maxRecDepth 100000 in
theorem zt_X6_wrongPlace {l : Launch} {V : zm_V} {N : Nat} {S : zm_S} {out : (Int32 × zm_S)} {d : Nat} {a0 : Nat} (hd : 1 ≤ d) (h : zf_X6_wrongPlace N a0 S = some out) : zm_Met l zk_E V yX6_wrongPlace (.code yX6_wrongPlace cX6_wrongPlace 1 (some .int)) d [.ref a0] S 0 0 (zo_i out) zo_x := by
  refine zm_of (by decide +kernel) (Nat.le_of_ble_eq_true rfl) ?_
  intro p e R s m args below meth c hRR hX hr hxt
  have hR : R.frames = d ∧ R.locals = 64 * d := by rw [hRR]; exact ⟨rfl, rfl⟩
  have hX : zm_X p R s m args meth c RX6 "wrongPlace" cX6_wrongPlace 1 zk_E V 0 0 := hX
  unfold zf_X6_wrongPlace at h
  refine zw_sub (lv' := [(0, .ref a0)]) (List.forall_mem_cons.mpr ⟨rfl, zs_nil⟩) ?_
  refine zw_aload_n hX dX6_wrongPlace_0 rfl ?_
  obtain ⟨b1, g, h⟩ := zb_some h
  refine zw_getr hX zl_X6_21 dX6_wrongPlace_1 g ?_
  refine zw_aload_n hX dX6_wrongPlace_4 rfl ?_
  obtain ⟨v2, g, h⟩ := zb_some h
  refine zw_geti hX zl_X6_43 dX6_wrongPlace_5 g ?_
  obtain ⟨v3, g, h⟩ := zb_some h
  refine zw_xi hX dX6_wrongPlace_8 g ?_
  obtain rfl := Option.some.inj h
  exact zw_iret hX hr dX6_wrongPlace_9 rfl ⟨rfl, rfl⟩
set_option maxHeartbeats 4000000 in
set_option maxRecDepth 100000 in
theorem zt_X6_isDigit {l : Launch} {V : zm_V} {N : Nat} {S : zm_S} {out : (Int32 × zm_S)} {d : Nat} {i0 : Int32} (hd : 1 ≤ d) (h : zf_X6_isDigit N i0 S = some out) : zm_Met l zk_E V yX6_isDigit (.code yX6_isDigit cX6_isDigit 1 (some .boolean)) d [.int i0] S 0 0 (zo_i out) zo_x := by
  refine zm_of (by decide +kernel) (Nat.le_of_ble_eq_true rfl) ?_
  intro p e R s m args below meth c hRR hX hr hxt
  have hR : R.frames = d ∧ R.locals = 64 * d := by rw [hRR]; exact ⟨rfl, rfl⟩
  have hX : zm_X p R s m args meth c RX6 "isDigit" cX6_isDigit 1 zk_E V 0 0 := hX
  unfold zf_X6_isDigit at h
  refine zw_sub (lv' := [(0, .int i0)]) (List.forall_mem_cons.mpr ⟨rfl, zs_nil⟩) ?_
  refine zw_iload_n hX dX6_isDigit_0 rfl ?_
  refine zw_bipush (v := (48 : Int32)) hX dX6_isDigit_1 (by decide) ?_
  refine zw_icmp_lt (tgt := 16) hX dX6_isDigit_3 (by decide) (fun c3 => ?_) (fun c3 => ?_)
  · rw [if_pos c3] at h
    refine zw_iconst (v := (0 : Int32)) hX dX6_isDigit_16 (by decide) ?_
    obtain rfl := Option.some.inj h
    exact zw_iret hX hr dX6_isDigit_17 rfl ⟨rfl, rfl⟩
  · rw [if_neg c3] at h
    refine zw_iload_n hX dX6_isDigit_6 rfl ?_
    refine zw_bipush (v := (57 : Int32)) hX dX6_isDigit_7 (by decide) ?_
    refine zw_icmp_gt (tgt := 16) hX dX6_isDigit_9 (by decide) (fun c9 => ?_) (fun c9 => ?_)
    · rw [if_pos c9] at h
      refine zw_iconst (v := (0 : Int32)) hX dX6_isDigit_16 (by decide) ?_
      obtain rfl := Option.some.inj h
      exact zw_iret hX hr dX6_isDigit_17 rfl ⟨rfl, rfl⟩
    · rw [if_neg c9] at h
      refine zw_iconst (v := (1 : Int32)) hX dX6_isDigit_12 (by decide) ?_
      refine zw_goto (tgt := 17) hX dX6_isDigit_13 (by decide) ?_
      obtain rfl := Option.some.inj h
      exact zw_iret hX hr dX6_isDigit_17 rfl ⟨rfl, rfl⟩
set_option maxHeartbeats 4000000 in
set_option maxRecDepth 100000 in
theorem zt_X6_splitNumber_L5 {p : Program} {l : Launch} {e : Env} {R : Room} {s : State} {m : MethodId} {args : Array Value} {below : List Frame} {meth : Method} {c : Code} {V : zm_V} {mc ms d rc rs : Nat} (hX : zm_X p R s m args meth c RX6 "splitNumber" cX6_splitNumber 6 zk_E V mc ms) (hr : meth.sig.returnType = (some .int)) (hR : R.frames = d ∧ R.locals = 64 * d) (hd : 2 ≤ d) {N : Nat} {res : (Int32 × zm_S) ⊕ ((Int32 × Int64) × zm_S)} {out : (Int32 × zm_S)} (a0 : Nat) (i1 : Int32) (i2 : Int32) (hf : ∀ o, res = .inl o → o = out) (hk : ∀ (x3 : Int32) (x4 : Int64) (S' : zm_S), res = .inr ((x3, x4), S') → zw p l e R s m args below meth c (vx_MQ below (zm_Qc zk_E V (zo_i out)) (zm_XC zk_E V zo_x) args s mc ms (fun q => V.2.2.2.1 ≤ q)) 6 zk_E V mc ms 50 [(0, .ref a0), (1, .int i1), (2, .int i2), (3, .int x3), (4, .long x4)] [] S' rc rs) : ∀ (n : Nat) (i3 : Int32) (j4 : Int64) (S : zm_S), zf_X6_splitNumber_L5 N n a0 i1 i2 i3 j4 S = some res → zw p l e R s m args below meth c (vx_MQ below (zm_Qc zk_E V (zo_i out)) (zm_XC zk_E V zo_x) args s mc ms (fun q => V.2.2.2.1 ≤ q)) 6 zk_E V mc ms 5 [(0, .ref a0), (1, .int i1), (2, .int i2), (3, .int i3), (4, .long j4)] [] S rc rs := by
  intro n
  induction n with
  | zero => intro i3 j4 S h; cases h
  | succ n ih =>
    intro i3 j4 S h
    rw [zf_X6_splitNumber_L5] at h
    refine zw_iload_n hX dX6_splitNumber_5 rfl ?_
    refine zw_aload_n hX dX6_splitNumber_6 rfl ?_
    obtain ⟨v1, g, h⟩ := zb_some h
    refine zw_geti hX zl_X6_39 dX6_splitNumber_7 g ?_
    refine zw_icmp_ge (tgt := 50) hX dX6_splitNumber_10 (by decide) (fun c10 => ?_) (fun c10 => ?_)
    · rw [if_pos c10] at h
      refine zw_sub (lv' := [(0, .ref a0), (1, .int i1), (2, .int i2), (3, .int i3), (4, .long j4)]) (List.forall_mem_cons.mpr ⟨rfl, (List.forall_mem_cons.mpr ⟨rfl, (List.forall_mem_cons.mpr ⟨rfl, (List.forall_mem_cons.mpr ⟨rfl, (List.forall_mem_cons.mpr ⟨rfl, zs_nil⟩)⟩)⟩)⟩)⟩) ?_
      exact hk _ _ _ (Option.some.inj h).symm
    · rw [if_neg c10] at h
      refine zw_aload_n hX dX6_splitNumber_13 rfl ?_
      obtain ⟨b2, g, h⟩ := zb_some h
      refine zw_getr hX zl_X6_9 dX6_splitNumber_14 g ?_
      refine zw_iload_n hX dX6_splitNumber_17 rfl ?_
      obtain ⟨v3, g, h⟩ := zb_some h
      refine zw_xc hX dX6_splitNumber_18 g ?_
      obtain ⟨r5, g, h⟩ := zb_some h
      refine zc_Si (as := [.int v3]) hX (zt_X6_isDigit (d := d - 1) (by omega) g) zl_X6_64 dX6_splitNumber_19 ⟨rfl, rfl, Nat.le_of_ble_eq_true rfl⟩ ⟨by omega, by omega⟩ ?_
      refine zw_if_eq (tgt := 50) hX dX6_splitNumber_22 (by decide) (fun c22 => ?_) (fun c22 => ?_)
      · rw [if_pos c22] at h
        refine zw_sub (lv' := [(0, .ref a0), (1, .int i1), (2, .int i2), (3, .int i3), (4, .long j4)]) (List.forall_mem_cons.mpr ⟨rfl, (List.forall_mem_cons.mpr ⟨rfl, (List.forall_mem_cons.mpr ⟨rfl, (List.forall_mem_cons.mpr ⟨rfl, (List.forall_mem_cons.mpr ⟨rfl, zs_nil⟩)⟩)⟩)⟩)⟩) ?_
        exact hk _ _ _ (Option.some.inj h).symm
      · rw [if_neg c22] at h
        refine zw_lload hX dX6_splitNumber_25 rfl ?_
        refine zw_ldc2 (v := (10 : Int64)) hX dX6_splitNumber_27 zl_X6_80 ?_
        refine zw_lmul hX dX6_splitNumber_30 ?_
        refine zw_aload_n hX dX6_splitNumber_31 rfl ?_
        obtain ⟨b6, g, h⟩ := zb_some h
        refine zw_getr hX zl_X6_9 dX6_splitNumber_32 g ?_
        refine zw_iload_n hX dX6_splitNumber_35 rfl ?_
        obtain ⟨v7, g, h⟩ := zb_some h
        refine zw_xc hX dX6_splitNumber_36 g ?_
        refine zw_bipush (v := (48 : Int32)) hX dX6_splitNumber_37 (by decide) ?_
        refine zw_isub hX dX6_splitNumber_39 ?_
        refine zw_i2l hX dX6_splitNumber_40 ?_
        refine zw_ladd hX dX6_splitNumber_41 ?_
        refine zw_lstore hX dX6_splitNumber_42 (by decide) ?_
        refine zw_iinc (v := (i3 + (1 : Int32))) hX dX6_splitNumber_44 rfl rfl (by decide) ?_
        refine zw_goto (tgt := 5) hX dX6_splitNumber_47 (by decide) ?_
        refine zw_sub (lv' := [(0, .ref a0), (1, .int i1), (2, .int i2), (3, .int (i3 + (1 : Int32))), (4, .long ((j4 * (10 : Int64)) + ((v7 - (48 : Int32))).toInt64))]) (List.forall_mem_cons.mpr ⟨rfl, (List.forall_mem_cons.mpr ⟨rfl, (List.forall_mem_cons.mpr ⟨rfl, (List.forall_mem_cons.mpr ⟨rfl, (List.forall_mem_cons.mpr ⟨rfl, zs_nil⟩)⟩)⟩)⟩)⟩) ?_
        exact ih _ _ _ h
set_option maxHeartbeats 4000000 in
set_option maxRecDepth 100000 in
theorem zt_X6_splitNumber_J50 {p : Program} {l : Launch} {e : Env} {R : Room} {s : State} {m : MethodId} {args : Array Value} {below : List Frame} {meth : Method} {c : Code} {V : zm_V} {mc ms d rc rs : Nat} (hX : zm_X p R s m args meth c RX6 "splitNumber" cX6_splitNumber 6 zk_E V mc ms) (hr : meth.sig.returnType = (some .int)) (hR : R.frames = d ∧ R.locals = 64 * d) (hd : 2 ≤ d) {N : Nat} {a0 : Nat} {i1 : Int32} {i2 : Int32} {i3 : Int32} {j4 : Int64} {out : (Int32 × zm_S)} {S : zm_S} (h : zf_X6_splitNumber_J50 N a0 i1 i2 i3 j4 S = some out) : zw p l e R s m args below meth c (vx_MQ below (zm_Qc zk_E V (zo_i out)) (zm_XC zk_E V zo_x) args s mc ms (fun q => V.2.2.2.1 ≤ q)) 6 zk_E V mc ms 50 [(0, .ref a0), (1, .int i1), (2, .int i2), (3, .int i3), (4, .long j4)] [] S rc rs := by
  unfold zf_X6_splitNumber_J50 at h
  refine zw_aload_n hX dX6_splitNumber_50 rfl ?_
  obtain ⟨b11, g, h⟩ := zb_some h
  refine zw_getr hX zl_X6_17 dX6_splitNumber_51 g ?_
  refine zw_iload_n hX dX6_splitNumber_54 rfl ?_
  refine zw_lload hX dX6_splitNumber_55 rfl ?_
  obtain ⟨S12, g, h⟩ := zb_some h
  refine zw_sl hX dX6_splitNumber_57 g ?_
  refine zw_aload_n hX dX6_splitNumber_58 rfl ?_
  obtain ⟨b13, g, h⟩ := zb_some h
  refine zw_getr hX zl_X6_13 dX6_splitNumber_59 g ?_
  refine zw_iload_n hX dX6_splitNumber_62 rfl ?_
  refine zw_iload_n hX dX6_splitNumber_63 rfl ?_
  refine zw_iload_n hX dX6_splitNumber_64 rfl ?_
  refine zw_isub hX dX6_splitNumber_65 ?_
  refine zw_bipush (v := (9 : Int32)) hX dX6_splitNumber_66 (by decide) ?_
  refine zw_icmp_gt (tgt := 76) hX dX6_splitNumber_68 (by decide) (fun c68 => ?_) (fun c68 => ?_)
  · rw [if_pos c68] at h
    refine zw_bipush (v := (63 : Int32)) hX dX6_splitNumber_76 (by decide) ?_
    obtain ⟨S14, g, h⟩ := zb_some h
    refine zw_si hX dX6_splitNumber_78 g ?_
    refine zw_iload_n hX dX6_splitNumber_79 rfl ?_
    obtain rfl := Option.some.inj h
    exact zw_iret hX hr dX6_splitNumber_80 rfl ⟨rfl, rfl⟩
  · rw [if_neg c68] at h
    refine zw_bipush (v := (48 : Int32)) hX dX6_splitNumber_71 (by decide) ?_
    refine zw_goto (tgt := 78) hX dX6_splitNumber_73 (by decide) ?_
    obtain ⟨S15, g, h⟩ := zb_some h
    refine zw_si hX dX6_splitNumber_78 g ?_
    refine zw_iload_n hX dX6_splitNumber_79 rfl ?_
    obtain rfl := Option.some.inj h
    exact zw_iret hX hr dX6_splitNumber_80 rfl ⟨rfl, rfl⟩
set_option maxHeartbeats 4000000 in
set_option maxRecDepth 100000 in
theorem zt_X6_splitNumber {l : Launch} {V : zm_V} {N : Nat} {S : zm_S} {out : (Int32 × zm_S)} {d : Nat} {a0 : Nat} {i1 : Int32} {i2 : Int32} (hd : 2 ≤ d) (h : zf_X6_splitNumber N a0 i1 i2 S = some out) : zm_Met l zk_E V yX6_splitNumber (.code yX6_splitNumber cX6_splitNumber 6 (some .int)) d [.ref a0, .int i1, .int i2] S 0 0 (zo_i out) zo_x := by
  refine zm_of (by decide +kernel) (Nat.le_of_ble_eq_true rfl) ?_
  intro p e R s m args below meth c hRR hX hr hxt
  have hR : R.frames = d ∧ R.locals = 64 * d := by rw [hRR]; exact ⟨rfl, rfl⟩
  have hX : zm_X p R s m args meth c RX6 "splitNumber" cX6_splitNumber 6 zk_E V 0 0 := hX
  unfold zf_X6_splitNumber at h
  refine zw_sub (lv' := [(0, .ref a0), (1, .int i1), (2, .int i2)]) (List.forall_mem_cons.mpr ⟨rfl, (List.forall_mem_cons.mpr ⟨rfl, (List.forall_mem_cons.mpr ⟨rfl, zs_nil⟩)⟩)⟩) ?_
  refine zw_iload_n hX dX6_splitNumber_0 rfl ?_
  refine zw_istore_n hX dX6_splitNumber_1 (by decide) ?_
  refine zw_lconst (v := (0 : Int64)) hX dX6_splitNumber_2 (by decide) ?_
  refine zw_lstore hX dX6_splitNumber_3 (by decide) ?_
  obtain ⟨r, g, h⟩ := zb_some h
  refine zw_sub (lv' := [(0, .ref a0), (1, .int i1), (2, .int i2), (3, .int i2), (4, .long (0 : Int64))]) (List.forall_mem_cons.mpr ⟨rfl, (List.forall_mem_cons.mpr ⟨rfl, (List.forall_mem_cons.mpr ⟨rfl, (List.forall_mem_cons.mpr ⟨rfl, (List.forall_mem_cons.mpr ⟨rfl, zs_nil⟩)⟩)⟩)⟩)⟩) ?_
  refine zt_X6_splitNumber_L5 hX hr hR hd (res := r) (out := out) a0 i1 i2 ?_ ?_ N _ _ _ g
  · intro o ho
    subst ho
    exact Option.some.inj h
  · intro v9 w10 S8 hx
    subst hx
    try dsimp only at h
    refine zw_sub (lv' := [(0, .ref a0), (1, .int i1), (2, .int i2), (3, .int v9), (4, .long w10)]) (List.forall_mem_cons.mpr ⟨rfl, (List.forall_mem_cons.mpr ⟨rfl, (List.forall_mem_cons.mpr ⟨rfl, (List.forall_mem_cons.mpr ⟨rfl, (List.forall_mem_cons.mpr ⟨rfl, zs_nil⟩)⟩)⟩)⟩)⟩) ?_
    exact zt_X6_splitNumber_J50 hX hr hR hd h
set_option maxHeartbeats 4000000 in
set_option maxRecDepth 100000 in
theorem zt_X6_isLetter {l : Launch} {V : zm_V} {N : Nat} {S : zm_S} {out : (Int32 × zm_S)} {d : Nat} {i0 : Int32} (hd : 1 ≤ d) (h : zf_X6_isLetter N i0 S = some out) : zm_Met l zk_E V yX6_isLetter (.code yX6_isLetter cX6_isLetter 1 (some .boolean)) d [.int i0] S 0 0 (zo_i out) zo_x := by
  refine zm_of (by decide +kernel) (Nat.le_of_ble_eq_true rfl) ?_
  intro p e R s m args below meth c hRR hX hr hxt
  have hR : R.frames = d ∧ R.locals = 64 * d := by rw [hRR]; exact ⟨rfl, rfl⟩
  have hX : zm_X p R s m args meth c RX6 "isLetter" cX6_isLetter 1 zk_E V 0 0 := hX
  unfold zf_X6_isLetter at h
  refine zw_sub (lv' := [(0, .int i0)]) (List.forall_mem_cons.mpr ⟨rfl, zs_nil⟩) ?_
  refine zw_iload_n hX dX6_isLetter_0 rfl ?_
  refine zw_bipush (v := (97 : Int32)) hX dX6_isLetter_1 (by decide) ?_
  refine zw_icmp_lt (tgt := 16) hX dX6_isLetter_3 (by decide) (fun c3 => ?_) (fun c3 => ?_)
  · rw [if_pos c3] at h
    refine zw_iconst (v := (0 : Int32)) hX dX6_isLetter_16 (by decide) ?_
    obtain rfl := Option.some.inj h
    exact zw_iret hX hr dX6_isLetter_17 rfl ⟨rfl, rfl⟩
  · rw [if_neg c3] at h
    refine zw_iload_n hX dX6_isLetter_6 rfl ?_
    refine zw_bipush (v := (122 : Int32)) hX dX6_isLetter_7 (by decide) ?_
    refine zw_icmp_gt (tgt := 16) hX dX6_isLetter_9 (by decide) (fun c9 => ?_) (fun c9 => ?_)
    · rw [if_pos c9] at h
      refine zw_iconst (v := (0 : Int32)) hX dX6_isLetter_16 (by decide) ?_
      obtain rfl := Option.some.inj h
      exact zw_iret hX hr dX6_isLetter_17 rfl ⟨rfl, rfl⟩
    · rw [if_neg c9] at h
      refine zw_iconst (v := (1 : Int32)) hX dX6_isLetter_12 (by decide) ?_
      refine zw_goto (tgt := 17) hX dX6_isLetter_13 (by decide) ?_
      obtain rfl := Option.some.inj h
      exact zw_iret hX hr dX6_isLetter_17 rfl ⟨rfl, rfl⟩
set_option maxHeartbeats 4000000 in
set_option maxRecDepth 100000 in
theorem zt_X6_splitName_L5 {p : Program} {l : Launch} {e : Env} {R : Room} {s : State} {m : MethodId} {args : Array Value} {below : List Frame} {meth : Method} {c : Code} {V : zm_V} {mc ms d rc rs : Nat} (hX : zm_X p R s m args meth c RX6 "splitName" cX6_splitName 6 zk_E V mc ms) (hr : meth.sig.returnType = (some .int)) (hR : R.frames = d ∧ R.locals = 64 * d) (hd : 2 ≤ d) {N : Nat} {res : (Int32 × zm_S) ⊕ ((Int32 × Int64) × zm_S)} {out : (Int32 × zm_S)} (a0 : Nat) (i1 : Int32) (i2 : Int32) (hf : ∀ o, res = .inl o → o = out) (hk : ∀ (x3 : Int32) (x4 : Int64) (S' : zm_S), res = .inr ((x3, x4), S') → zw p l e R s m args below meth c (vx_MQ below (zm_Qc zk_E V (zo_i out)) (zm_XC zk_E V zo_x) args s mc ms (fun q => V.2.2.2.1 ≤ q)) 6 zk_E V mc ms 46 [(0, .ref a0), (1, .int i1), (2, .int i2), (3, .int x3), (4, .long x4)] [] S' rc rs) : ∀ (n : Nat) (i3 : Int32) (j4 : Int64) (S : zm_S), zf_X6_splitName_L5 N n a0 i1 i2 i3 j4 S = some res → zw p l e R s m args below meth c (vx_MQ below (zm_Qc zk_E V (zo_i out)) (zm_XC zk_E V zo_x) args s mc ms (fun q => V.2.2.2.1 ≤ q)) 6 zk_E V mc ms 5 [(0, .ref a0), (1, .int i1), (2, .int i2), (3, .int i3), (4, .long j4)] [] S rc rs := by
  intro n
  induction n with
  | zero => intro i3 j4 S h; cases h
  | succ n ih =>
    intro i3 j4 S h
    rw [zf_X6_splitName_L5] at h
    refine zw_iload_n hX dX6_splitName_5 rfl ?_
    refine zw_aload_n hX dX6_splitName_6 rfl ?_
    obtain ⟨v1, g, h⟩ := zb_some h
    refine zw_geti hX zl_X6_39 dX6_splitName_7 g ?_
    refine zw_icmp_ge (tgt := 46) hX dX6_splitName_10 (by decide) (fun c10 => ?_) (fun c10 => ?_)
    · rw [if_pos c10] at h
      refine zw_sub (lv' := [(0, .ref a0), (1, .int i1), (2, .int i2), (3, .int i3), (4, .long j4)]) (List.forall_mem_cons.mpr ⟨rfl, (List.forall_mem_cons.mpr ⟨rfl, (List.forall_mem_cons.mpr ⟨rfl, (List.forall_mem_cons.mpr ⟨rfl, (List.forall_mem_cons.mpr ⟨rfl, zs_nil⟩)⟩)⟩)⟩)⟩) ?_
      exact hk _ _ _ (Option.some.inj h).symm
    · rw [if_neg c10] at h
      refine zw_aload_n hX dX6_splitName_13 rfl ?_
      obtain ⟨b2, g, h⟩ := zb_some h
      refine zw_getr hX zl_X6_9 dX6_splitName_14 g ?_
      refine zw_iload_n hX dX6_splitName_17 rfl ?_
      obtain ⟨v3, g, h⟩ := zb_some h
      refine zw_xc hX dX6_splitName_18 g ?_
      obtain ⟨r5, g, h⟩ := zb_some h
      refine zc_Si (as := [.int v3]) hX (zt_X6_isLetter (d := d - 1) (by omega) g) zl_X6_71 dX6_splitName_19 ⟨rfl, rfl, Nat.le_of_ble_eq_true rfl⟩ ⟨by omega, by omega⟩ ?_
      refine zw_if_eq (tgt := 46) hX dX6_splitName_22 (by decide) (fun c22 => ?_) (fun c22 => ?_)
      · rw [if_pos c22] at h
        refine zw_sub (lv' := [(0, .ref a0), (1, .int i1), (2, .int i2), (3, .int i3), (4, .long j4)]) (List.forall_mem_cons.mpr ⟨rfl, (List.forall_mem_cons.mpr ⟨rfl, (List.forall_mem_cons.mpr ⟨rfl, (List.forall_mem_cons.mpr ⟨rfl, (List.forall_mem_cons.mpr ⟨rfl, zs_nil⟩)⟩)⟩)⟩)⟩) ?_
        exact hk _ _ _ (Option.some.inj h).symm
      · rw [if_neg c22] at h
        refine zw_lload hX dX6_splitName_25 rfl ?_
        refine zw_bipush (v := (8 : Int32)) hX dX6_splitName_27 (by decide) ?_
        refine zw_lshl hX dX6_splitName_29 ?_
        refine zw_aload_n hX dX6_splitName_30 rfl ?_
        obtain ⟨b6, g, h⟩ := zb_some h
        refine zw_getr hX zl_X6_9 dX6_splitName_31 g ?_
        refine zw_iload_n hX dX6_splitName_34 rfl ?_
        obtain ⟨v7, g, h⟩ := zb_some h
        refine zw_xc hX dX6_splitName_35 g ?_
        refine zw_i2l hX dX6_splitName_36 ?_
        refine zw_lor hX dX6_splitName_37 ?_
        refine zw_lstore hX dX6_splitName_38 (by decide) ?_
        refine zw_iinc (v := (i3 + (1 : Int32))) hX dX6_splitName_40 rfl rfl (by decide) ?_
        refine zw_goto (tgt := 5) hX dX6_splitName_43 (by decide) ?_
        refine zw_sub (lv' := [(0, .ref a0), (1, .int i1), (2, .int i2), (3, .int (i3 + (1 : Int32))), (4, .long ((j4 <<< (((8 : Int32)).toInt64 &&& 63)) ||| (v7).toInt64))]) (List.forall_mem_cons.mpr ⟨rfl, (List.forall_mem_cons.mpr ⟨rfl, (List.forall_mem_cons.mpr ⟨rfl, (List.forall_mem_cons.mpr ⟨rfl, (List.forall_mem_cons.mpr ⟨rfl, zs_nil⟩)⟩)⟩)⟩)⟩) ?_
        exact ih _ _ _ h
set_option maxHeartbeats 4000000 in
set_option maxRecDepth 100000 in
theorem zt_X6_splitName_J46 {p : Program} {l : Launch} {e : Env} {R : Room} {s : State} {m : MethodId} {args : Array Value} {below : List Frame} {meth : Method} {c : Code} {V : zm_V} {mc ms d rc rs : Nat} (hX : zm_X p R s m args meth c RX6 "splitName" cX6_splitName 6 zk_E V mc ms) (hr : meth.sig.returnType = (some .int)) (hR : R.frames = d ∧ R.locals = 64 * d) (hd : 2 ≤ d) {N : Nat} {a0 : Nat} {i1 : Int32} {i2 : Int32} {i3 : Int32} {j4 : Int64} {out : (Int32 × zm_S)} {S : zm_S} (h : zf_X6_splitName_J46 N a0 i1 i2 i3 j4 S = some out) : zw p l e R s m args below meth c (vx_MQ below (zm_Qc zk_E V (zo_i out)) (zm_XC zk_E V zo_x) args s mc ms (fun q => V.2.2.2.1 ≤ q)) 6 zk_E V mc ms 46 [(0, .ref a0), (1, .int i1), (2, .int i2), (3, .int i3), (4, .long j4)] [] S rc rs := by
  unfold zf_X6_splitName_J46 at h
  refine zw_aload_n hX dX6_splitName_46 rfl ?_
  obtain ⟨b11, g, h⟩ := zb_some h
  refine zw_getr hX zl_X6_17 dX6_splitName_47 g ?_
  refine zw_iload_n hX dX6_splitName_50 rfl ?_
  refine zw_lload hX dX6_splitName_51 rfl ?_
  obtain ⟨S12, g, h⟩ := zb_some h
  refine zw_sl hX dX6_splitName_53 g ?_
  refine zw_aload_n hX dX6_splitName_54 rfl ?_
  obtain ⟨b13, g, h⟩ := zb_some h
  refine zw_getr hX zl_X6_13 dX6_splitName_55 g ?_
  refine zw_iload_n hX dX6_splitName_58 rfl ?_
  refine zw_iload_n hX dX6_splitName_59 rfl ?_
  refine zw_iload_n hX dX6_splitName_60 rfl ?_
  refine zw_isub hX dX6_splitName_61 ?_
  refine zw_bipush (v := (8 : Int32)) hX dX6_splitName_62 (by decide) ?_
  refine zw_icmp_gt (tgt := 72) hX dX6_splitName_64 (by decide) (fun c64 => ?_) (fun c64 => ?_)
  · rw [if_pos c64] at h
    refine zw_bipush (v := (63 : Int32)) hX dX6_splitName_72 (by decide) ?_
    obtain ⟨S14, g, h⟩ := zb_some h
    refine zw_si hX dX6_splitName_74 g ?_
    refine zw_iload_n hX dX6_splitName_75 rfl ?_
    obtain rfl := Option.some.inj h
    exact zw_iret hX hr dX6_splitName_76 rfl ⟨rfl, rfl⟩
  · rw [if_neg c64] at h
    refine zw_bipush (v := (97 : Int32)) hX dX6_splitName_67 (by decide) ?_
    refine zw_goto (tgt := 74) hX dX6_splitName_69 (by decide) ?_
    obtain ⟨S15, g, h⟩ := zb_some h
    refine zw_si hX dX6_splitName_74 g ?_
    refine zw_iload_n hX dX6_splitName_75 rfl ?_
    obtain rfl := Option.some.inj h
    exact zw_iret hX hr dX6_splitName_76 rfl ⟨rfl, rfl⟩
set_option maxHeartbeats 4000000 in
set_option maxRecDepth 100000 in
theorem zt_X6_splitName {l : Launch} {V : zm_V} {N : Nat} {S : zm_S} {out : (Int32 × zm_S)} {d : Nat} {a0 : Nat} {i1 : Int32} {i2 : Int32} (hd : 2 ≤ d) (h : zf_X6_splitName N a0 i1 i2 S = some out) : zm_Met l zk_E V yX6_splitName (.code yX6_splitName cX6_splitName 6 (some .int)) d [.ref a0, .int i1, .int i2] S 0 0 (zo_i out) zo_x := by
  refine zm_of (by decide +kernel) (Nat.le_of_ble_eq_true rfl) ?_
  intro p e R s m args below meth c hRR hX hr hxt
  have hR : R.frames = d ∧ R.locals = 64 * d := by rw [hRR]; exact ⟨rfl, rfl⟩
  have hX : zm_X p R s m args meth c RX6 "splitName" cX6_splitName 6 zk_E V 0 0 := hX
  unfold zf_X6_splitName at h
  refine zw_sub (lv' := [(0, .ref a0), (1, .int i1), (2, .int i2)]) (List.forall_mem_cons.mpr ⟨rfl, (List.forall_mem_cons.mpr ⟨rfl, (List.forall_mem_cons.mpr ⟨rfl, zs_nil⟩)⟩)⟩) ?_
  refine zw_iload_n hX dX6_splitName_0 rfl ?_
  refine zw_istore_n hX dX6_splitName_1 (by decide) ?_
  refine zw_lconst (v := (0 : Int64)) hX dX6_splitName_2 (by decide) ?_
  refine zw_lstore hX dX6_splitName_3 (by decide) ?_
  obtain ⟨r, g, h⟩ := zb_some h
  refine zw_sub (lv' := [(0, .ref a0), (1, .int i1), (2, .int i2), (3, .int i2), (4, .long (0 : Int64))]) (List.forall_mem_cons.mpr ⟨rfl, (List.forall_mem_cons.mpr ⟨rfl, (List.forall_mem_cons.mpr ⟨rfl, (List.forall_mem_cons.mpr ⟨rfl, (List.forall_mem_cons.mpr ⟨rfl, zs_nil⟩)⟩)⟩)⟩)⟩) ?_
  refine zt_X6_splitName_L5 hX hr hR hd (res := r) (out := out) a0 i1 i2 ?_ ?_ N _ _ _ g
  · intro o ho
    subst ho
    exact Option.some.inj h
  · intro v9 w10 S8 hx
    subst hx
    try dsimp only at h
    refine zw_sub (lv' := [(0, .ref a0), (1, .int i1), (2, .int i2), (3, .int v9), (4, .long w10)]) (List.forall_mem_cons.mpr ⟨rfl, (List.forall_mem_cons.mpr ⟨rfl, (List.forall_mem_cons.mpr ⟨rfl, (List.forall_mem_cons.mpr ⟨rfl, (List.forall_mem_cons.mpr ⟨rfl, zs_nil⟩)⟩)⟩)⟩)⟩) ?_
    exact zt_X6_splitName_J46 hX hr hR hd h
set_option maxHeartbeats 4000000 in
set_option maxRecDepth 100000 in
theorem zt_X6_isSign_L2 {p : Program} {l : Launch} {e : Env} {R : Room} {s : State} {m : MethodId} {args : Array Value} {below : List Frame} {meth : Method} {c : Code} {V : zm_V} {mc ms d rc rs : Nat} (hX : zm_X p R s m args meth c RX6 "isSign" cX6_isSign 2 zk_E V mc ms) (hr : meth.sig.returnType = (some .boolean)) (hR : R.frames = d ∧ R.locals = 64 * d) (hd : 1 ≤ d) {N : Nat} {res : (Int32 × zm_S) ⊕ ((Unit) × zm_S)} {out : (Int32 × zm_S)} (i0 : Int32) (hf : ∀ o, res = .inl o → o = out) (hk : ∀ (S' : zm_S), res = .inr ((), S') → zw p l e R s m args below meth c (vx_MQ below (zm_Qc zk_E V (zo_i out)) (zm_XC zk_E V zo_x) args s mc ms (fun q => V.2.2.2.1 ≤ q)) 2 zk_E V mc ms 27 [] [] S' rc rs) : ∀ (n : Nat) (i1 : Int32) (S : zm_S), zf_X6_isSign_L2 N n i0 i1 S = some res → zw p l e R s m args below meth c (vx_MQ below (zm_Qc zk_E V (zo_i out)) (zm_XC zk_E V zo_x) args s mc ms (fun q => V.2.2.2.1 ≤ q)) 2 zk_E V mc ms 2 [(0, .int i0), (1, .int i1)] [] S rc rs := by
  intro n
  induction n with
  | zero => intro i1 S h; cases h
  | succ n ih =>
    intro i1 S h
    rw [zf_X6_isSign_L2] at h
    refine zw_iload_n hX dX6_isSign_2 rfl ?_
    refine zw_gets (C := "TowerHouse$PermitText") (n := "SIGNS") (d := "[C") (k := 1) hX (List.mem_of_getElem? (i := 0) rfl) (by decide) zl_X6_82 dX6_isSign_3 ?_
    obtain ⟨v1, g, h⟩ := zb_some h
    refine zw_len hX dX6_isSign_6 g ?_
    refine zw_icmp_ge (tgt := 27) hX dX6_isSign_7 (by decide) (fun c7 => ?_) (fun c7 => ?_)
    · rw [if_pos c7] at h
      refine zw_sub (lv' := []) zs_nil ?_
      exact hk  _ (Option.some.inj h).symm
    · rw [if_neg c7] at h
      refine zw_gets (C := "TowerHouse$PermitText") (n := "SIGNS") (d := "[C") (k := 1) hX (List.mem_of_getElem? (i := 0) rfl) (by decide) zl_X6_82 dX6_isSign_10 ?_
      refine zw_iload_n hX dX6_isSign_13 rfl ?_
      obtain ⟨v2, g, h⟩ := zb_some h
      refine zw_xc hX dX6_isSign_14 g ?_
      refine zw_iload_n hX dX6_isSign_15 rfl ?_
      refine zw_icmp_ne (tgt := 21) hX dX6_isSign_16 (by decide) (fun c16 => ?_) (fun c16 => ?_)
      · rw [if_neg c16] at h
        refine zw_iinc (v := (i1 + (1 : Int32))) hX dX6_isSign_21 rfl rfl (by decide) ?_
        refine zw_goto (tgt := 2) hX dX6_isSign_24 (by decide) ?_
        refine zw_sub (lv' := [(0, .int i0), (1, .int (i1 + (1 : Int32)))]) (List.forall_mem_cons.mpr ⟨rfl, (List.forall_mem_cons.mpr ⟨rfl, zs_nil⟩)⟩) ?_
        exact ih _ _ h
      · rw [if_pos c16] at h
        refine zw_iconst (v := (1 : Int32)) hX dX6_isSign_19 (by decide) ?_
        have hz := hf _ (Option.some.inj h).symm
        subst hz
        exact zw_iret hX hr dX6_isSign_20 rfl ⟨rfl, rfl⟩
set_option maxHeartbeats 4000000 in
set_option maxRecDepth 100000 in
theorem zt_X6_isSign {l : Launch} {V : zm_V} {N : Nat} {S : zm_S} {out : (Int32 × zm_S)} {d : Nat} {i0 : Int32} (hd : 1 ≤ d) (h : zf_X6_isSign N i0 S = some out) : zm_Met l zk_E V yX6_isSign (.code yX6_isSign cX6_isSign 2 (some .boolean)) d [.int i0] S 0 0 (zo_i out) zo_x := by
  refine zm_of (by decide +kernel) (Nat.le_of_ble_eq_true rfl) ?_
  intro p e R s m args below meth c hRR hX hr hxt
  have hR : R.frames = d ∧ R.locals = 64 * d := by rw [hRR]; exact ⟨rfl, rfl⟩
  have hX : zm_X p R s m args meth c RX6 "isSign" cX6_isSign 2 zk_E V 0 0 := hX
  unfold zf_X6_isSign at h
  refine zw_sub (lv' := [(0, .int i0)]) (List.forall_mem_cons.mpr ⟨rfl, zs_nil⟩) ?_
  refine zw_iconst (v := (0 : Int32)) hX dX6_isSign_0 (by decide) ?_
  refine zw_istore_n hX dX6_isSign_1 (by decide) ?_
  obtain ⟨r, g, h⟩ := zb_some h
  refine zw_sub (lv' := [(0, .int i0), (1, .int (0 : Int32))]) (List.forall_mem_cons.mpr ⟨rfl, (List.forall_mem_cons.mpr ⟨rfl, zs_nil⟩)⟩) ?_
  refine zt_X6_isSign_L2 hX hr hR hd (res := r) (out := out) i0 ?_ ?_ N _ _ g
  · intro o ho
    subst ho
    exact Option.some.inj h
  · intro  S3 hx
    subst hx
    try dsimp only at h
    refine zw_iconst (v := (0 : Int32)) hX dX6_isSign_27 (by decide) ?_
    obtain rfl := Option.some.inj h
    exact zw_iret hX hr dX6_isSign_28 rfl ⟨rfl, rfl⟩
set_option maxHeartbeats 4000000 in
set_option maxRecDepth 100000 in
theorem zt_X6_splitWord_J123 {p : Program} {l : Launch} {e : Env} {R : Room} {s : State} {m : MethodId} {args : Array Value} {below : List Frame} {meth : Method} {c : Code} {V : zm_V} {mc ms d rc rs : Nat} (hX : zm_X p R s m args meth c RX6 "splitWord" cX6_splitWord 5 zk_E V mc ms) (hr : meth.sig.returnType = (some .int)) (hR : R.frames = d ∧ R.locals = 64 * d) (hd : 3 ≤ d) {N : Nat} {i2 : Int32} {t0 : Nat} {t1 : Int32} {t2 : Int32} {out : (Int32 × zm_S)} {S : zm_S} (h : zf_X6_splitWord_J123 N i2 t0 t1 t2 S = some out) : zw p l e R s m args below meth c (vx_MQ below (zm_Qc zk_E V (zo_i out)) (zm_XC zk_E V zo_x) args s mc ms (fun q => V.2.2.2.1 ≤ q)) 5 zk_E V mc ms 123 [(2, .int i2)] [.int t2, .int t1, .ref t0] S rc rs := by
  unfold zf_X6_splitWord_J123 at h
  obtain ⟨S11, g, h⟩ := zb_some h
  refine zw_si hX dX6_splitWord_123 g ?_
  refine zw_iload_n hX dX6_splitWord_124 rfl ?_
  refine zw_iconst (v := (1 : Int32)) hX dX6_splitWord_125 (by decide) ?_
  refine zw_iadd hX dX6_splitWord_126 ?_
  obtain rfl := Option.some.inj h
  exact zw_iret hX hr dX6_splitWord_127 rfl ⟨rfl, rfl⟩
set_option maxHeartbeats 4000000 in
set_option maxRecDepth 100000 in
theorem zt_X6_splitWord_J100 {p : Program} {l : Launch} {e : Env} {R : Room} {s : State} {m : MethodId} {args : Array Value} {below : List Frame} {meth : Method} {c : Code} {V : zm_V} {mc ms d rc rs : Nat} (hX : zm_X p R s m args meth c RX6 "splitWord" cX6_splitWord 5 zk_E V mc ms) (hr : meth.sig.returnType = (some .int)) (hR : R.frames = d ∧ R.locals = 64 * d) (hd : 3 ≤ d) {N : Nat} {i2 : Int32} {t0 : Nat} {t1 : Int32} {t2 : Int32} {out : (Int32 × zm_S)} {S : zm_S} (h : zf_X6_splitWord_J100 N i2 t0 t1 t2 S = some out) : zw p l e R s m args below meth c (vx_MQ below (zm_Qc zk_E V (zo_i out)) (zm_XC zk_E V zo_x) args s mc ms (fun q => V.2.2.2.1 ≤ q)) 5 zk_E V mc ms 100 [(2, .int i2)] [.int t2, .int t1, .ref t0] S rc rs := by
  unfold zf_X6_splitWord_J100 at h
  obtain ⟨S13, g, h⟩ := zb_some h
  refine zw_si hX dX6_splitWord_100 g ?_
  refine zw_iload_n hX dX6_splitWord_101 rfl ?_
  refine zw_iconst (v := (2 : Int32)) hX dX6_splitWord_102 (by decide) ?_
  refine zw_iadd hX dX6_splitWord_103 ?_
  obtain rfl := Option.some.inj h
  exact zw_iret hX hr dX6_splitWord_104 rfl ⟨rfl, rfl⟩
set_option maxHeartbeats 4000000 in
set_option maxRecDepth 100000 in
theorem zt_X6_splitWord_J75 {p : Program} {l : Launch} {e : Env} {R : Room} {s : State} {m : MethodId} {args : Array Value} {below : List Frame} {meth : Method} {c : Code} {V : zm_V} {mc ms d rc rs : Nat} (hX : zm_X p R s m args meth c RX6 "splitWord" cX6_splitWord 5 zk_E V mc ms) (hr : meth.sig.returnType = (some .int)) (hR : R.frames = d ∧ R.locals = 64 * d) (hd : 3 ≤ d) {N : Nat} {a0 : Nat} {i1 : Int32} {i2 : Int32} {i3 : Int32} {t0 : Int32} {out : (Int32 × zm_S)} {S : zm_S} (h : zf_X6_splitWord_J75 N a0 i1 i2 i3 t0 S = some out) : zw p l e R s m args below meth c (vx_MQ below (zm_Qc zk_E V (zo_i out)) (zm_XC zk_E V zo_x) args s mc ms (fun q => V.2.2.2.1 ≤ q)) 5 zk_E V mc ms 75 [(0, .ref a0), (1, .int i1), (2, .int i2), (3, .int i3)] [.int t0] S rc rs := by
  unfold zf_X6_splitWord_J75 at h
  refine zw_istore hX dX6_splitWord_75 (by decide) ?_
  refine zw_iload hX dX6_splitWord_77 rfl ?_
  refine zw_if_eq (tgt := 105) hX dX6_splitWord_79 (by decide) (fun c79 => ?_) (fun c79 => ?_)
  · rw [if_pos c79] at h
    refine zw_aload_n hX dX6_splitWord_105 rfl ?_
    obtain ⟨b8, g, h⟩ := zb_some h
    refine zw_getr hX zl_X6_13 dX6_splitWord_106 g ?_
    refine zw_iload_n hX dX6_splitWord_109 rfl ?_
    refine zw_iload_n hX dX6_splitWord_110 rfl ?_
    obtain ⟨r10, g, h⟩ := zb_some h
    refine zc_Si (as := [.int i3]) hX (zt_X6_isSign (d := d - 1) (by omega) g) zl_X6_77 dX6_splitWord_111 ⟨rfl, rfl, Nat.le_of_ble_eq_true rfl⟩ ⟨by omega, by omega⟩ ?_
    refine zw_if_eq (tgt := 121) hX dX6_splitWord_114 (by decide) (fun c114 => ?_) (fun c114 => ?_)
    · rw [if_pos c114] at h
      refine zw_bipush (v := (63 : Int32)) hX dX6_splitWord_121 (by decide) ?_
      refine zw_sub (lv' := [(2, .int i2)]) (List.forall_mem_cons.mpr ⟨rfl, zs_nil⟩) ?_
      exact zt_X6_splitWord_J123 hX hr hR hd h
    · rw [if_neg c114] at h
      refine zw_iload_n hX dX6_splitWord_117 rfl ?_
      refine zw_goto (tgt := 123) hX dX6_splitWord_118 (by decide) ?_
      refine zw_sub (lv' := [(2, .int i2)]) (List.forall_mem_cons.mpr ⟨rfl, zs_nil⟩) ?_
      exact zt_X6_splitWord_J123 hX hr hR hd h
  · rw [if_neg c79] at h
    refine zw_aload_n hX dX6_splitWord_82 rfl ?_
    obtain ⟨b12, g, h⟩ := zb_some h
    refine zw_getr hX zl_X6_13 dX6_splitWord_83 g ?_
    refine zw_iload_n hX dX6_splitWord_86 rfl ?_
    refine zw_iload_n hX dX6_splitWord_87 rfl ?_
    refine zw_bipush (v := (60 : Int32)) hX dX6_splitWord_88 (by decide) ?_
    refine zw_icmp_ne (tgt := 98) hX dX6_splitWord_90 (by decide) (fun c90 => ?_) (fun c90 => ?_)
    · rw [if_neg c90] at h
      refine zw_bipush (v := (103 : Int32)) hX dX6_splitWord_98 (by decide) ?_
      refine zw_sub (lv' := [(2, .int i2)]) (List.forall_mem_cons.mpr ⟨rfl, zs_nil⟩) ?_
      exact zt_X6_splitWord_J100 hX hr hR hd h
    · rw [if_pos c90] at h
      refine zw_bipush (v := (108 : Int32)) hX dX6_splitWord_93 (by decide) ?_
      refine zw_goto (tgt := 100) hX dX6_splitWord_95 (by decide) ?_
      refine zw_sub (lv' := [(2, .int i2)]) (List.forall_mem_cons.mpr ⟨rfl, zs_nil⟩) ?_
      exact zt_X6_splitWord_J100 hX hr hR hd h
set_option maxHeartbeats 4000000 in
set_option maxRecDepth 100000 in
theorem zt_X6_splitWord_J74 {p : Program} {l : Launch} {e : Env} {R : Room} {s : State} {m : MethodId} {args : Array Value} {below : List Frame} {meth : Method} {c : Code} {V : zm_V} {mc ms d rc rs : Nat} (hX : zm_X p R s m args meth c RX6 "splitWord" cX6_splitWord 5 zk_E V mc ms) (hr : meth.sig.returnType = (some .int)) (hR : R.frames = d ∧ R.locals = 64 * d) (hd : 3 ≤ d) {N : Nat} {a0 : Nat} {i1 : Int32} {i2 : Int32} {i3 : Int32} {out : (Int32 × zm_S)} {S : zm_S} (h : zf_X6_splitWord_J74 N a0 i1 i2 i3 S = some out) : zw p l e R s m args below meth c (vx_MQ below (zm_Qc zk_E V (zo_i out)) (zm_XC zk_E V zo_x) args s mc ms (fun q => V.2.2.2.1 ≤ q)) 5 zk_E V mc ms 74 [(0, .ref a0), (1, .int i1), (2, .int i2), (3, .int i3)] [] S rc rs := by
  unfold zf_X6_splitWord_J74 at h
  refine zw_iconst (v := (0 : Int32)) hX dX6_splitWord_74 (by decide) ?_
  refine zw_sub (lv' := [(0, .ref a0), (1, .int i1), (2, .int i2), (3, .int i3)]) (List.forall_mem_cons.mpr ⟨rfl, (List.forall_mem_cons.mpr ⟨rfl, (List.forall_mem_cons.mpr ⟨rfl, (List.forall_mem_cons.mpr ⟨rfl, zs_nil⟩)⟩)⟩)⟩) ?_
  exact zt_X6_splitWord_J75 hX hr hR hd h
set_option maxHeartbeats 4000000 in
set_option maxRecDepth 100000 in
theorem zt_X6_splitWord_J47 {p : Program} {l : Launch} {e : Env} {R : Room} {s : State} {m : MethodId} {args : Array Value} {below : List Frame} {meth : Method} {c : Code} {V : zm_V} {mc ms d rc rs : Nat} (hX : zm_X p R s m args meth c RX6 "splitWord" cX6_splitWord 5 zk_E V mc ms) (hr : meth.sig.returnType = (some .int)) (hR : R.frames = d ∧ R.locals = 64 * d) (hd : 3 ≤ d) {N : Nat} {a0 : Nat} {i1 : Int32} {i2 : Int32} {i3 : Int32} {out : (Int32 × zm_S)} {S : zm_S} (h : zf_X6_splitWord_J47 N a0 i1 i2 i3 S = some out) : zw p l e R s m args below meth c (vx_MQ below (zm_Qc zk_E V (zo_i out)) (zm_XC zk_E V zo_x) args s mc ms (fun q => V.2.2.2.1 ≤ q)) 5 zk_E V mc ms 47 [(0, .ref a0), (1, .int i1), (2, .int i2), (3, .int i3)] [] S rc rs := by
  unfold zf_X6_splitWord_J47 at h
  refine zw_iload_n hX dX6_splitWord_47 rfl ?_
  refine zw_iconst (v := (1 : Int32)) hX dX6_splitWord_48 (by decide) ?_
  refine zw_iadd hX dX6_splitWord_49 ?_
  refine zw_aload_n hX dX6_splitWord_50 rfl ?_
  obtain ⟨v7, g, h⟩ := zb_some h
  refine zw_geti hX zl_X6_39 dX6_splitWord_51 g ?_
  refine zw_icmp_ge (tgt := 74) hX dX6_splitWord_54 (by decide) (fun c54 => ?_) (fun c54 => ?_)
  · rw [if_pos c54] at h
    refine zw_sub (lv' := [(0, .ref a0), (1, .int i1), (2, .int i2), (3, .int i3)]) (List.forall_mem_cons.mpr ⟨rfl, (List.forall_mem_cons.mpr ⟨rfl, (List.forall_mem_cons.mpr ⟨rfl, (List.forall_mem_cons.mpr ⟨rfl, zs_nil⟩)⟩)⟩)⟩) ?_
    exact zt_X6_splitWord_J74 hX hr hR hd h
  · rw [if_neg c54] at h
    refine zw_aload_n hX dX6_splitWord_57 rfl ?_
    obtain ⟨b14, g, h⟩ := zb_some h
    refine zw_getr hX zl_X6_9 dX6_splitWord_58 g ?_
    refine zw_iload_n hX dX6_splitWord_61 rfl ?_
    refine zw_iconst (v := (1 : Int32)) hX dX6_splitWord_62 (by decide) ?_
    refine zw_iadd hX dX6_splitWord_63 ?_
    obtain ⟨v15, g, h⟩ := zb_some h
    refine zw_xc hX dX6_splitWord_64 g ?_
    refine zw_bipush (v := (61 : Int32)) hX dX6_splitWord_65 (by decide) ?_
    refine zw_icmp_ne (tgt := 74) hX dX6_splitWord_67 (by decide) (fun c67 => ?_) (fun c67 => ?_)
    · rw [if_neg c67] at h
      refine zw_sub (lv' := [(0, .ref a0), (1, .int i1), (2, .int i2), (3, .int i3)]) (List.forall_mem_cons.mpr ⟨rfl, (List.forall_mem_cons.mpr ⟨rfl, (List.forall_mem_cons.mpr ⟨rfl, (List.forall_mem_cons.mpr ⟨rfl, zs_nil⟩)⟩)⟩)⟩) ?_
      exact zt_X6_splitWord_J74 hX hr hR hd h
    · rw [if_pos c67] at h
      refine zw_iconst (v := (1 : Int32)) hX dX6_splitWord_70 (by decide) ?_
      refine zw_goto (tgt := 75) hX dX6_splitWord_71 (by decide) ?_
      refine zw_sub (lv' := [(0, .ref a0), (1, .int i1), (2, .int i2), (3, .int i3)]) (List.forall_mem_cons.mpr ⟨rfl, (List.forall_mem_cons.mpr ⟨rfl, (List.forall_mem_cons.mpr ⟨rfl, (List.forall_mem_cons.mpr ⟨rfl, zs_nil⟩)⟩)⟩)⟩) ?_
      exact zt_X6_splitWord_J75 hX hr hR hd h
set_option maxHeartbeats 4000000 in
set_option maxRecDepth 100000 in
theorem zt_X6_splitWord {l : Launch} {V : zm_V} {N : Nat} {S : zm_S} {out : (Int32 × zm_S)} {d : Nat} {a0 : Nat} {i1 : Int32} {i2 : Int32} (hd : 3 ≤ d) (h : zf_X6_splitWord N a0 i1 i2 S = some out) : zm_Met l zk_E V yX6_splitWord (.code yX6_splitWord cX6_splitWord 5 (some .int)) d [.ref a0, .int i1, .int i2] S 0 0 (zo_i out) zo_x := by
  refine zm_of (by decide +kernel) (Nat.le_of_ble_eq_true rfl) ?_
  intro p e R s m args below meth c hRR hX hr hxt
  have hR : R.frames = d ∧ R.locals = 64 * d := by rw [hRR]; exact ⟨rfl, rfl⟩
  have hX : zm_X p R s m args meth c RX6 "splitWord" cX6_splitWord 5 zk_E V 0 0 := hX
  unfold zf_X6_splitWord at h
  refine zw_sub (lv' := [(0, .ref a0), (1, .int i1), (2, .int i2)]) (List.forall_mem_cons.mpr ⟨rfl, (List.forall_mem_cons.mpr ⟨rfl, (List.forall_mem_cons.mpr ⟨rfl, zs_nil⟩)⟩)⟩) ?_
  refine zw_aload_n hX dX6_splitWord_0 rfl ?_
  obtain ⟨b1, g, h⟩ := zb_some h
  refine zw_getr hX zl_X6_9 dX6_splitWord_1 g ?_
  refine zw_iload_n hX dX6_splitWord_4 rfl ?_
  obtain ⟨v2, g, h⟩ := zb_some h
  refine zw_xc hX dX6_splitWord_5 g ?_
  refine zw_istore_n hX dX6_splitWord_6 (by decide) ?_
  refine zw_iload_n hX dX6_splitWord_7 rfl ?_
  obtain ⟨r4, g, h⟩ := zb_some h
  refine zc_Si (as := [.int v2]) hX (zt_X6_isDigit (d := d - 1) (by omega) g) zl_X6_64 dX6_splitWord_8 ⟨rfl, rfl, Nat.le_of_ble_eq_true rfl⟩ ⟨by omega, by omega⟩ ?_
  refine zw_if_eq (tgt := 21) hX dX6_splitWord_11 (by decide) (fun c11 => ?_) (fun c11 => ?_)
  · rw [if_pos c11] at h
    refine zw_iload_n hX dX6_splitWord_21 rfl ?_
    obtain ⟨r6, g, h⟩ := zb_some h
    refine zc_Si (as := [.int v2]) hX (zt_X6_isLetter (d := d - 1) (by omega) g) zl_X6_71 dX6_splitWord_22 ⟨rfl, rfl, Nat.le_of_ble_eq_true rfl⟩ ⟨by omega, by omega⟩ ?_
    refine zw_if_eq (tgt := 35) hX dX6_splitWord_25 (by decide) (fun c25 => ?_) (fun c25 => ?_)
    · rw [if_pos c25] at h
      refine zw_iload_n hX dX6_splitWord_35 rfl ?_
      refine zw_bipush (v := (60 : Int32)) hX dX6_splitWord_36 (by decide) ?_
      refine zw_icmp_eq (tgt := 47) hX dX6_splitWord_38 (by decide) (fun c38 => ?_) (fun c38 => ?_)
      · rw [if_pos c38] at h
        refine zw_sub (lv' := [(0, .ref a0), (1, .int i1), (2, .int i2), (3, .int v2)]) (List.forall_mem_cons.mpr ⟨rfl, (List.forall_mem_cons.mpr ⟨rfl, (List.forall_mem_cons.mpr ⟨rfl, (List.forall_mem_cons.mpr ⟨rfl, zs_nil⟩)⟩)⟩)⟩) ?_
        exact zt_X6_splitWord_J47 hX hr hR hd h
      · rw [if_neg c38] at h
        refine zw_iload_n hX dX6_splitWord_41 rfl ?_
        refine zw_bipush (v := (62 : Int32)) hX dX6_splitWord_42 (by decide) ?_
        refine zw_icmp_ne (tgt := 74) hX dX6_splitWord_44 (by decide) (fun c44 => ?_) (fun c44 => ?_)
        · rw [if_neg c44] at h
          refine zw_sub (lv' := [(0, .ref a0), (1, .int i1), (2, .int i2), (3, .int v2)]) (List.forall_mem_cons.mpr ⟨rfl, (List.forall_mem_cons.mpr ⟨rfl, (List.forall_mem_cons.mpr ⟨rfl, (List.forall_mem_cons.mpr ⟨rfl, zs_nil⟩)⟩)⟩)⟩) ?_
          exact zt_X6_splitWord_J74 hX hr hR hd h
        · rw [if_pos c44] at h
          refine zw_sub (lv' := [(0, .ref a0), (1, .int i1), (2, .int i2), (3, .int v2)]) (List.forall_mem_cons.mpr ⟨rfl, (List.forall_mem_cons.mpr ⟨rfl, (List.forall_mem_cons.mpr ⟨rfl, (List.forall_mem_cons.mpr ⟨rfl, zs_nil⟩)⟩)⟩)⟩) ?_
          exact zt_X6_splitWord_J47 hX hr hR hd h
    · rw [if_neg c25] at h
      refine zw_aload_n hX dX6_splitWord_28 rfl ?_
      refine zw_iload_n hX dX6_splitWord_29 rfl ?_
      refine zw_iload_n hX dX6_splitWord_30 rfl ?_
      obtain ⟨_, gi, h⟩ := zb_some h
      obtain ⟨r17, g, h⟩ := zb_some h
      refine zc_Vi (as := [.int i1, .int i2]) hX gi (zt_X6_splitName (d := d - 1) (by omega) g) zl_X6_74 rfl dX6_splitWord_31 ⟨rfl, rfl, Nat.le_of_ble_eq_true rfl⟩ ⟨by omega, by omega⟩ ?_
      obtain rfl := Option.some.inj h
      exact zw_iret hX hr dX6_splitWord_34 rfl ⟨rfl, rfl⟩
  · rw [if_neg c11] at h
    refine zw_aload_n hX dX6_splitWord_14 rfl ?_
    refine zw_iload_n hX dX6_splitWord_15 rfl ?_
    refine zw_iload_n hX dX6_splitWord_16 rfl ?_
    obtain ⟨_, gi, h⟩ := zb_some h
    obtain ⟨r19, g, h⟩ := zb_some h
    refine zc_Vi (as := [.int i1, .int i2]) hX gi (zt_X6_splitNumber (d := d - 1) (by omega) g) zl_X6_68 rfl dX6_splitWord_17 ⟨rfl, rfl, Nat.le_of_ble_eq_true rfl⟩ ⟨by omega, by omega⟩ ?_
    obtain rfl := Option.some.inj h
    exact zw_iret hX hr dX6_splitWord_20 rfl ⟨rfl, rfl⟩
set_option maxHeartbeats 4000000 in
set_option maxRecDepth 100000 in
theorem zt_X6_splitWords_L10 {p : Program} {l : Launch} {e : Env} {R : Room} {s : State} {m : MethodId} {args : Array Value} {below : List Frame} {meth : Method} {c : Code} {V : zm_V} {mc ms d rc rs : Nat} (hX : zm_X p R s m args meth c RX6 "splitWords" cX6_splitWords 3 zk_E V mc ms) (hr : meth.sig.returnType = none) (hR : R.frames = d ∧ R.locals = 64 * d) (hd : 4 ≤ d) {N : Nat} {res : (Unit × zm_S) ⊕ ((Int32) × zm_S)} {out : (Unit × zm_S)} (a0 : Nat) (i2 : Int32) (hf : ∀ o, res = .inl o → o = out) (hk : ∀ (x1 : Int32) (S' : zm_S), res = .inr (x1, S') → zw p l e R s m args below meth c (vx_MQ below (zm_Qc zk_E V (zo_v out)) (zm_XC zk_E V zo_x) args s mc ms (fun q => V.2.2.2.1 ≤ q)) 3 zk_E V mc ms 35 [(0, .ref a0), (1, .int x1), (2, .int i2)] [] S' rc rs) : ∀ (n : Nat) (i1 : Int32) (S : zm_S), zf_X6_splitWords_L10 N n a0 i1 i2 S = some res → zw p l e R s m args below meth c (vx_MQ below (zm_Qc zk_E V (zo_v out)) (zm_XC zk_E V zo_x) args s mc ms (fun q => V.2.2.2.1 ≤ q)) 3 zk_E V mc ms 10 [(0, .ref a0), (1, .int i1), (2, .int i2)] [] S rc rs := by
  intro n
  induction n with
  | zero => intro i1 S h; cases h
  | succ n ih =>
    intro i1 S h
    rw [zf_X6_splitWords_L10] at h
    refine zw_iload_n hX dX6_splitWords_10 rfl ?_
    refine zw_aload_n hX dX6_splitWords_11 rfl ?_
    obtain ⟨v1, g, h⟩ := zb_some h
    refine zw_geti hX zl_X6_39 dX6_splitWords_12 g ?_
    refine zw_icmp_ge (tgt := 35) hX dX6_splitWords_15 (by decide) (fun c15 => ?_) (fun c15 => ?_)
    · rw [if_pos c15] at h
      refine zw_sub (lv' := [(0, .ref a0), (1, .int i1), (2, .int i2)]) (List.forall_mem_cons.mpr ⟨rfl, (List.forall_mem_cons.mpr ⟨rfl, (List.forall_mem_cons.mpr ⟨rfl, zs_nil⟩)⟩)⟩) ?_
      exact hk _ _ (Option.some.inj h).symm
    · rw [if_neg c15] at h
      refine zw_aload_n hX dX6_splitWords_18 rfl ?_
      obtain ⟨b2, g, h⟩ := zb_some h
      refine zw_getr hX zl_X6_9 dX6_splitWords_19 g ?_
      refine zw_iload_n hX dX6_splitWords_22 rfl ?_
      obtain ⟨v3, g, h⟩ := zb_some h
      refine zw_xc hX dX6_splitWords_23 g ?_
      refine zw_bipush (v := (32 : Int32)) hX dX6_splitWords_24 (by decide) ?_
      refine zw_icmp_ne (tgt := 35) hX dX6_splitWords_26 (by decide) (fun c26 => ?_) (fun c26 => ?_)
      · rw [if_neg c26] at h
        refine zw_sub (lv' := [(0, .ref a0), (1, .int i1), (2, .int i2)]) (List.forall_mem_cons.mpr ⟨rfl, (List.forall_mem_cons.mpr ⟨rfl, (List.forall_mem_cons.mpr ⟨rfl, zs_nil⟩)⟩)⟩) ?_
        exact hk _ _ (Option.some.inj h).symm
      · rw [if_pos c26] at h
        refine zw_iinc (v := (i1 + (1 : Int32))) hX dX6_splitWords_29 rfl rfl (by decide) ?_
        refine zw_goto (tgt := 10) hX dX6_splitWords_32 (by decide) ?_
        refine zw_sub (lv' := [(0, .ref a0), (1, .int (i1 + (1 : Int32))), (2, .int i2)]) (List.forall_mem_cons.mpr ⟨rfl, (List.forall_mem_cons.mpr ⟨rfl, (List.forall_mem_cons.mpr ⟨rfl, zs_nil⟩)⟩)⟩) ?_
        exact ih _ _ h
set_option maxHeartbeats 4000000 in
set_option maxRecDepth 100000 in
theorem zt_X6_splitWords_J35 {p : Program} {l : Launch} {e : Env} {R : Room} {s : State} {m : MethodId} {args : Array Value} {below : List Frame} {meth : Method} {c : Code} {V : zm_V} {mc ms d rc rs : Nat} (hX : zm_X p R s m args meth c RX6 "splitWords" cX6_splitWords 3 zk_E V mc ms) (hr : meth.sig.returnType = none) (hR : R.frames = d ∧ R.locals = 64 * d) (hd : 4 ≤ d) {N : Nat} {k : Nat → Int32 → Int32 → zm_S → Option ((Unit × zm_S) ⊕ ((Unit) × zm_S))} {a0 : Nat} {i1 : Int32} {i2 : Int32} {res : (Unit × zm_S) ⊕ ((Unit) × zm_S)} {out : (Unit × zm_S)}   (hf : ∀ o, res = .inl o → o = out) (hk : ∀ (S' : zm_S), res = .inr ((), S') → zw p l e R s m args below meth c (vx_MQ below (zm_Qc zk_E V (zo_v out)) (zm_XC zk_E V zo_x) args s mc ms (fun q => V.2.2.2.1 ≤ q)) 3 zk_E V mc ms 106 [] [] S' rc rs) (hrec : ∀ (i1' : Int32) (i2' : Int32) (S : zm_S), k a0 i1' i2' S = some res → zw p l e R s m args below meth c (vx_MQ below (zm_Qc zk_E V (zo_v out)) (zm_XC zk_E V zo_x) args s mc ms (fun q => V.2.2.2.1 ≤ q)) 3 zk_E V mc ms 4 [(0, .ref a0), (1, .int i1'), (2, .int i2')] [] S rc rs) {S : zm_S} (h : zf_X6_splitWords_J35 N k a0 i1 i2 S = some res) : zw p l e R s m args below meth c (vx_MQ below (zm_Qc zk_E V (zo_v out)) (zm_XC zk_E V zo_x) args s mc ms (fun q => V.2.2.2.1 ≤ q)) 3 zk_E V mc ms 35 [(0, .ref a0), (1, .int i1), (2, .int i2)] [] S rc rs := by
  unfold zf_X6_splitWords_J35 at h
  refine zw_aload_n hX dX6_splitWords_35 rfl ?_
  obtain ⟨b6, g, h⟩ := zb_some h
  refine zw_getr hX zl_X6_21 dX6_splitWords_36 g ?_
  refine zw_iload_n hX dX6_splitWords_39 rfl ?_
  refine zw_iload_n hX dX6_splitWords_40 rfl ?_
  obtain ⟨S7, g, h⟩ := zb_some h
  refine zw_si hX dX6_splitWords_41 g ?_
  refine zw_aload_n hX dX6_splitWords_42 rfl ?_
  obtain ⟨b8, g, h⟩ := zb_some h
  refine zw_getr hX zl_X6_17 dX6_splitWords_43 g ?_
  refine zw_iload_n hX dX6_splitWords_46 rfl ?_
  refine zw_lconst (v := (0 : Int64)) hX dX6_splitWords_47 (by decide) ?_
  obtain ⟨S9, g, h⟩ := zb_some h
  refine zw_sl hX dX6_splitWords_48 g ?_
  refine zw_iload_n hX dX6_splitWords_49 rfl ?_
  refine zw_aload_n hX dX6_splitWords_50 rfl ?_
  obtain ⟨v10, g, h⟩ := zb_some h
  refine zw_geti hX zl_X6_39 dX6_splitWords_51 g ?_
  refine zw_icmp_lt (tgt := 66) hX dX6_splitWords_54 (by decide) (fun c54 => ?_) (fun c54 => ?_)
  · rw [if_pos c54] at h
    refine zw_iload_n hX dX6_splitWords_66 rfl ?_
    refine zw_bipush (v := (120 : Int32)) hX dX6_splitWords_67 (by decide) ?_
    refine zw_icmp_ne (tgt := 81) hX dX6_splitWords_69 (by decide) (fun c69 => ?_) (fun c69 => ?_)
    · rw [if_neg c69] at h
      refine zw_aload_n hX dX6_splitWords_81 rfl ?_
      refine zw_iload_n hX dX6_splitWords_82 rfl ?_
      refine zw_iload_n hX dX6_splitWords_83 rfl ?_
      obtain ⟨_, gi, h⟩ := zb_some h
      obtain ⟨r12, g, h⟩ := zb_some h
      refine zc_Vi (as := [.int i2, .int i1]) hX gi (zt_X6_splitWord (d := d - 1) (by omega) g) zl_X6_60 rfl dX6_splitWords_84 ⟨rfl, rfl, Nat.le_of_ble_eq_true rfl⟩ ⟨by omega, by omega⟩ ?_
      refine zw_istore_n hX dX6_splitWords_87 (by decide) ?_
      refine zw_aload_n hX dX6_splitWords_88 rfl ?_
      obtain ⟨b13, g, h⟩ := zb_some h
      refine zw_getr hX zl_X6_13 dX6_splitWords_89 g ?_
      refine zw_iload_n hX dX6_splitWords_92 rfl ?_
      obtain ⟨v14, g, h⟩ := zb_some h
      refine zw_xi hX dX6_splitWords_93 g ?_
      refine zw_bipush (v := (63 : Int32)) hX dX6_splitWords_94 (by decide) ?_
      refine zw_icmp_ne (tgt := 100) hX dX6_splitWords_96 (by decide) (fun c96 => ?_) (fun c96 => ?_)
      · rw [if_neg c96] at h
        refine zw_iinc (v := (i2 + (1 : Int32))) hX dX6_splitWords_100 rfl rfl (by decide) ?_
        refine zw_goto (tgt := 4) hX dX6_splitWords_103 (by decide) ?_
        refine zw_sub (lv' := [(0, .ref a0), (1, .int r12.1), (2, .int (i2 + (1 : Int32)))]) (List.forall_mem_cons.mpr ⟨rfl, (List.forall_mem_cons.mpr ⟨rfl, (List.forall_mem_cons.mpr ⟨rfl, zs_nil⟩)⟩)⟩) ?_
        exact hrec _ _ _ h
      · rw [if_pos c96] at h
        have hz := hf _ (Option.some.inj h).symm
        subst hz
        exact zw_vret hX hr dX6_splitWords_99 ⟨rfl, rfl⟩
    · rw [if_pos c69] at h
      refine zw_aload_n hX dX6_splitWords_72 rfl ?_
      obtain ⟨b15, g, h⟩ := zb_some h
      refine zw_getr hX zl_X6_13 dX6_splitWords_73 g ?_
      refine zw_iload_n hX dX6_splitWords_76 rfl ?_
      refine zw_bipush (v := (63 : Int32)) hX dX6_splitWords_77 (by decide) ?_
      obtain ⟨S16, g, h⟩ := zb_some h
      refine zw_si hX dX6_splitWords_79 g ?_
      have hz := hf _ (Option.some.inj h).symm
      subst hz
      exact zw_vret hX hr dX6_splitWords_80 ⟨rfl, rfl⟩
  · rw [if_neg c54] at h
    refine zw_aload_n hX dX6_splitWords_57 rfl ?_
    obtain ⟨b17, g, h⟩ := zb_some h
    refine zw_getr hX zl_X6_13 dX6_splitWords_58 g ?_
    refine zw_iload_n hX dX6_splitWords_61 rfl ?_
    refine zw_bipush (v := (101 : Int32)) hX dX6_splitWords_62 (by decide) ?_
    obtain ⟨S18, g, h⟩ := zb_some h
    refine zw_si hX dX6_splitWords_64 g ?_
    have hz := hf _ (Option.some.inj h).symm
    subst hz
    exact zw_vret hX hr dX6_splitWords_65 ⟨rfl, rfl⟩
set_option maxHeartbeats 4000000 in
set_option maxRecDepth 100000 in
theorem zt_X6_splitWords_L4 {p : Program} {l : Launch} {e : Env} {R : Room} {s : State} {m : MethodId} {args : Array Value} {below : List Frame} {meth : Method} {c : Code} {V : zm_V} {mc ms d rc rs : Nat} (hX : zm_X p R s m args meth c RX6 "splitWords" cX6_splitWords 3 zk_E V mc ms) (hr : meth.sig.returnType = none) (hR : R.frames = d ∧ R.locals = 64 * d) (hd : 4 ≤ d) {N : Nat} {res : (Unit × zm_S) ⊕ ((Unit) × zm_S)} {out : (Unit × zm_S)} (a0 : Nat) (hf : ∀ o, res = .inl o → o = out) (hk : ∀ (S' : zm_S), res = .inr ((), S') → zw p l e R s m args below meth c (vx_MQ below (zm_Qc zk_E V (zo_v out)) (zm_XC zk_E V zo_x) args s mc ms (fun q => V.2.2.2.1 ≤ q)) 3 zk_E V mc ms 106 [] [] S' rc rs) : ∀ (n : Nat) (i1 : Int32) (i2 : Int32) (S : zm_S), zf_X6_splitWords_L4 N n a0 i1 i2 S = some res → zw p l e R s m args below meth c (vx_MQ below (zm_Qc zk_E V (zo_v out)) (zm_XC zk_E V zo_x) args s mc ms (fun q => V.2.2.2.1 ≤ q)) 3 zk_E V mc ms 4 [(0, .ref a0), (1, .int i1), (2, .int i2)] [] S rc rs := by
  intro n
  induction n with
  | zero => intro i1 i2 S h; cases h
  | succ n ih =>
    intro i1 i2 S h
    rw [zf_X6_splitWords_L4] at h
    refine zw_iload_n hX dX6_splitWords_4 rfl ?_
    refine zw_bipush (v := (120 : Int32)) hX dX6_splitWords_5 (by decide) ?_
    refine zw_icmp_gt (tgt := 106) hX dX6_splitWords_7 (by decide) (fun c7 => ?_) (fun c7 => ?_)
    · rw [if_pos c7] at h
      refine zw_sub (lv' := []) zs_nil ?_
      exact hk  _ (Option.some.inj h).symm
    · rw [if_neg c7] at h
      obtain ⟨r, g, h⟩ := zb_some h
      refine zw_sub (lv' := [(0, .ref a0), (1, .int i1), (2, .int i2)]) (List.forall_mem_cons.mpr ⟨rfl, (List.forall_mem_cons.mpr ⟨rfl, (List.forall_mem_cons.mpr ⟨rfl, zs_nil⟩)⟩)⟩) ?_
      refine zt_X6_splitWords_L10 hX hr hR hd (res := r) (out := out) a0 i2 ?_ ?_ N _ _ g
      · intro o ho
        subst ho
        exact hf _ (Option.some.inj h).symm
      · intro v5 S4 hx
        subst hx
        try dsimp only at h
        refine zw_sub (lv' := [(0, .ref a0), (1, .int v5), (2, .int i2)]) (List.forall_mem_cons.mpr ⟨rfl, (List.forall_mem_cons.mpr ⟨rfl, (List.forall_mem_cons.mpr ⟨rfl, zs_nil⟩)⟩)⟩) ?_
        exact zt_X6_splitWords_J35 hX hr hR hd hf hk ih h
set_option maxHeartbeats 4000000 in
set_option maxRecDepth 100000 in
theorem zt_X6_splitWords {l : Launch} {V : zm_V} {N : Nat} {S : zm_S} {out : (Unit × zm_S)} {d : Nat} {a0 : Nat} (hd : 4 ≤ d) (h : zf_X6_splitWords N a0 S = some out) : zm_Met l zk_E V yX6_splitWords (.code yX6_splitWords cX6_splitWords 3 none) d [.ref a0] S 0 0 (zo_v out) zo_x := by
  refine zm_of (by decide +kernel) (Nat.le_of_ble_eq_true rfl) ?_
  intro p e R s m args below meth c hRR hX hr hxt
  have hR : R.frames = d ∧ R.locals = 64 * d := by rw [hRR]; exact ⟨rfl, rfl⟩
  have hX : zm_X p R s m args meth c RX6 "splitWords" cX6_splitWords 3 zk_E V 0 0 := hX
  unfold zf_X6_splitWords at h
  refine zw_sub (lv' := [(0, .ref a0)]) (List.forall_mem_cons.mpr ⟨rfl, zs_nil⟩) ?_
  refine zw_iconst (v := (0 : Int32)) hX dX6_splitWords_0 (by decide) ?_
  refine zw_istore_n hX dX6_splitWords_1 (by decide) ?_
  refine zw_iconst (v := (0 : Int32)) hX dX6_splitWords_2 (by decide) ?_
  refine zw_istore_n hX dX6_splitWords_3 (by decide) ?_
  obtain ⟨r, g, h⟩ := zb_some h
  refine zw_sub (lv' := [(0, .ref a0), (1, .int (0 : Int32)), (2, .int (0 : Int32))]) (List.forall_mem_cons.mpr ⟨rfl, (List.forall_mem_cons.mpr ⟨rfl, (List.forall_mem_cons.mpr ⟨rfl, zs_nil⟩)⟩)⟩) ?_
  refine zt_X6_splitWords_L4 hX hr hR hd (res := r) (out := out) a0 ?_ ?_ N _ _ _ g
  · intro o ho
    subst ho
    exact Option.some.inj h
  · intro  S19 hx
    subst hx
    try dsimp only at h
    obtain rfl := Option.some.inj h
    exact zw_vret hX hr dX6_splitWords_106 ⟨rfl, rfl⟩
set_option maxHeartbeats 4000000 in
set_option maxRecDepth 100000 in
theorem zt_X6_isRuleName_L2 {p : Program} {l : Launch} {e : Env} {R : Room} {s : State} {m : MethodId} {args : Array Value} {below : List Frame} {meth : Method} {c : Code} {V : zm_V} {mc ms d rc rs : Nat} (hX : zm_X p R s m args meth c RX6 "isRuleName" cX6_isRuleName 4 zk_E V mc ms) (hr : meth.sig.returnType = (some .boolean)) (hR : R.frames = d ∧ R.locals = 64 * d) (hd : 1 ≤ d) {N : Nat} {res : (Int32 × zm_S) ⊕ ((Unit) × zm_S)} {out : (Int32 × zm_S)} (a0 : Nat) (j1 : Int64) (hf : ∀ o, res = .inl o → o = out) (hk : ∀ (S' : zm_S), res = .inr ((), S') → zw p l e R s m args below meth c (vx_MQ below (zm_Qc zk_E V (zo_i out)) (zm_XC zk_E V zo_x) args s mc ms (fun q => V.2.2.2.1 ≤ q)) 4 zk_E V mc ms 29 [] [] S' rc rs) : ∀ (n : Nat) (i3 : Int32) (S : zm_S), zf_X6_isRuleName_L2 N n a0 j1 i3 S = some res → zw p l e R s m args below meth c (vx_MQ below (zm_Qc zk_E V (zo_i out)) (zm_XC zk_E V zo_x) args s mc ms (fun q => V.2.2.2.1 ≤ q)) 4 zk_E V mc ms 2 [(0, .ref a0), (1, .long j1), (3, .int i3)] [] S rc rs := by
  intro n
  induction n with
  | zero => intro i3 S h; cases h
  | succ n ih =>
    intro i3 S h
    rw [zf_X6_isRuleName_L2] at h
    refine zw_iload_n hX dX6_isRuleName_2 rfl ?_
    refine zw_aload_n hX dX6_isRuleName_3 rfl ?_
    obtain ⟨v1, g, h⟩ := zb_some h
    refine zw_geti hX zl_X6_49 dX6_isRuleName_4 g ?_
    refine zw_icmp_ge (tgt := 29) hX dX6_isRuleName_7 (by decide) (fun c7 => ?_) (fun c7 => ?_)
    · rw [if_pos c7] at h
      refine zw_sub (lv' := []) zs_nil ?_
      exact hk  _ (Option.some.inj h).symm
    · rw [if_neg c7] at h
      refine zw_aload_n hX dX6_isRuleName_10 rfl ?_
      obtain ⟨b2, g, h⟩ := zb_some h
      refine zw_getr hX zl_X6_24 dX6_isRuleName_11 g ?_
      refine zw_iload_n hX dX6_isRuleName_14 rfl ?_
      obtain ⟨w3, g, h⟩ := zb_some h
      refine zw_xl hX dX6_isRuleName_15 g ?_
      refine zw_lload_n hX dX6_isRuleName_16 rfl ?_
      refine zw_lcmp hX dX6_isRuleName_17 ?_
      refine zw_if_ne (tgt := 23) hX dX6_isRuleName_18 (by decide) (fun c18 => ?_) (fun c18 => ?_)
      · rw [if_neg c18] at h
        refine zw_iinc (v := (i3 + (1 : Int32))) hX dX6_isRuleName_23 rfl rfl (by decide) ?_
        refine zw_goto (tgt := 2) hX dX6_isRuleName_26 (by decide) ?_
        refine zw_sub (lv' := [(0, .ref a0), (1, .long j1), (3, .int (i3 + (1 : Int32)))]) (List.forall_mem_cons.mpr ⟨rfl, (List.forall_mem_cons.mpr ⟨rfl, (List.forall_mem_cons.mpr ⟨rfl, zs_nil⟩)⟩)⟩) ?_
        exact ih _ _ h
      · rw [if_pos c18] at h
        refine zw_iconst (v := (1 : Int32)) hX dX6_isRuleName_21 (by decide) ?_
        have hz := hf _ (Option.some.inj h).symm
        subst hz
        exact zw_iret hX hr dX6_isRuleName_22 rfl ⟨rfl, rfl⟩
set_option maxHeartbeats 4000000 in
set_option maxRecDepth 100000 in
theorem zt_X6_isRuleName {l : Launch} {V : zm_V} {N : Nat} {S : zm_S} {out : (Int32 × zm_S)} {d : Nat} {a0 : Nat} {j1 : Int64} (hd : 1 ≤ d) (h : zf_X6_isRuleName N a0 j1 S = some out) : zm_Met l zk_E V yX6_isRuleName (.code yX6_isRuleName cX6_isRuleName 4 (some .boolean)) d [.ref a0, .long j1] S 0 0 (zo_i out) zo_x := by
  refine zm_of (by decide +kernel) (Nat.le_of_ble_eq_true rfl) ?_
  intro p e R s m args below meth c hRR hX hr hxt
  have hR : R.frames = d ∧ R.locals = 64 * d := by rw [hRR]; exact ⟨rfl, rfl⟩
  have hX : zm_X p R s m args meth c RX6 "isRuleName" cX6_isRuleName 4 zk_E V 0 0 := hX
  unfold zf_X6_isRuleName at h
  refine zw_sub (lv' := [(0, .ref a0), (1, .long j1)]) (List.forall_mem_cons.mpr ⟨rfl, (List.forall_mem_cons.mpr ⟨rfl, zs_nil⟩)⟩) ?_
  refine zw_iconst (v := (0 : Int32)) hX dX6_isRuleName_0 (by decide) ?_
  refine zw_istore_n hX dX6_isRuleName_1 (by decide) ?_
  obtain ⟨r, g, h⟩ := zb_some h
  refine zw_sub (lv' := [(0, .ref a0), (1, .long j1), (3, .int (0 : Int32))]) (List.forall_mem_cons.mpr ⟨rfl, (List.forall_mem_cons.mpr ⟨rfl, (List.forall_mem_cons.mpr ⟨rfl, zs_nil⟩)⟩)⟩) ?_
  refine zt_X6_isRuleName_L2 hX hr hR hd (res := r) (out := out) a0 j1 ?_ ?_ N _ _ g
  · intro o ho
    subst ho
    exact Option.some.inj h
  · intro  S4 hx
    subst hx
    try dsimp only at h
    refine zw_iconst (v := (0 : Int32)) hX dX6_isRuleName_29 (by decide) ?_
    obtain rfl := Option.some.inj h
    exact zw_iret hX hr dX6_isRuleName_30 rfl ⟨rfl, rfl⟩
set_option maxHeartbeats 4000000 in
set_option maxRecDepth 100000 in
theorem zt_X6_skipSign {l : Launch} {V : zm_V} {N : Nat} {S : zm_S} {out : (Int32 × zm_S)} {d : Nat} {a0 : Nat} {i1 : Int32} (hd : 1 ≤ d) (h : zf_X6_skipSign N a0 i1 S = some out) : zm_Met l zk_E V yX6_skipSign (.code yX6_skipSign cX6_skipSign 2 (some .boolean)) d [.ref a0, .int i1] S 0 0 (zo_i out) zo_x := by
  refine zm_of (by decide +kernel) (Nat.le_of_ble_eq_true rfl) ?_
  intro p e R s m args below meth c hRR hX hr hxt
  have hR : R.frames = d ∧ R.locals = 64 * d := by rw [hRR]; exact ⟨rfl, rfl⟩
  have hX : zm_X p R s m args meth c RX6 "skipSign" cX6_skipSign 2 zk_E V 0 0 := hX
  unfold zf_X6_skipSign at h
  refine zw_sub (lv' := [(0, .ref a0), (1, .int i1)]) (List.forall_mem_cons.mpr ⟨rfl, (List.forall_mem_cons.mpr ⟨rfl, zs_nil⟩)⟩) ?_
  refine zw_aload_n hX dX6_skipSign_0 rfl ?_
  obtain ⟨b1, g, h⟩ := zb_some h
  refine zw_getr hX zl_X6_13 dX6_skipSign_1 g ?_
  refine zw_aload_n hX dX6_skipSign_4 rfl ?_
  obtain ⟨v2, g, h⟩ := zb_some h
  refine zw_geti hX zl_X6_43 dX6_skipSign_5 g ?_
  obtain ⟨v3, g, h⟩ := zb_some h
  refine zw_xi hX dX6_skipSign_8 g ?_
  refine zw_iload_n hX dX6_skipSign_9 rfl ?_
  refine zw_icmp_ne (tgt := 22) hX dX6_skipSign_10 (by decide) (fun c10 => ?_) (fun c10 => ?_)
  · rw [if_neg c10] at h
    refine zw_iconst (v := (0 : Int32)) hX dX6_skipSign_22 (by decide) ?_
    obtain rfl := Option.some.inj h
    exact zw_iret hX hr dX6_skipSign_23 rfl ⟨rfl, rfl⟩
  · rw [if_pos c10] at h
    refine zw_aload_n hX dX6_skipSign_13 rfl ?_
    obtain ⟨v4, g, h⟩ := zb_some h
    refine zw_geti hX zl_X6_43 dX6_skipSign_14 g ?_
    refine zw_bipush (v := (120 : Int32)) hX dX6_skipSign_17 (by decide) ?_
    refine zw_icmp_lt (tgt := 24) hX dX6_skipSign_19 (by decide) (fun c19 => ?_) (fun c19 => ?_)
    · rw [if_pos c19] at h
      refine zw_aload_n hX dX6_skipSign_24 rfl ?_
      refine zw_dup hX dX6_skipSign_25 rfl ?_
      obtain ⟨v5, g, h⟩ := zb_some h
      refine zw_geti hX zl_X6_43 dX6_skipSign_26 g ?_
      refine zw_iconst (v := (1 : Int32)) hX dX6_skipSign_29 (by decide) ?_
      refine zw_iadd hX dX6_skipSign_30 ?_
      obtain ⟨S6, g, h⟩ := zb_some h
      refine zw_putv hX zl_X6_43 zt_6_5 dX6_skipSign_31 rfl rfl g ?_
      refine zw_iconst (v := (1 : Int32)) hX dX6_skipSign_34 (by decide) ?_
      obtain rfl := Option.some.inj h
      exact zw_iret hX hr dX6_skipSign_35 rfl ⟨rfl, rfl⟩
    · rw [if_neg c19] at h
      refine zw_iconst (v := (0 : Int32)) hX dX6_skipSign_22 (by decide) ?_
      obtain rfl := Option.some.inj h
      exact zw_iret hX hr dX6_skipSign_23 rfl ⟨rfl, rfl⟩
set_option maxHeartbeats 4000000 in
set_option maxRecDepth 100000 in
theorem zt_X6_readFactor {l : Launch} {V : zm_V} {K : Nat → Int32 → zm_S → Option (Int32 × zm_S)} {dk : Nat} (hK : ∀ {d : Nat}, dk ≤ d → ∀ {k0 : Nat} {k1 : Int32} {S : zm_S} {out : Int32 × zm_S}, K k0 k1 S = some out → zm_Met l zk_E V yX6_readSide (.code yX6_readSide cX6_readSide 4 (some .boolean)) d [.ref k0, .int k1] S 0 0 (zo_i out) zo_x) {N : Nat} {S : zm_S} {out : (Int32 × zm_S)} {d : Nat} {a0 : Nat} {i1 : Int32} (hd : 2 ≤ d ∧ dk + 1 ≤ d) (h : zf_X6_readFactor N K a0 i1 S = some out) : zm_Met l zk_E V yX6_readFactor (.code yX6_readFactor cX6_readFactor 2 (some .boolean)) d [.ref a0, .int i1] S 0 0 (zo_i out) zo_x := by
  refine zm_of (by decide +kernel) (Nat.le_of_ble_eq_true rfl) ?_
  intro p e R s m args below meth c hRR hX hr hxt
  have hR : R.frames = d ∧ R.locals = 64 * d := by rw [hRR]; exact ⟨rfl, rfl⟩
  have hX : zm_X p R s m args meth c RX6 "readFactor" cX6_readFactor 2 zk_E V 0 0 := hX
  unfold zf_X6_readFactor at h
  refine zw_sub (lv' := [(0, .ref a0), (1, .int i1)]) (List.forall_mem_cons.mpr ⟨rfl, (List.forall_mem_cons.mpr ⟨rfl, zs_nil⟩)⟩) ?_
  refine zw_aload_n hX dX6_readFactor_0 rfl ?_
  refine zw_bipush (v := (48 : Int32)) hX dX6_readFactor_1 (by decide) ?_
  obtain ⟨_, gi, h⟩ := zb_some h
  obtain ⟨r2, g, h⟩ := zb_some h
  refine zc_Vi (as := [.int (48 : Int32)]) hX gi (zt_X6_skipSign (d := d - 1) (by omega) g) zl_X6_56 rfl dX6_readFactor_3 ⟨rfl, rfl, Nat.le_of_ble_eq_true rfl⟩ ⟨by omega, by omega⟩ ?_
  refine zw_if_ne (tgt := 18) hX dX6_readFactor_6 (by decide) (fun c6 => ?_) (fun c6 => ?_)
  · rw [if_neg c6] at h
    refine zw_iconst (v := (1 : Int32)) hX dX6_readFactor_18 (by decide) ?_
    obtain rfl := Option.some.inj h
    exact zw_iret hX hr dX6_readFactor_19 rfl ⟨rfl, rfl⟩
  · rw [if_pos c6] at h
    refine zw_aload_n hX dX6_readFactor_9 rfl ?_
    refine zw_bipush (v := (97 : Int32)) hX dX6_readFactor_10 (by decide) ?_
    obtain ⟨_, gi, h⟩ := zb_some h
    obtain ⟨r4, g, h⟩ := zb_some h
    refine zc_Vi (as := [.int (97 : Int32)]) hX gi (zt_X6_skipSign (d := d - 1) (by omega) g) zl_X6_56 rfl dX6_readFactor_12 ⟨rfl, rfl, Nat.le_of_ble_eq_true rfl⟩ ⟨by omega, by omega⟩ ?_
    refine zw_if_eq (tgt := 20) hX dX6_readFactor_15 (by decide) (fun c15 => ?_) (fun c15 => ?_)
    · rw [if_pos c15] at h
      refine zw_iload_n hX dX6_readFactor_20 rfl ?_
      refine zw_bipush (v := (8 : Int32)) hX dX6_readFactor_21 (by decide) ?_
      refine zw_icmp_ge (tgt := 58) hX dX6_readFactor_23 (by decide) (fun c23 => ?_) (fun c23 => ?_)
      · rw [if_pos c23] at h
        refine zw_iconst (v := (0 : Int32)) hX dX6_readFactor_58 (by decide) ?_
        obtain rfl := Option.some.inj h
        exact zw_iret hX hr dX6_readFactor_59 rfl ⟨rfl, rfl⟩
      · rw [if_neg c23] at h
        refine zw_aload_n hX dX6_readFactor_26 rfl ?_
        refine zw_bipush (v := (40 : Int32)) hX dX6_readFactor_27 (by decide) ?_
        obtain ⟨_, gi, h⟩ := zb_some h
        obtain ⟨r6, g, h⟩ := zb_some h
        refine zc_Vi (as := [.int (40 : Int32)]) hX gi (zt_X6_skipSign (d := d - 1) (by omega) g) zl_X6_56 rfl dX6_readFactor_29 ⟨rfl, rfl, Nat.le_of_ble_eq_true rfl⟩ ⟨by omega, by omega⟩ ?_
        refine zw_if_eq (tgt := 58) hX dX6_readFactor_32 (by decide) (fun c32 => ?_) (fun c32 => ?_)
        · rw [if_pos c32] at h
          refine zw_iconst (v := (0 : Int32)) hX dX6_readFactor_58 (by decide) ?_
          obtain rfl := Option.some.inj h
          exact zw_iret hX hr dX6_readFactor_59 rfl ⟨rfl, rfl⟩
        · rw [if_neg c32] at h
          refine zw_aload_n hX dX6_readFactor_35 rfl ?_
          refine zw_iload_n hX dX6_readFactor_36 rfl ?_
          refine zw_iconst (v := (1 : Int32)) hX dX6_readFactor_37 (by decide) ?_
          refine zw_iadd hX dX6_readFactor_38 ?_
          obtain ⟨_, gi, h⟩ := zb_some h
          obtain ⟨r8, g, h⟩ := zb_some h
          refine zc_Vi (as := [.int (i1 + (1 : Int32))]) hX gi (hK (d := d - 1) (by omega) g) zl_X6_92 rfl dX6_readFactor_39 ⟨rfl, rfl, Nat.le_of_ble_eq_true rfl⟩ ⟨by omega, by omega⟩ ?_
          refine zw_if_eq (tgt := 58) hX dX6_readFactor_42 (by decide) (fun c42 => ?_) (fun c42 => ?_)
          · rw [if_pos c42] at h
            refine zw_iconst (v := (0 : Int32)) hX dX6_readFactor_58 (by decide) ?_
            obtain rfl := Option.some.inj h
            exact zw_iret hX hr dX6_readFactor_59 rfl ⟨rfl, rfl⟩
          · rw [if_neg c42] at h
            refine zw_aload_n hX dX6_readFactor_45 rfl ?_
            refine zw_bipush (v := (41 : Int32)) hX dX6_readFactor_46 (by decide) ?_
            obtain ⟨_, gi, h⟩ := zb_some h
            obtain ⟨r10, g, h⟩ := zb_some h
            refine zc_Vi (as := [.int (41 : Int32)]) hX gi (zt_X6_skipSign (d := d - 1) (by omega) g) zl_X6_56 rfl dX6_readFactor_48 ⟨rfl, rfl, Nat.le_of_ble_eq_true rfl⟩ ⟨by omega, by omega⟩ ?_
            refine zw_if_eq (tgt := 58) hX dX6_readFactor_51 (by decide) (fun c51 => ?_) (fun c51 => ?_)
            · rw [if_pos c51] at h
              refine zw_iconst (v := (0 : Int32)) hX dX6_readFactor_58 (by decide) ?_
              obtain rfl := Option.some.inj h
              exact zw_iret hX hr dX6_readFactor_59 rfl ⟨rfl, rfl⟩
            · rw [if_neg c51] at h
              refine zw_iconst (v := (1 : Int32)) hX dX6_readFactor_54 (by decide) ?_
              refine zw_goto (tgt := 59) hX dX6_readFactor_55 (by decide) ?_
              obtain rfl := Option.some.inj h
              exact zw_iret hX hr dX6_readFactor_59 rfl ⟨rfl, rfl⟩
    · rw [if_neg c15] at h
      refine zw_iconst (v := (1 : Int32)) hX dX6_readFactor_18 (by decide) ?_
      obtain rfl := Option.some.inj h
      exact zw_iret hX hr dX6_readFactor_19 rfl ⟨rfl, rfl⟩
set_option maxHeartbeats 4000000 in
set_option maxRecDepth 100000 in
theorem zt_X6_readTerm_J36 {p : Program} {l : Launch} {e : Env} {R : Room} {s : State} {m : MethodId} {args : Array Value} {below : List Frame} {meth : Method} {c : Code} {V : zm_V} {mc ms d rc rs : Nat} {K : Nat → Int32 → zm_S → Option (Int32 × zm_S)} {dk : Nat} (hK : ∀ {d : Nat}, dk ≤ d → ∀ {k0 : Nat} {k1 : Int32} {S : zm_S} {out : Int32 × zm_S}, K k0 k1 S = some out → zm_Met l zk_E V yX6_readSide (.code yX6_readSide cX6_readSide 4 (some .boolean)) d [.ref k0, .int k1] S 0 0 (zo_i out) zo_x) (hX : zm_X p R s m args meth c RX6 "readTerm" cX6_readTerm 4 zk_E V mc ms) (hr : meth.sig.returnType = (some .boolean)) (hR : R.frames = d ∧ R.locals = 64 * d) (hd : 3 ≤ d ∧ dk + 2 ≤ d) {N : Nat} {k : Nat → Int32 → Int32 → Int32 → zm_S → Option ((Int32 × zm_S) ⊕ ((Int32) × zm_S))} {a0 : Nat} {i1 : Int32} {i3 : Int32} {res : (Int32 × zm_S) ⊕ ((Int32) × zm_S)} {out : (Int32 × zm_S)}   (hf : ∀ o, res = .inl o → o = out) (hk : ∀ (x2 : Int32) (S' : zm_S), res = .inr (x2, S') → zw p l e R s m args below meth c (vx_MQ below (zm_Qc zk_E V (zo_i out)) (zm_XC zk_E V zo_x) args s mc ms (fun q => V.2.2.2.1 ≤ q)) 4 zk_E V mc ms 48 [(2, .int x2)] [] S' rc rs) (hrec : ∀ (i2' : Int32) (i3' : Int32) (S : zm_S), k a0 i1 i2' i3' S = some res → zw p l e R s m args below meth c (vx_MQ below (zm_Qc zk_E V (zo_i out)) (zm_XC zk_E V zo_x) args s mc ms (fun q => V.2.2.2.1 ≤ q)) 4 zk_E V mc ms 8 [(0, .ref a0), (1, .int i1), (2, .int i2'), (3, .int i3')] [] S rc rs) {S : zm_S} (h : zf_X6_readTerm_J36 N K k a0 i1 i3 S = some res) : zw p l e R s m args below meth c (vx_MQ below (zm_Qc zk_E V (zo_i out)) (zm_XC zk_E V zo_x) args s mc ms (fun q => V.2.2.2.1 ≤ q)) 4 zk_E V mc ms 36 [(0, .ref a0), (1, .int i1), (3, .int i3)] [] S rc rs := by
  unfold zf_X6_readTerm_J36 at h
  refine zw_aload_n hX dX6_readTerm_36 rfl ?_
  refine zw_iload_n hX dX6_readTerm_37 rfl ?_
  obtain ⟨_, gi, h⟩ := zb_some h
  obtain ⟨r6, g, h⟩ := zb_some h
  refine zc_Vi (as := [.int i1]) hX gi (zt_X6_readFactor hK (d := d - 1) (by omega) g) zl_X6_101 rfl dX6_readTerm_38 ⟨rfl, rfl, Nat.le_of_ble_eq_true rfl⟩ ⟨by omega, by omega⟩ ?_
  refine zw_istore_n hX dX6_readTerm_41 (by decide) ?_
  refine zw_iinc (v := (i3 + (1 : Int32))) hX dX6_readTerm_42 rfl rfl (by decide) ?_
  refine zw_goto (tgt := 8) hX dX6_readTerm_45 (by decide) ?_
  refine zw_sub (lv' := [(0, .ref a0), (1, .int i1), (2, .int r6.1), (3, .int (i3 + (1 : Int32)))]) (List.forall_mem_cons.mpr ⟨rfl, (List.forall_mem_cons.mpr ⟨rfl, (List.forall_mem_cons.mpr ⟨rfl, (List.forall_mem_cons.mpr ⟨rfl, zs_nil⟩)⟩)⟩)⟩) ?_
  exact hrec _ _ _ h
set_option maxHeartbeats 4000000 in
set_option maxRecDepth 100000 in
theorem zt_X6_readTerm_L8 {p : Program} {l : Launch} {e : Env} {R : Room} {s : State} {m : MethodId} {args : Array Value} {below : List Frame} {meth : Method} {c : Code} {V : zm_V} {mc ms d rc rs : Nat} {K : Nat → Int32 → zm_S → Option (Int32 × zm_S)} {dk : Nat} (hK : ∀ {d : Nat}, dk ≤ d → ∀ {k0 : Nat} {k1 : Int32} {S : zm_S} {out : Int32 × zm_S}, K k0 k1 S = some out → zm_Met l zk_E V yX6_readSide (.code yX6_readSide cX6_readSide 4 (some .boolean)) d [.ref k0, .int k1] S 0 0 (zo_i out) zo_x) (hX : zm_X p R s m args meth c RX6 "readTerm" cX6_readTerm 4 zk_E V mc ms) (hr : meth.sig.returnType = (some .boolean)) (hR : R.frames = d ∧ R.locals = 64 * d) (hd : 3 ≤ d ∧ dk + 2 ≤ d) {N : Nat} {res : (Int32 × zm_S) ⊕ ((Int32) × zm_S)} {out : (Int32 × zm_S)} (a0 : Nat) (i1 : Int32) (hf : ∀ o, res = .inl o → o = out) (hk : ∀ (x2 : Int32) (S' : zm_S), res = .inr (x2, S') → zw p l e R s m args below meth c (vx_MQ below (zm_Qc zk_E V (zo_i out)) (zm_XC zk_E V zo_x) args s mc ms (fun q => V.2.2.2.1 ≤ q)) 4 zk_E V mc ms 48 [(2, .int x2)] [] S' rc rs) : ∀ (n : Nat) (i2 : Int32) (i3 : Int32) (S : zm_S), zf_X6_readTerm_L8 N K n a0 i1 i2 i3 S = some res → zw p l e R s m args below meth c (vx_MQ below (zm_Qc zk_E V (zo_i out)) (zm_XC zk_E V zo_x) args s mc ms (fun q => V.2.2.2.1 ≤ q)) 4 zk_E V mc ms 8 [(0, .ref a0), (1, .int i1), (2, .int i2), (3, .int i3)] [] S rc rs := by
  intro n
  induction n with
  | zero => intro i2 i3 S h; cases h
  | succ n ih =>
    intro i2 i3 S h
    rw [zf_X6_readTerm_L8] at h
    refine zw_iload_n hX dX6_readTerm_8 rfl ?_
    refine zw_bipush (v := (120 : Int32)) hX dX6_readTerm_9 (by decide) ?_
    refine zw_icmp_ge (tgt := 48) hX dX6_readTerm_11 (by decide) (fun c11 => ?_) (fun c11 => ?_)
    · rw [if_pos c11] at h
      refine zw_sub (lv' := [(2, .int i2)]) (List.forall_mem_cons.mpr ⟨rfl, zs_nil⟩) ?_
      exact hk _ _ (Option.some.inj h).symm
    · rw [if_neg c11] at h
      refine zw_iload_n hX dX6_readTerm_14 rfl ?_
      refine zw_if_eq (tgt := 48) hX dX6_readTerm_15 (by decide) (fun c15 => ?_) (fun c15 => ?_)
      · rw [if_pos c15] at h
        refine zw_sub (lv' := [(2, .int i2)]) (List.forall_mem_cons.mpr ⟨rfl, zs_nil⟩) ?_
        exact hk _ _ (Option.some.inj h).symm
      · rw [if_neg c15] at h
        refine zw_aload_n hX dX6_readTerm_18 rfl ?_
        refine zw_bipush (v := (42 : Int32)) hX dX6_readTerm_19 (by decide) ?_
        obtain ⟨_, gi, h⟩ := zb_some h
        obtain ⟨r4, g, h⟩ := zb_some h
        refine zc_Vi (as := [.int (42 : Int32)]) hX gi (zt_X6_skipSign (d := d - 1) (by omega) g) zl_X6_56 rfl dX6_readTerm_21 ⟨rfl, rfl, Nat.le_of_ble_eq_true rfl⟩ ⟨by omega, by omega⟩ ?_
        refine zw_if_ne (tgt := 36) hX dX6_readTerm_24 (by decide) (fun c24 => ?_) (fun c24 => ?_)
        · rw [if_neg c24] at h
          refine zw_sub (lv' := [(0, .ref a0), (1, .int i1), (3, .int i3)]) (List.forall_mem_cons.mpr ⟨rfl, (List.forall_mem_cons.mpr ⟨rfl, (List.forall_mem_cons.mpr ⟨rfl, zs_nil⟩)⟩)⟩) ?_
          exact zt_X6_readTerm_J36 hK hX hr hR hd hf hk ih h
        · rw [if_pos c24] at h
          refine zw_aload_n hX dX6_readTerm_27 rfl ?_
          refine zw_bipush (v := (47 : Int32)) hX dX6_readTerm_28 (by decide) ?_
          obtain ⟨_, gi, h⟩ := zb_some h
          obtain ⟨r8, g, h⟩ := zb_some h
          refine zc_Vi (as := [.int (47 : Int32)]) hX gi (zt_X6_skipSign (d := d - 1) (by omega) g) zl_X6_56 rfl dX6_readTerm_30 ⟨rfl, rfl, Nat.le_of_ble_eq_true rfl⟩ ⟨by omega, by omega⟩ ?_
          refine zw_if_eq (tgt := 48) hX dX6_readTerm_33 (by decide) (fun c33 => ?_) (fun c33 => ?_)
          · rw [if_pos c33] at h
            refine zw_sub (lv' := [(2, .int i2)]) (List.forall_mem_cons.mpr ⟨rfl, zs_nil⟩) ?_
            exact hk _ _ (Option.some.inj h).symm
          · rw [if_neg c33] at h
            refine zw_sub (lv' := [(0, .ref a0), (1, .int i1), (3, .int i3)]) (List.forall_mem_cons.mpr ⟨rfl, (List.forall_mem_cons.mpr ⟨rfl, (List.forall_mem_cons.mpr ⟨rfl, zs_nil⟩)⟩)⟩) ?_
            exact zt_X6_readTerm_J36 hK hX hr hR hd hf hk ih h
set_option maxHeartbeats 4000000 in
set_option maxRecDepth 100000 in
theorem zt_X6_readTerm {l : Launch} {V : zm_V} {K : Nat → Int32 → zm_S → Option (Int32 × zm_S)} {dk : Nat} (hK : ∀ {d : Nat}, dk ≤ d → ∀ {k0 : Nat} {k1 : Int32} {S : zm_S} {out : Int32 × zm_S}, K k0 k1 S = some out → zm_Met l zk_E V yX6_readSide (.code yX6_readSide cX6_readSide 4 (some .boolean)) d [.ref k0, .int k1] S 0 0 (zo_i out) zo_x) {N : Nat} {S : zm_S} {out : (Int32 × zm_S)} {d : Nat} {a0 : Nat} {i1 : Int32} (hd : 3 ≤ d ∧ dk + 2 ≤ d) (h : zf_X6_readTerm N K a0 i1 S = some out) : zm_Met l zk_E V yX6_readTerm (.code yX6_readTerm cX6_readTerm 4 (some .boolean)) d [.ref a0, .int i1] S 0 0 (zo_i out) zo_x := by
  refine zm_of (by decide +kernel) (Nat.le_of_ble_eq_true rfl) ?_
  intro p e R s m args below meth c hRR hX hr hxt
  have hR : R.frames = d ∧ R.locals = 64 * d := by rw [hRR]; exact ⟨rfl, rfl⟩
  have hX : zm_X p R s m args meth c RX6 "readTerm" cX6_readTerm 4 zk_E V 0 0 := hX
  unfold zf_X6_readTerm at h
  refine zw_sub (lv' := [(0, .ref a0), (1, .int i1)]) (List.forall_mem_cons.mpr ⟨rfl, (List.forall_mem_cons.mpr ⟨rfl, zs_nil⟩)⟩) ?_
  refine zw_aload_n hX dX6_readTerm_0 rfl ?_
  refine zw_iload_n hX dX6_readTerm_1 rfl ?_
  obtain ⟨_, gi, h⟩ := zb_some h
  obtain ⟨r2, g, h⟩ := zb_some h
  refine zc_Vi (as := [.int i1]) hX gi (zt_X6_readFactor hK (d := d - 1) (by omega) g) zl_X6_101 rfl dX6_readTerm_2 ⟨rfl, rfl, Nat.le_of_ble_eq_true rfl⟩ ⟨by omega, by omega⟩ ?_
  refine zw_istore_n hX dX6_readTerm_5 (by decide) ?_
  refine zw_iconst (v := (0 : Int32)) hX dX6_readTerm_6 (by decide) ?_
  refine zw_istore_n hX dX6_readTerm_7 (by decide) ?_
  obtain ⟨r, g, h⟩ := zb_some h
  refine zw_sub (lv' := [(0, .ref a0), (1, .int i1), (2, .int r2.1), (3, .int (0 : Int32))]) (List.forall_mem_cons.mpr ⟨rfl, (List.forall_mem_cons.mpr ⟨rfl, (List.forall_mem_cons.mpr ⟨rfl, (List.forall_mem_cons.mpr ⟨rfl, zs_nil⟩)⟩)⟩)⟩) ?_
  refine zt_X6_readTerm_L8 hK hX hr hR hd (res := r) (out := out) a0 i1 ?_ ?_ N _ _ _ g
  · intro o ho
    subst ho
    exact Option.some.inj h
  · intro v10 S9 hx
    subst hx
    try dsimp only at h
    refine zw_iload_n hX dX6_readTerm_48 rfl ?_
    by_cases cz : v10 = 0 ∨ v10 = 1
    · rw [if_pos cz] at h
      obtain rfl := Option.some.inj h
      exact zw_iret hX hr dX6_readTerm_49 (zn_z cz) ⟨rfl, rfl⟩
    · rw [if_neg cz] at h
      cases h
set_option maxHeartbeats 4000000 in
set_option maxRecDepth 100000 in
theorem zt_X6_readSide_B_J43 {p : Program} {l : Launch} {e : Env} {R : Room} {s : State} {m : MethodId} {args : Array Value} {below : List Frame} {meth : Method} {c : Code} {V : zm_V} {mc ms d rc rs : Nat} {K : Nat → Int32 → zm_S → Option (Int32 × zm_S)} {dk : Nat} (hK : ∀ {d : Nat}, dk ≤ d → ∀ {k0 : Nat} {k1 : Int32} {S : zm_S} {out : Int32 × zm_S}, K k0 k1 S = some out → zm_Met l zk_E V yX6_readSide (.code yX6_readSide cX6_readSide 4 (some .boolean)) d [.ref k0, .int k1] S 0 0 (zo_i out) zo_x) (hX : zm_X p R s m args meth c RX6 "readSide" cX6_readSide 4 zk_E V mc ms) (hr : meth.sig.returnType = (some .boolean)) (hR : R.frames = d ∧ R.locals = 64 * d) (hd : 4 ≤ d ∧ dk + 3 ≤ d) {N : Nat} {k : Nat → Int32 → Int32 → Int32 → zm_S → Option ((Int32 × zm_S) ⊕ ((Int32) × zm_S))} {a0 : Nat} {i1 : Int32} {i3 : Int32} {res : (Int32 × zm_S) ⊕ ((Int32) × zm_S)} {out : (Int32 × zm_S)}   (hf : ∀ o, res = .inl o → o = out) (hk : ∀ (x2 : Int32) (S' : zm_S), res = .inr (x2, S') → zw p l e R s m args below meth c (vx_MQ below (zm_Qc zk_E V (zo_i out)) (zm_XC zk_E V zo_x) args s mc ms (fun q => V.2.2.2.1 ≤ q)) 4 zk_E V mc ms 55 [(2, .int x2)] [] S' rc rs) (hrec : ∀ (i2' : Int32) (i3' : Int32) (S : zm_S), k a0 i1 i2' i3' S = some res → zw p l e R s m args below meth c (vx_MQ below (zm_Qc zk_E V (zo_i out)) (zm_XC zk_E V zo_x) args s mc ms (fun q => V.2.2.2.1 ≤ q)) 4 zk_E V mc ms 15 [(0, .ref a0), (1, .int i1), (2, .int i2'), (3, .int i3')] [] S rc rs) {S : zm_S} (h : zf_X6_readSide_B_J43 N K k a0 i1 i3 S = some res) : zw p l e R s m args below meth c (vx_MQ below (zm_Qc zk_E V (zo_i out)) (zm_XC zk_E V zo_x) args s mc ms (fun q => V.2.2.2.1 ≤ q)) 4 zk_E V mc ms 43 [(0, .ref a0), (1, .int i1), (3, .int i3)] [] S rc rs := by
  unfold zf_X6_readSide_B_J43 at h
  refine zw_aload_n hX dX6_readSide_43 rfl ?_
  refine zw_iload_n hX dX6_readSide_44 rfl ?_
  obtain ⟨_, gi, h⟩ := zb_some h
  obtain ⟨r8, g, h⟩ := zb_some h
  refine zc_Vi (as := [.int i1]) hX gi (zt_X6_readTerm hK (d := d - 1) (by omega) g) zl_X6_98 rfl dX6_readSide_45 ⟨rfl, rfl, Nat.le_of_ble_eq_true rfl⟩ ⟨by omega, by omega⟩ ?_
  refine zw_istore_n hX dX6_readSide_48 (by decide) ?_
  refine zw_iinc (v := (i3 + (1 : Int32))) hX dX6_readSide_49 rfl rfl (by decide) ?_
  refine zw_goto (tgt := 15) hX dX6_readSide_52 (by decide) ?_
  refine zw_sub (lv' := [(0, .ref a0), (1, .int i1), (2, .int r8.1), (3, .int (i3 + (1 : Int32)))]) (List.forall_mem_cons.mpr ⟨rfl, (List.forall_mem_cons.mpr ⟨rfl, (List.forall_mem_cons.mpr ⟨rfl, (List.forall_mem_cons.mpr ⟨rfl, zs_nil⟩)⟩)⟩)⟩) ?_
  exact hrec _ _ _ h
set_option maxHeartbeats 4000000 in
set_option maxRecDepth 100000 in
theorem zt_X6_readSide_B_L15 {p : Program} {l : Launch} {e : Env} {R : Room} {s : State} {m : MethodId} {args : Array Value} {below : List Frame} {meth : Method} {c : Code} {V : zm_V} {mc ms d rc rs : Nat} {K : Nat → Int32 → zm_S → Option (Int32 × zm_S)} {dk : Nat} (hK : ∀ {d : Nat}, dk ≤ d → ∀ {k0 : Nat} {k1 : Int32} {S : zm_S} {out : Int32 × zm_S}, K k0 k1 S = some out → zm_Met l zk_E V yX6_readSide (.code yX6_readSide cX6_readSide 4 (some .boolean)) d [.ref k0, .int k1] S 0 0 (zo_i out) zo_x) (hX : zm_X p R s m args meth c RX6 "readSide" cX6_readSide 4 zk_E V mc ms) (hr : meth.sig.returnType = (some .boolean)) (hR : R.frames = d ∧ R.locals = 64 * d) (hd : 4 ≤ d ∧ dk + 3 ≤ d) {N : Nat} {res : (Int32 × zm_S) ⊕ ((Int32) × zm_S)} {out : (Int32 × zm_S)} (a0 : Nat) (i1 : Int32) (hf : ∀ o, res = .inl o → o = out) (hk : ∀ (x2 : Int32) (S' : zm_S), res = .inr (x2, S') → zw p l e R s m args below meth c (vx_MQ below (zm_Qc zk_E V (zo_i out)) (zm_XC zk_E V zo_x) args s mc ms (fun q => V.2.2.2.1 ≤ q)) 4 zk_E V mc ms 55 [(2, .int x2)] [] S' rc rs) : ∀ (n : Nat) (i2 : Int32) (i3 : Int32) (S : zm_S), zf_X6_readSide_B_L15 N K n a0 i1 i2 i3 S = some res → zw p l e R s m args below meth c (vx_MQ below (zm_Qc zk_E V (zo_i out)) (zm_XC zk_E V zo_x) args s mc ms (fun q => V.2.2.2.1 ≤ q)) 4 zk_E V mc ms 15 [(0, .ref a0), (1, .int i1), (2, .int i2), (3, .int i3)] [] S rc rs := by
  intro n
  induction n with
  | zero => intro i2 i3 S h; cases h
  | succ n ih =>
    intro i2 i3 S h
    rw [zf_X6_readSide_B_L15] at h
    refine zw_iload_n hX dX6_readSide_15 rfl ?_
    refine zw_bipush (v := (120 : Int32)) hX dX6_readSide_16 (by decide) ?_
    refine zw_icmp_ge (tgt := 55) hX dX6_readSide_18 (by decide) (fun c18 => ?_) (fun c18 => ?_)
    · rw [if_pos c18] at h
      refine zw_sub (lv' := [(2, .int i2)]) (List.forall_mem_cons.mpr ⟨rfl, zs_nil⟩) ?_
      exact hk _ _ (Option.some.inj h).symm
    · rw [if_neg c18] at h
      refine zw_iload_n hX dX6_readSide_21 rfl ?_
      refine zw_if_eq (tgt := 55) hX dX6_readSide_22 (by decide) (fun c22 => ?_) (fun c22 => ?_)
      · rw [if_pos c22] at h
        refine zw_sub (lv' := [(2, .int i2)]) (List.forall_mem_cons.mpr ⟨rfl, zs_nil⟩) ?_
        exact hk _ _ (Option.some.inj h).symm
      · rw [if_neg c22] at h
        refine zw_aload_n hX dX6_readSide_25 rfl ?_
        refine zw_bipush (v := (43 : Int32)) hX dX6_readSide_26 (by decide) ?_
        obtain ⟨_, gi, h⟩ := zb_some h
        obtain ⟨r6, g, h⟩ := zb_some h
        refine zc_Vi (as := [.int (43 : Int32)]) hX gi (zt_X6_skipSign (d := d - 1) (by omega) g) zl_X6_56 rfl dX6_readSide_28 ⟨rfl, rfl, Nat.le_of_ble_eq_true rfl⟩ ⟨by omega, by omega⟩ ?_
        refine zw_if_ne (tgt := 43) hX dX6_readSide_31 (by decide) (fun c31 => ?_) (fun c31 => ?_)
        · rw [if_neg c31] at h
          refine zw_sub (lv' := [(0, .ref a0), (1, .int i1), (3, .int i3)]) (List.forall_mem_cons.mpr ⟨rfl, (List.forall_mem_cons.mpr ⟨rfl, (List.forall_mem_cons.mpr ⟨rfl, zs_nil⟩)⟩)⟩) ?_
          exact zt_X6_readSide_B_J43 hK hX hr hR hd hf hk ih h
        · rw [if_pos c31] at h
          refine zw_aload_n hX dX6_readSide_34 rfl ?_
          refine zw_bipush (v := (45 : Int32)) hX dX6_readSide_35 (by decide) ?_
          obtain ⟨_, gi, h⟩ := zb_some h
          obtain ⟨r10, g, h⟩ := zb_some h
          refine zc_Vi (as := [.int (45 : Int32)]) hX gi (zt_X6_skipSign (d := d - 1) (by omega) g) zl_X6_56 rfl dX6_readSide_37 ⟨rfl, rfl, Nat.le_of_ble_eq_true rfl⟩ ⟨by omega, by omega⟩ ?_
          refine zw_if_eq (tgt := 55) hX dX6_readSide_40 (by decide) (fun c40 => ?_) (fun c40 => ?_)
          · rw [if_pos c40] at h
            refine zw_sub (lv' := [(2, .int i2)]) (List.forall_mem_cons.mpr ⟨rfl, zs_nil⟩) ?_
            exact hk _ _ (Option.some.inj h).symm
          · rw [if_neg c40] at h
            refine zw_sub (lv' := [(0, .ref a0), (1, .int i1), (3, .int i3)]) (List.forall_mem_cons.mpr ⟨rfl, (List.forall_mem_cons.mpr ⟨rfl, (List.forall_mem_cons.mpr ⟨rfl, zs_nil⟩)⟩)⟩) ?_
            exact zt_X6_readSide_B_J43 hK hX hr hR hd hf hk ih h
set_option maxHeartbeats 4000000 in
set_option maxRecDepth 100000 in
theorem zt_X6_readSide_B {l : Launch} {V : zm_V} {K : Nat → Int32 → zm_S → Option (Int32 × zm_S)} {dk : Nat} (hK : ∀ {d : Nat}, dk ≤ d → ∀ {k0 : Nat} {k1 : Int32} {S : zm_S} {out : Int32 × zm_S}, K k0 k1 S = some out → zm_Met l zk_E V yX6_readSide (.code yX6_readSide cX6_readSide 4 (some .boolean)) d [.ref k0, .int k1] S 0 0 (zo_i out) zo_x) {N : Nat} {S : zm_S} {out : (Int32 × zm_S)} {d : Nat} {a0 : Nat} {i1 : Int32} (hd : 4 ≤ d ∧ dk + 3 ≤ d) (h : zf_X6_readSide_B N K a0 i1 S = some out) : zm_Met l zk_E V yX6_readSide (.code yX6_readSide cX6_readSide 4 (some .boolean)) d [.ref a0, .int i1] S 0 0 (zo_i out) zo_x := by
  refine zm_of (by decide +kernel) (Nat.le_of_ble_eq_true rfl) ?_
  intro p e R s m args below meth c hRR hX hr hxt
  have hR : R.frames = d ∧ R.locals = 64 * d := by rw [hRR]; exact ⟨rfl, rfl⟩
  have hX : zm_X p R s m args meth c RX6 "readSide" cX6_readSide 4 zk_E V 0 0 := hX
  unfold zf_X6_readSide_B at h
  refine zw_sub (lv' := [(0, .ref a0), (1, .int i1)]) (List.forall_mem_cons.mpr ⟨rfl, (List.forall_mem_cons.mpr ⟨rfl, zs_nil⟩)⟩) ?_
  refine zw_aload_n hX dX6_readSide_0 rfl ?_
  refine zw_bipush (v := (45 : Int32)) hX dX6_readSide_1 (by decide) ?_
  obtain ⟨_, gi, h⟩ := zb_some h
  obtain ⟨r2, g, h⟩ := zb_some h
  refine zc_Vi (as := [.int (45 : Int32)]) hX gi (zt_X6_skipSign (d := d - 1) (by omega) g) zl_X6_56 rfl dX6_readSide_3 ⟨rfl, rfl, Nat.le_of_ble_eq_true rfl⟩ ⟨by omega, by omega⟩ ?_
  refine zw_pop hX dX6_readSide_6 rfl ?_
  refine zw_aload_n hX dX6_readSide_7 rfl ?_
  refine zw_iload_n hX dX6_readSide_8 rfl ?_
  obtain ⟨_, gi, h⟩ := zb_some h
  obtain ⟨r4, g, h⟩ := zb_some h
  refine zc_Vi (as := [.int i1]) hX gi (zt_X6_readTerm hK (d := d - 1) (by omega) g) zl_X6_98 rfl dX6_readSide_9 ⟨rfl, rfl, Nat.le_of_ble_eq_true rfl⟩ ⟨by omega, by omega⟩ ?_
  refine zw_istore_n hX dX6_readSide_12 (by decide) ?_
  refine zw_iconst (v := (0 : Int32)) hX dX6_readSide_13 (by decide) ?_
  refine zw_istore_n hX dX6_readSide_14 (by decide) ?_
  obtain ⟨r, g, h⟩ := zb_some h
  refine zw_sub (lv' := [(0, .ref a0), (1, .int i1), (2, .int r4.1), (3, .int (0 : Int32))]) (List.forall_mem_cons.mpr ⟨rfl, (List.forall_mem_cons.mpr ⟨rfl, (List.forall_mem_cons.mpr ⟨rfl, (List.forall_mem_cons.mpr ⟨rfl, zs_nil⟩)⟩)⟩)⟩) ?_
  refine zt_X6_readSide_B_L15 hK hX hr hR hd (res := r) (out := out) a0 i1 ?_ ?_ N _ _ _ g
  · intro o ho
    subst ho
    exact Option.some.inj h
  · intro v12 S11 hx
    subst hx
    try dsimp only at h
    refine zw_iload_n hX dX6_readSide_55 rfl ?_
    by_cases cz : v12 = 0 ∨ v12 = 1
    · rw [if_pos cz] at h
      obtain rfl := Option.some.inj h
      exact zw_iret hX hr dX6_readSide_56 (zn_z cz) ⟨rfl, rfl⟩
    · rw [if_neg cz] at h
      cases h
set_option maxHeartbeats 4000000 in
set_option maxRecDepth 100000 in
theorem zu_X6_readSide {l : Launch} {V : zm_V} {N : Nat} : ∀ (n : Nat) {d : Nat}, 4 + 3 * n ≤ d → ∀ {a0 : Nat} {i1 : Int32} {S : zm_S} {out : (Int32 × zm_S)}, zr_X6_readSide N n a0 i1 S = some out → zm_Met l zk_E V yX6_readSide (.code yX6_readSide cX6_readSide 4 (some .boolean)) d [.ref a0, .int i1] S 0 0 (zo_i out) zo_x := by
  intro n
  induction n with
  | zero => intro d _ a0 i1 S out h; cases h
  | succ n ih =>
    intro d hd a0 i1 S out h
    rw [zr_X6_readSide] at h
    exact zt_X6_readSide_B (dk := 4 + 3 * n) (fun {_} h1 => ih h1) ⟨by omega, by omega⟩ h
set_option maxHeartbeats 4000000 in
set_option maxRecDepth 100000 in
theorem zt_X6_readSide {l : Launch} {V : zm_V} {N : Nat} {S : zm_S} {out : (Int32 × zm_S)} {d : Nat} {a0 : Nat} {i1 : Int32} (hd : 40 ≤ d) (h : zf_X6_readSide N a0 i1 S = some out) : zm_Met l zk_E V yX6_readSide (.code yX6_readSide cX6_readSide 4 (some .boolean)) d [.ref a0, .int i1] S 0 0 (zo_i out) zo_x := zu_X6_readSide 12 (by omega) h
set_option maxHeartbeats 4000000 in
set_option maxRecDepth 100000 in
theorem zt_X6_skipCompareSign {l : Launch} {V : zm_V} {N : Nat} {S : zm_S} {out : (Int32 × zm_S)} {d : Nat} {a0 : Nat} (hd : 2 ≤ d) (h : zf_X6_skipCompareSign N a0 S = some out) : zm_Met l zk_E V yX6_skipCompareSign (.code yX6_skipCompareSign cX6_skipCompareSign 1 (some .boolean)) d [.ref a0] S 0 0 (zo_i out) zo_x := by
  refine zm_of (by decide +kernel) (Nat.le_of_ble_eq_true rfl) ?_
  intro p e R s m args below meth c hRR hX hr hxt
  have hR : R.frames = d ∧ R.locals = 64 * d := by rw [hRR]; exact ⟨rfl, rfl⟩
  have hX : zm_X p R s m args meth c RX6 "skipCompareSign" cX6_skipCompareSign 1 zk_E V 0 0 := hX
  unfold zf_X6_skipCompareSign at h
  refine zw_sub (lv' := [(0, .ref a0)]) (List.forall_mem_cons.mpr ⟨rfl, zs_nil⟩) ?_
  refine zw_aload_n hX dX6_skipCompareSign_0 rfl ?_
  refine zw_bipush (v := (60 : Int32)) hX dX6_skipCompareSign_1 (by decide) ?_
  obtain ⟨_, gi, h⟩ := zb_some h
  obtain ⟨r2, g, h⟩ := zb_some h
  refine zc_Vi (as := [.int (60 : Int32)]) hX gi (zt_X6_skipSign (d := d - 1) (by omega) g) zl_X6_56 rfl dX6_skipCompareSign_3 ⟨rfl, rfl, Nat.le_of_ble_eq_true rfl⟩ ⟨by omega, by omega⟩ ?_
  refine zw_if_ne (tgt := 45) hX dX6_skipCompareSign_6 (by decide) (fun c6 => ?_) (fun c6 => ?_)
  · rw [if_neg c6] at h
    refine zw_iconst (v := (1 : Int32)) hX dX6_skipCompareSign_45 (by decide) ?_
    refine zw_goto (tgt := 50) hX dX6_skipCompareSign_46 (by decide) ?_
    obtain rfl := Option.some.inj h
    exact zw_iret hX hr dX6_skipCompareSign_50 rfl ⟨rfl, rfl⟩
  · rw [if_pos c6] at h
    refine zw_aload_n hX dX6_skipCompareSign_9 rfl ?_
    refine zw_bipush (v := (108 : Int32)) hX dX6_skipCompareSign_10 (by decide) ?_
    obtain ⟨_, gi, h⟩ := zb_some h
    obtain ⟨r4, g, h⟩ := zb_some h
    refine zc_Vi (as := [.int (108 : Int32)]) hX gi (zt_X6_skipSign (d := d - 1) (by omega) g) zl_X6_56 rfl dX6_skipCompareSign_12 ⟨rfl, rfl, Nat.le_of_ble_eq_true rfl⟩ ⟨by omega, by omega⟩ ?_
    refine zw_if_ne (tgt := 45) hX dX6_skipCompareSign_15 (by decide) (fun c15 => ?_) (fun c15 => ?_)
    · rw [if_neg c15] at h
      refine zw_iconst (v := (1 : Int32)) hX dX6_skipCompareSign_45 (by decide) ?_
      refine zw_goto (tgt := 50) hX dX6_skipCompareSign_46 (by decide) ?_
      obtain rfl := Option.some.inj h
      exact zw_iret hX hr dX6_skipCompareSign_50 rfl ⟨rfl, rfl⟩
    · rw [if_pos c15] at h
      refine zw_aload_n hX dX6_skipCompareSign_18 rfl ?_
      refine zw_bipush (v := (61 : Int32)) hX dX6_skipCompareSign_19 (by decide) ?_
      obtain ⟨_, gi, h⟩ := zb_some h
      obtain ⟨r6, g, h⟩ := zb_some h
      refine zc_Vi (as := [.int (61 : Int32)]) hX gi (zt_X6_skipSign (d := d - 1) (by omega) g) zl_X6_56 rfl dX6_skipCompareSign_21 ⟨rfl, rfl, Nat.le_of_ble_eq_true rfl⟩ ⟨by omega, by omega⟩ ?_
      refine zw_if_ne (tgt := 45) hX dX6_skipCompareSign_24 (by decide) (fun c24 => ?_) (fun c24 => ?_)
      · rw [if_neg c24] at h
        refine zw_iconst (v := (1 : Int32)) hX dX6_skipCompareSign_45 (by decide) ?_
        refine zw_goto (tgt := 50) hX dX6_skipCompareSign_46 (by decide) ?_
        obtain rfl := Option.some.inj h
        exact zw_iret hX hr dX6_skipCompareSign_50 rfl ⟨rfl, rfl⟩
      · rw [if_pos c24] at h
        refine zw_aload_n hX dX6_skipCompareSign_27 rfl ?_
        refine zw_bipush (v := (103 : Int32)) hX dX6_skipCompareSign_28 (by decide) ?_
        obtain ⟨_, gi, h⟩ := zb_some h
        obtain ⟨r8, g, h⟩ := zb_some h
        refine zc_Vi (as := [.int (103 : Int32)]) hX gi (zt_X6_skipSign (d := d - 1) (by omega) g) zl_X6_56 rfl dX6_skipCompareSign_30 ⟨rfl, rfl, Nat.le_of_ble_eq_true rfl⟩ ⟨by omega, by omega⟩ ?_
        refine zw_if_ne (tgt := 45) hX dX6_skipCompareSign_33 (by decide) (fun c33 => ?_) (fun c33 => ?_)
        · rw [if_neg c33] at h
          refine zw_iconst (v := (1 : Int32)) hX dX6_skipCompareSign_45 (by decide) ?_
          refine zw_goto (tgt := 50) hX dX6_skipCompareSign_46 (by decide) ?_
          obtain rfl := Option.some.inj h
          exact zw_iret hX hr dX6_skipCompareSign_50 rfl ⟨rfl, rfl⟩
        · rw [if_pos c33] at h
          refine zw_aload_n hX dX6_skipCompareSign_36 rfl ?_
          refine zw_bipush (v := (62 : Int32)) hX dX6_skipCompareSign_37 (by decide) ?_
          obtain ⟨_, gi, h⟩ := zb_some h
          obtain ⟨r10, g, h⟩ := zb_some h
          refine zc_Vi (as := [.int (62 : Int32)]) hX gi (zt_X6_skipSign (d := d - 1) (by omega) g) zl_X6_56 rfl dX6_skipCompareSign_39 ⟨rfl, rfl, Nat.le_of_ble_eq_true rfl⟩ ⟨by omega, by omega⟩ ?_
          refine zw_if_eq (tgt := 49) hX dX6_skipCompareSign_42 (by decide) (fun c42 => ?_) (fun c42 => ?_)
          · rw [if_pos c42] at h
            refine zw_iconst (v := (0 : Int32)) hX dX6_skipCompareSign_49 (by decide) ?_
            obtain rfl := Option.some.inj h
            exact zw_iret hX hr dX6_skipCompareSign_50 rfl ⟨rfl, rfl⟩
          · rw [if_neg c42] at h
            refine zw_iconst (v := (1 : Int32)) hX dX6_skipCompareSign_45 (by decide) ?_
            refine zw_goto (tgt := 50) hX dX6_skipCompareSign_46 (by decide) ?_
            obtain rfl := Option.some.inj h
            exact zw_iret hX hr dX6_skipCompareSign_50 rfl ⟨rfl, rfl⟩
set_option maxHeartbeats 4000000 in
set_option maxRecDepth 100000 in
theorem zt_X6_readClause {l : Launch} {V : zm_V} {N : Nat} {S : zm_S} {out : (Int32 × zm_S)} {d : Nat} {a0 : Nat} (hd : 41 ≤ d) (h : zf_X6_readClause N a0 S = some out) : zm_Met l zk_E V yX6_readClause (.code yX6_readClause cX6_readClause 1 (some .boolean)) d [.ref a0] S 0 0 (zo_i out) zo_x := by
  refine zm_of (by decide +kernel) (Nat.le_of_ble_eq_true rfl) ?_
  intro p e R s m args below meth c hRR hX hr hxt
  have hR : R.frames = d ∧ R.locals = 64 * d := by rw [hRR]; exact ⟨rfl, rfl⟩
  have hX : zm_X p R s m args meth c RX6 "readClause" cX6_readClause 1 zk_E V 0 0 := hX
  unfold zf_X6_readClause at h
  refine zw_sub (lv' := [(0, .ref a0)]) (List.forall_mem_cons.mpr ⟨rfl, zs_nil⟩) ?_
  refine zw_aload_n hX dX6_readClause_0 rfl ?_
  refine zw_iconst (v := (0 : Int32)) hX dX6_readClause_1 (by decide) ?_
  obtain ⟨_, gi, h⟩ := zb_some h
  obtain ⟨r2, g, h⟩ := zb_some h
  refine zc_Vi (as := [.int (0 : Int32)]) hX gi (zt_X6_readSide (d := d - 1) (by omega) g) zl_X6_92 rfl dX6_readClause_2 ⟨rfl, rfl, Nat.le_of_ble_eq_true rfl⟩ ⟨by omega, by omega⟩ ?_
  refine zw_if_eq (tgt := 27) hX dX6_readClause_5 (by decide) (fun c5 => ?_) (fun c5 => ?_)
  · rw [if_pos c5] at h
    refine zw_iconst (v := (0 : Int32)) hX dX6_readClause_27 (by decide) ?_
    obtain rfl := Option.some.inj h
    exact zw_iret hX hr dX6_readClause_28 rfl ⟨rfl, rfl⟩
  · rw [if_neg c5] at h
    refine zw_aload_n hX dX6_readClause_8 rfl ?_
    obtain ⟨_, gi, h⟩ := zb_some h
    obtain ⟨r4, g, h⟩ := zb_some h
    refine zc_Vi (as := []) hX gi (zt_X6_skipCompareSign (d := d - 1) (by omega) g) zl_X6_95 rfl dX6_readClause_9 ⟨rfl, rfl, Nat.le_of_ble_eq_true rfl⟩ ⟨by omega, by omega⟩ ?_
    refine zw_if_eq (tgt := 27) hX dX6_readClause_12 (by decide) (fun c12 => ?_) (fun c12 => ?_)
    · rw [if_pos c12] at h
      refine zw_iconst (v := (0 : Int32)) hX dX6_readClause_27 (by decide) ?_
      obtain rfl := Option.some.inj h
      exact zw_iret hX hr dX6_readClause_28 rfl ⟨rfl, rfl⟩
    · rw [if_neg c12] at h
      refine zw_aload_n hX dX6_readClause_15 rfl ?_
      refine zw_iconst (v := (0 : Int32)) hX dX6_readClause_16 (by decide) ?_
      obtain ⟨_, gi, h⟩ := zb_some h
      obtain ⟨r6, g, h⟩ := zb_some h
      refine zc_Vi (as := [.int (0 : Int32)]) hX gi (zt_X6_readSide (d := d - 1) (by omega) g) zl_X6_92 rfl dX6_readClause_17 ⟨rfl, rfl, Nat.le_of_ble_eq_true rfl⟩ ⟨by omega, by omega⟩ ?_
      refine zw_if_eq (tgt := 27) hX dX6_readClause_20 (by decide) (fun c20 => ?_) (fun c20 => ?_)
      · rw [if_pos c20] at h
        refine zw_iconst (v := (0 : Int32)) hX dX6_readClause_27 (by decide) ?_
        obtain rfl := Option.some.inj h
        exact zw_iret hX hr dX6_readClause_28 rfl ⟨rfl, rfl⟩
      · rw [if_neg c20] at h
        refine zw_iconst (v := (1 : Int32)) hX dX6_readClause_23 (by decide) ?_
        refine zw_goto (tgt := 28) hX dX6_readClause_24 (by decide) ?_
        obtain rfl := Option.some.inj h
        exact zw_iret hX hr dX6_readClause_28 rfl ⟨rfl, rfl⟩
set_option maxHeartbeats 4000000 in
set_option maxRecDepth 100000 in
theorem zt_X6_readRule_L113 {p : Program} {l : Launch} {e : Env} {R : Room} {s : State} {m : MethodId} {args : Array Value} {below : List Frame} {meth : Method} {c : Code} {V : zm_V} {mc ms d rc rs : Nat} (hX : zm_X p R s m args meth c RX6 "readRule" cX6_readRule 2 zk_E V mc ms) (hr : meth.sig.returnType = (some .boolean)) (hR : R.frames = d ∧ R.locals = 64 * d) (hd : 42 ≤ d) {N : Nat} {res : (Int32 × zm_S) ⊕ ((Unit) × zm_S)} {out : (Int32 × zm_S)} (a0 : Nat) (hf : ∀ o, res = .inl o → o = out) (hk : ∀ (S' : zm_S), res = .inr ((), S') → zw p l e R s m args below meth c (vx_MQ below (zm_Qc zk_E V (zo_i out)) (zm_XC zk_E V zo_x) args s mc ms (fun q => V.2.2.2.1 ≤ q)) 2 zk_E V mc ms 143 [(0, .ref a0)] [] S' rc rs) : ∀ (n : Nat) (i1 : Int32) (S : zm_S), zf_X6_readRule_L113 N n a0 i1 S = some res → zw p l e R s m args below meth c (vx_MQ below (zm_Qc zk_E V (zo_i out)) (zm_XC zk_E V zo_x) args s mc ms (fun q => V.2.2.2.1 ≤ q)) 2 zk_E V mc ms 113 [(0, .ref a0), (1, .int i1)] [] S rc rs := by
  intro n
  induction n with
  | zero => intro i1 S h; cases h
  | succ n ih =>
    intro i1 S h
    rw [zf_X6_readRule_L113] at h
    refine zw_iload_n hX dX6_readRule_113 rfl ?_
    refine zw_bipush (v := (120 : Int32)) hX dX6_readRule_114 (by decide) ?_
    refine zw_icmp_ge (tgt := 143) hX dX6_readRule_116 (by decide) (fun c116 => ?_) (fun c116 => ?_)
    · rw [if_pos c116] at h
      refine zw_sub (lv' := [(0, .ref a0)]) (List.forall_mem_cons.mpr ⟨rfl, zs_nil⟩) ?_
      exact hk  _ (Option.some.inj h).symm
    · rw [if_neg c116] at h
      refine zw_aload_n hX dX6_readRule_119 rfl ?_
      refine zw_bipush (v := (33 : Int32)) hX dX6_readRule_120 (by decide) ?_
      obtain ⟨_, gi, h⟩ := zb_some h
      obtain ⟨r30, g, h⟩ := zb_some h
      refine zc_Vi (as := [.int (33 : Int32)]) hX gi (zt_X6_skipSign (d := d - 1) (by omega) g) zl_X6_56 rfl dX6_readRule_122 ⟨rfl, rfl, Nat.le_of_ble_eq_true rfl⟩ ⟨by omega, by omega⟩ ?_
      refine zw_if_eq (tgt := 143) hX dX6_readRule_125 (by decide) (fun c125 => ?_) (fun c125 => ?_)
      · rw [if_pos c125] at h
        refine zw_sub (lv' := [(0, .ref a0)]) (List.forall_mem_cons.mpr ⟨rfl, zs_nil⟩) ?_
        exact hk  _ (Option.some.inj h).symm
      · rw [if_neg c125] at h
        refine zw_aload_n hX dX6_readRule_128 rfl ?_
        obtain ⟨_, gi, h⟩ := zb_some h
        obtain ⟨r32, g, h⟩ := zb_some h
        refine zc_Vi (as := []) hX gi (zt_X6_readClause (d := d - 1) (by omega) g) zl_X6_89 rfl dX6_readRule_129 ⟨rfl, rfl, Nat.le_of_ble_eq_true rfl⟩ ⟨by omega, by omega⟩ ?_
        refine zw_if_ne (tgt := 137) hX dX6_readRule_132 (by decide) (fun c132 => ?_) (fun c132 => ?_)
        · rw [if_neg c132] at h
          refine zw_iinc (v := (i1 + (1 : Int32))) hX dX6_readRule_137 rfl rfl (by decide) ?_
          refine zw_goto (tgt := 113) hX dX6_readRule_140 (by decide) ?_
          refine zw_sub (lv' := [(0, .ref a0), (1, .int (i1 + (1 : Int32)))]) (List.forall_mem_cons.mpr ⟨rfl, (List.forall_mem_cons.mpr ⟨rfl, zs_nil⟩)⟩) ?_
          exact ih _ _ h
        · rw [if_pos c132] at h
          refine zw_iconst (v := (0 : Int32)) hX dX6_readRule_135 (by decide) ?_
          have hz := hf _ (Option.some.inj h).symm
          subst hz
          exact zw_iret hX hr dX6_readRule_136 rfl ⟨rfl, rfl⟩
set_option maxHeartbeats 4000000 in
set_option maxRecDepth 100000 in
theorem zt_X6_readRule_J182 {p : Program} {l : Launch} {e : Env} {R : Room} {s : State} {m : MethodId} {args : Array Value} {below : List Frame} {meth : Method} {c : Code} {V : zm_V} {mc ms d rc rs : Nat} (hX : zm_X p R s m args meth c RX6 "readRule" cX6_readRule 2 zk_E V mc ms) (hr : meth.sig.returnType = (some .boolean)) (hR : R.frames = d ∧ R.locals = 64 * d) (hd : 42 ≤ d) {N : Nat} {a0 : Nat} {out : (Int32 × zm_S)} {S : zm_S} (h : zf_X6_readRule_J182 N a0 S = some out) : zw p l e R s m args below meth c (vx_MQ below (zm_Qc zk_E V (zo_i out)) (zm_XC zk_E V zo_x) args s mc ms (fun q => V.2.2.2.1 ≤ q)) 2 zk_E V mc ms 182 [(0, .ref a0)] [] S rc rs := by
  unfold zf_X6_readRule_J182 at h
  refine zw_aload_n hX dX6_readRule_182 rfl ?_
  refine zw_dup hX dX6_readRule_183 rfl ?_
  obtain ⟨v36, g, h⟩ := zb_some h
  refine zw_geti hX zl_X6_49 dX6_readRule_184 g ?_
  refine zw_iconst (v := (1 : Int32)) hX dX6_readRule_187 (by decide) ?_
  refine zw_iadd hX dX6_readRule_188 ?_
  obtain ⟨S37, g, h⟩ := zb_some h
  refine zw_putv hX zl_X6_49 zt_6_6 dX6_readRule_189 rfl rfl g ?_
  refine zw_iconst (v := (1 : Int32)) hX dX6_readRule_192 (by decide) ?_
  obtain rfl := Option.some.inj h
  exact zw_iret hX hr dX6_readRule_193 rfl ⟨rfl, rfl⟩
set_option maxHeartbeats 4000000 in
set_option maxRecDepth 100000 in
theorem zt_X6_readRule_J143 {p : Program} {l : Launch} {e : Env} {R : Room} {s : State} {m : MethodId} {args : Array Value} {below : List Frame} {meth : Method} {c : Code} {V : zm_V} {mc ms d rc rs : Nat} (hX : zm_X p R s m args meth c RX6 "readRule" cX6_readRule 2 zk_E V mc ms) (hr : meth.sig.returnType = (some .boolean)) (hR : R.frames = d ∧ R.locals = 64 * d) (hd : 42 ≤ d) {N : Nat} {a0 : Nat} {out : (Int32 × zm_S)} {S : zm_S} (h : zf_X6_readRule_J143 N a0 S = some out) : zw p l e R s m args below meth c (vx_MQ below (zm_Qc zk_E V (zo_i out)) (zm_XC zk_E V zo_x) args s mc ms (fun q => V.2.2.2.1 ≤ q)) 2 zk_E V mc ms 143 [(0, .ref a0)] [] S rc rs := by
  unfold zf_X6_readRule_J143 at h
  refine zw_aload_n hX dX6_readRule_143 rfl ?_
  refine zw_bipush (v := (64 : Int32)) hX dX6_readRule_144 (by decide) ?_
  obtain ⟨_, gi, h⟩ := zb_some h
  obtain ⟨r35, g, h⟩ := zb_some h
  refine zc_Vi (as := [.int (64 : Int32)]) hX gi (zt_X6_skipSign (d := d - 1) (by omega) g) zl_X6_56 rfl dX6_readRule_146 ⟨rfl, rfl, Nat.le_of_ble_eq_true rfl⟩ ⟨by omega, by omega⟩ ?_
  refine zw_if_eq (tgt := 182) hX dX6_readRule_149 (by decide) (fun c149 => ?_) (fun c149 => ?_)
  · rw [if_pos c149] at h
    refine zw_sub (lv' := [(0, .ref a0)]) (List.forall_mem_cons.mpr ⟨rfl, zs_nil⟩) ?_
    exact zt_X6_readRule_J182 hX hr hR hd h
  · rw [if_neg c149] at h
    refine zw_aload_n hX dX6_readRule_152 rfl ?_
    obtain ⟨b38, g, h⟩ := zb_some h
    refine zw_getr hX zl_X6_30 dX6_readRule_153 g ?_
    refine zw_aload_n hX dX6_readRule_156 rfl ?_
    obtain ⟨v39, g, h⟩ := zb_some h
    refine zw_geti hX zl_X6_49 dX6_readRule_157 g ?_
    refine zw_aload_n hX dX6_readRule_160 rfl ?_
    obtain ⟨b40, g, h⟩ := zb_some h
    refine zw_getr hX zl_X6_17 dX6_readRule_161 g ?_
    refine zw_aload_n hX dX6_readRule_164 rfl ?_
    obtain ⟨v41, g, h⟩ := zb_some h
    refine zw_geti hX zl_X6_43 dX6_readRule_165 g ?_
    obtain ⟨w42, g, h⟩ := zb_some h
    refine zw_xl hX dX6_readRule_168 g ?_
    refine zw_l2i hX dX6_readRule_169 ?_
    obtain ⟨S43, g, h⟩ := zb_some h
    refine zw_si hX dX6_readRule_170 g ?_
    refine zw_aload_n hX dX6_readRule_171 rfl ?_
    refine zw_bipush (v := (48 : Int32)) hX dX6_readRule_172 (by decide) ?_
    obtain ⟨_, gi, h⟩ := zb_some h
    obtain ⟨r45, g, h⟩ := zb_some h
    refine zc_Vi (as := [.int (48 : Int32)]) hX gi (zt_X6_skipSign (d := d - 1) (by omega) g) zl_X6_56 rfl dX6_readRule_174 ⟨rfl, rfl, Nat.le_of_ble_eq_true rfl⟩ ⟨by omega, by omega⟩ ?_
    refine zw_if_ne (tgt := 182) hX dX6_readRule_177 (by decide) (fun c177 => ?_) (fun c177 => ?_)
    · rw [if_neg c177] at h
      refine zw_sub (lv' := [(0, .ref a0)]) (List.forall_mem_cons.mpr ⟨rfl, zs_nil⟩) ?_
      exact zt_X6_readRule_J182 hX hr hR hd h
    · rw [if_pos c177] at h
      refine zw_iconst (v := (0 : Int32)) hX dX6_readRule_180 (by decide) ?_
      obtain rfl := Option.some.inj h
      exact zw_iret hX hr dX6_readRule_181 rfl ⟨rfl, rfl⟩
set_option maxHeartbeats 4000000 in
set_option maxRecDepth 100000 in
theorem zt_X6_readRule {l : Launch} {V : zm_V} {N : Nat} {S : zm_S} {out : (Int32 × zm_S)} {d : Nat} {a0 : Nat} (hd : 42 ≤ d) (h : zf_X6_readRule N a0 S = some out) : zm_Met l zk_E V yX6_readRule (.code yX6_readRule cX6_readRule 2 (some .boolean)) d [.ref a0] S 0 0 (zo_i out) zo_x := by
  refine zm_of (by decide +kernel) (Nat.le_of_ble_eq_true rfl) ?_
  intro p e R s m args below meth c hRR hX hr hxt
  have hR : R.frames = d ∧ R.locals = 64 * d := by rw [hRR]; exact ⟨rfl, rfl⟩
  have hX : zm_X p R s m args meth c RX6 "readRule" cX6_readRule 2 zk_E V 0 0 := hX
  unfold zf_X6_readRule at h
  refine zw_sub (lv' := [(0, .ref a0)]) (List.forall_mem_cons.mpr ⟨rfl, zs_nil⟩) ?_
  refine zw_aload_n hX dX6_readRule_0 rfl ?_
  obtain ⟨b1, g, h⟩ := zb_some h
  refine zw_getr hX zl_X6_13 dX6_readRule_1 g ?_
  refine zw_aload_n hX dX6_readRule_4 rfl ?_
  obtain ⟨v2, g, h⟩ := zb_some h
  refine zw_geti hX zl_X6_43 dX6_readRule_5 g ?_
  obtain ⟨v3, g, h⟩ := zb_some h
  refine zw_xi hX dX6_readRule_8 g ?_
  refine zw_bipush (v := (97 : Int32)) hX dX6_readRule_9 (by decide) ?_
  refine zw_icmp_ne (tgt := 39) hX dX6_readRule_11 (by decide) (fun c11 => ?_) (fun c11 => ?_)
  · rw [if_neg c11] at h
    refine zw_iconst (v := (0 : Int32)) hX dX6_readRule_39 (by decide) ?_
    obtain rfl := Option.some.inj h
    exact zw_iret hX hr dX6_readRule_40 rfl ⟨rfl, rfl⟩
  · rw [if_pos c11] at h
    refine zw_aload_n hX dX6_readRule_14 rfl ?_
    obtain ⟨v4, g, h⟩ := zb_some h
    refine zw_geti hX zl_X6_49 dX6_readRule_15 g ?_
    refine zw_bipush (v := (12 : Int32)) hX dX6_readRule_18 (by decide) ?_
    refine zw_icmp_ge (tgt := 39) hX dX6_readRule_20 (by decide) (fun c20 => ?_) (fun c20 => ?_)
    · rw [if_pos c20] at h
      refine zw_iconst (v := (0 : Int32)) hX dX6_readRule_39 (by decide) ?_
      obtain rfl := Option.some.inj h
      exact zw_iret hX hr dX6_readRule_40 rfl ⟨rfl, rfl⟩
    · rw [if_neg c20] at h
      refine zw_aload_n hX dX6_readRule_23 rfl ?_
      refine zw_aload_n hX dX6_readRule_24 rfl ?_
      obtain ⟨b5, g, h⟩ := zb_some h
      refine zw_getr hX zl_X6_17 dX6_readRule_25 g ?_
      refine zw_aload_n hX dX6_readRule_28 rfl ?_
      obtain ⟨v6, g, h⟩ := zb_some h
      refine zw_geti hX zl_X6_43 dX6_readRule_29 g ?_
      obtain ⟨w7, g, h⟩ := zb_some h
      refine zw_xl hX dX6_readRule_32 g ?_
      obtain ⟨_, gi, h⟩ := zb_some h
      obtain ⟨r9, g, h⟩ := zb_some h
      refine zc_Vi (as := [.long w7]) hX gi (zt_X6_isRuleName (d := d - 1) (by omega) g) zl_X6_85 rfl dX6_readRule_33 ⟨rfl, rfl, Nat.le_of_ble_eq_true rfl⟩ ⟨by omega, by omega⟩ ?_
      refine zw_if_eq (tgt := 41) hX dX6_readRule_36 (by decide) (fun c36 => ?_) (fun c36 => ?_)
      · rw [if_pos c36] at h
        refine zw_aload_n hX dX6_readRule_41 rfl ?_
        obtain ⟨b10, g, h⟩ := zb_some h
        refine zw_getr hX zl_X6_24 dX6_readRule_42 g ?_
        refine zw_aload_n hX dX6_readRule_45 rfl ?_
        obtain ⟨v11, g, h⟩ := zb_some h
        refine zw_geti hX zl_X6_49 dX6_readRule_46 g ?_
        refine zw_aload_n hX dX6_readRule_49 rfl ?_
        obtain ⟨b12, g, h⟩ := zb_some h
        refine zw_getr hX zl_X6_17 dX6_readRule_50 g ?_
        refine zw_aload_n hX dX6_readRule_53 rfl ?_
        obtain ⟨v13, g, h⟩ := zb_some h
        refine zw_geti hX zl_X6_43 dX6_readRule_54 g ?_
        obtain ⟨w14, g, h⟩ := zb_some h
        refine zw_xl hX dX6_readRule_57 g ?_
        obtain ⟨S15, g, h⟩ := zb_some h
        refine zw_sl hX dX6_readRule_58 g ?_
        refine zw_aload_n hX dX6_readRule_59 rfl ?_
        refine zw_bipush (v := (97 : Int32)) hX dX6_readRule_60 (by decide) ?_
        obtain ⟨_, gi, h⟩ := zb_some h
        obtain ⟨r17, g, h⟩ := zb_some h
        refine zc_Vi (as := [.int (97 : Int32)]) hX gi (zt_X6_skipSign (d := d - 1) (by omega) g) zl_X6_56 rfl dX6_readRule_62 ⟨rfl, rfl, Nat.le_of_ble_eq_true rfl⟩ ⟨by omega, by omega⟩ ?_
        refine zw_if_eq (tgt := 77) hX dX6_readRule_65 (by decide) (fun c65 => ?_) (fun c65 => ?_)
        · rw [if_pos c65] at h
          refine zw_iconst (v := (0 : Int32)) hX dX6_readRule_77 (by decide) ?_
          obtain rfl := Option.some.inj h
          exact zw_iret hX hr dX6_readRule_78 rfl ⟨rfl, rfl⟩
        · rw [if_neg c65] at h
          refine zw_aload_n hX dX6_readRule_68 rfl ?_
          refine zw_bipush (v := (58 : Int32)) hX dX6_readRule_69 (by decide) ?_
          obtain ⟨_, gi, h⟩ := zb_some h
          obtain ⟨r19, g, h⟩ := zb_some h
          refine zc_Vi (as := [.int (58 : Int32)]) hX gi (zt_X6_skipSign (d := d - 1) (by omega) g) zl_X6_56 rfl dX6_readRule_71 ⟨rfl, rfl, Nat.le_of_ble_eq_true rfl⟩ ⟨by omega, by omega⟩ ?_
          refine zw_if_ne (tgt := 79) hX dX6_readRule_74 (by decide) (fun c74 => ?_) (fun c74 => ?_)
          · rw [if_neg c74] at h
            refine zw_aload_n hX dX6_readRule_79 rfl ?_
            obtain ⟨b20, g, h⟩ := zb_some h
            refine zw_getr hX zl_X6_27 dX6_readRule_80 g ?_
            refine zw_aload_n hX dX6_readRule_83 rfl ?_
            obtain ⟨v21, g, h⟩ := zb_some h
            refine zw_geti hX zl_X6_49 dX6_readRule_84 g ?_
            refine zw_aload_n hX dX6_readRule_87 rfl ?_
            obtain ⟨v22, g, h⟩ := zb_some h
            refine zw_geti hX zl_X6_43 dX6_readRule_88 g ?_
            obtain ⟨S23, g, h⟩ := zb_some h
            refine zw_si hX dX6_readRule_91 g ?_
            refine zw_aload_n hX dX6_readRule_92 rfl ?_
            obtain ⟨b24, g, h⟩ := zb_some h
            refine zw_getr hX zl_X6_30 dX6_readRule_93 g ?_
            refine zw_aload_n hX dX6_readRule_96 rfl ?_
            obtain ⟨v25, g, h⟩ := zb_some h
            refine zw_geti hX zl_X6_49 dX6_readRule_97 g ?_
            refine zw_iconst (v := (0 : Int32)) hX dX6_readRule_100 (by decide) ?_
            obtain ⟨S26, g, h⟩ := zb_some h
            refine zw_si hX dX6_readRule_101 g ?_
            refine zw_aload_n hX dX6_readRule_102 rfl ?_
            obtain ⟨_, gi, h⟩ := zb_some h
            obtain ⟨r28, g, h⟩ := zb_some h
            refine zc_Vi (as := []) hX gi (zt_X6_readClause (d := d - 1) (by omega) g) zl_X6_89 rfl dX6_readRule_103 ⟨rfl, rfl, Nat.le_of_ble_eq_true rfl⟩ ⟨by omega, by omega⟩ ?_
            refine zw_if_ne (tgt := 111) hX dX6_readRule_106 (by decide) (fun c106 => ?_) (fun c106 => ?_)
            · rw [if_neg c106] at h
              refine zw_iconst (v := (0 : Int32)) hX dX6_readRule_111 (by decide) ?_
              refine zw_istore_n hX dX6_readRule_112 (by decide) ?_
              obtain ⟨r, g, h⟩ := zb_some h
              refine zw_sub (lv' := [(0, .ref a0), (1, .int (0 : Int32))]) (List.forall_mem_cons.mpr ⟨rfl, (List.forall_mem_cons.mpr ⟨rfl, zs_nil⟩)⟩) ?_
              refine zt_X6_readRule_L113 hX hr hR hd (res := r) (out := out) a0 ?_ ?_ N _ _ g
              · intro o ho
                subst ho
                exact Option.some.inj h
              · intro  S33 hx
                subst hx
                try dsimp only at h
                refine zw_sub (lv' := [(0, .ref a0)]) (List.forall_mem_cons.mpr ⟨rfl, zs_nil⟩) ?_
                exact zt_X6_readRule_J143 hX hr hR hd h
            · rw [if_pos c106] at h
              refine zw_iconst (v := (0 : Int32)) hX dX6_readRule_109 (by decide) ?_
              obtain rfl := Option.some.inj h
              exact zw_iret hX hr dX6_readRule_110 rfl ⟨rfl, rfl⟩
          · rw [if_pos c74] at h
            refine zw_iconst (v := (0 : Int32)) hX dX6_readRule_77 (by decide) ?_
            obtain rfl := Option.some.inj h
            exact zw_iret hX hr dX6_readRule_78 rfl ⟨rfl, rfl⟩
      · rw [if_neg c36] at h
        refine zw_iconst (v := (0 : Int32)) hX dX6_readRule_39 (by decide) ?_
        obtain rfl := Option.some.inj h
        exact zw_iret hX hr dX6_readRule_40 rfl ⟨rfl, rfl⟩
set_option maxHeartbeats 4000000 in
set_option maxRecDepth 100000 in
theorem zt_X6_readRules_L16 {p : Program} {l : Launch} {e : Env} {R : Room} {s : State} {m : MethodId} {args : Array Value} {below : List Frame} {meth : Method} {c : Code} {V : zm_V} {mc ms d rc rs : Nat} (hX : zm_X p R s m args meth c RX6 "readRules" cX6_readRules 2 zk_E V mc ms) (hr : meth.sig.returnType = (some .boolean)) (hR : R.frames = d ∧ R.locals = 64 * d) (hd : 43 ≤ d) {N : Nat} {res : (Int32 × zm_S) ⊕ ((Unit) × zm_S)} {out : (Int32 × zm_S)} (a0 : Nat) (hf : ∀ o, res = .inl o → o = out) (hk : ∀ (S' : zm_S), res = .inr ((), S') → zw p l e R s m args below meth c (vx_MQ below (zm_Qc zk_E V (zo_i out)) (zm_XC zk_E V zo_x) args s mc ms (fun q => V.2.2.2.1 ≤ q)) 2 zk_E V mc ms 80 [] [] S' rc rs) : ∀ (n : Nat) (i1 : Int32) (S : zm_S), zf_X6_readRules_L16 N n a0 i1 S = some res → zw p l e R s m args below meth c (vx_MQ below (zm_Qc zk_E V (zo_i out)) (zm_XC zk_E V zo_x) args s mc ms (fun q => V.2.2.2.1 ≤ q)) 2 zk_E V mc ms 16 [(0, .ref a0), (1, .int i1)] [] S rc rs := by
  intro n
  induction n with
  | zero => intro i1 S h; cases h
  | succ n ih =>
    intro i1 S h
    rw [zf_X6_readRules_L16] at h
    refine zw_iload_n hX dX6_readRules_16 rfl ?_
    refine zw_bipush (v := (12 : Int32)) hX dX6_readRules_17 (by decide) ?_
    refine zw_icmp_gt (tgt := 80) hX dX6_readRules_19 (by decide) (fun c19 => ?_) (fun c19 => ?_)
    · rw [if_pos c19] at h
      refine zw_sub (lv' := []) zs_nil ?_
      exact hk  _ (Option.some.inj h).symm
    · rw [if_neg c19] at h
      refine zw_aload_n hX dX6_readRules_22 rfl ?_
      obtain ⟨_, gi, h⟩ := zb_some h
      obtain ⟨r6, g, h⟩ := zb_some h
      refine zc_Vi (as := []) hX gi (zt_X6_readRule (d := d - 1) (by omega) g) zl_X6_52 rfl dX6_readRules_23 ⟨rfl, rfl, Nat.le_of_ble_eq_true rfl⟩ ⟨by omega, by omega⟩ ?_
      refine zw_if_ne (tgt := 31) hX dX6_readRules_26 (by decide) (fun c26 => ?_) (fun c26 => ?_)
      · rw [if_neg c26] at h
        refine zw_aload_n hX dX6_readRules_31 rfl ?_
        obtain ⟨b7, g, h⟩ := zb_some h
        refine zw_getr hX zl_X6_13 dX6_readRules_32 g ?_
        refine zw_aload_n hX dX6_readRules_35 rfl ?_
        obtain ⟨v8, g, h⟩ := zb_some h
        refine zw_geti hX zl_X6_43 dX6_readRules_36 g ?_
        obtain ⟨v9, g, h⟩ := zb_some h
        refine zw_xi hX dX6_readRules_39 g ?_
        refine zw_bipush (v := (101 : Int32)) hX dX6_readRules_40 (by decide) ?_
        refine zw_icmp_ne (tgt := 47) hX dX6_readRules_42 (by decide) (fun c42 => ?_) (fun c42 => ?_)
        · rw [if_neg c42] at h
          refine zw_aload_n hX dX6_readRules_47 rfl ?_
          refine zw_bipush (v := (59 : Int32)) hX dX6_readRules_48 (by decide) ?_
          obtain ⟨_, gi, h⟩ := zb_some h
          obtain ⟨r11, g, h⟩ := zb_some h
          refine zc_Vi (as := [.int (59 : Int32)]) hX gi (zt_X6_skipSign (d := d - 1) (by omega) g) zl_X6_56 rfl dX6_readRules_50 ⟨rfl, rfl, Nat.le_of_ble_eq_true rfl⟩ ⟨by omega, by omega⟩ ?_
          refine zw_if_ne (tgt := 58) hX dX6_readRules_53 (by decide) (fun c53 => ?_) (fun c53 => ?_)
          · rw [if_neg c53] at h
            refine zw_aload_n hX dX6_readRules_58 rfl ?_
            obtain ⟨b12, g, h⟩ := zb_some h
            refine zw_getr hX zl_X6_13 dX6_readRules_59 g ?_
            refine zw_aload_n hX dX6_readRules_62 rfl ?_
            obtain ⟨v13, g, h⟩ := zb_some h
            refine zw_geti hX zl_X6_43 dX6_readRules_63 g ?_
            obtain ⟨v14, g, h⟩ := zb_some h
            refine zw_xi hX dX6_readRules_66 g ?_
            refine zw_bipush (v := (101 : Int32)) hX dX6_readRules_67 (by decide) ?_
            refine zw_icmp_ne (tgt := 74) hX dX6_readRules_69 (by decide) (fun c69 => ?_) (fun c69 => ?_)
            · rw [if_neg c69] at h
              refine zw_iinc (v := (i1 + (1 : Int32))) hX dX6_readRules_74 rfl rfl (by decide) ?_
              refine zw_goto (tgt := 16) hX dX6_readRules_77 (by decide) ?_
              refine zw_sub (lv' := [(0, .ref a0), (1, .int (i1 + (1 : Int32)))]) (List.forall_mem_cons.mpr ⟨rfl, (List.forall_mem_cons.mpr ⟨rfl, zs_nil⟩)⟩) ?_
              exact ih _ _ h
            · rw [if_pos c69] at h
              refine zw_iconst (v := (1 : Int32)) hX dX6_readRules_72 (by decide) ?_
              have hz := hf _ (Option.some.inj h).symm
              subst hz
              exact zw_iret hX hr dX6_readRules_73 rfl ⟨rfl, rfl⟩
          · rw [if_pos c53] at h
            refine zw_iconst (v := (0 : Int32)) hX dX6_readRules_56 (by decide) ?_
            have hz := hf _ (Option.some.inj h).symm
            subst hz
            exact zw_iret hX hr dX6_readRules_57 rfl ⟨rfl, rfl⟩
        · rw [if_pos c42] at h
          refine zw_iconst (v := (1 : Int32)) hX dX6_readRules_45 (by decide) ?_
          have hz := hf _ (Option.some.inj h).symm
          subst hz
          exact zw_iret hX hr dX6_readRules_46 rfl ⟨rfl, rfl⟩
      · rw [if_pos c26] at h
        refine zw_iconst (v := (0 : Int32)) hX dX6_readRules_29 (by decide) ?_
        have hz := hf _ (Option.some.inj h).symm
        subst hz
        exact zw_iret hX hr dX6_readRules_30 rfl ⟨rfl, rfl⟩
set_option maxHeartbeats 4000000 in
set_option maxRecDepth 100000 in
theorem zt_X6_readRules {l : Launch} {V : zm_V} {N : Nat} {S : zm_S} {out : (Int32 × zm_S)} {d : Nat} {a0 : Nat} (hd : 43 ≤ d) (h : zf_X6_readRules N a0 S = some out) : zm_Met l zk_E V yX6_readRules (.code yX6_readRules cX6_readRules 2 (some .boolean)) d [.ref a0] S 0 0 (zo_i out) zo_x := by
  refine zm_of (by decide +kernel) (Nat.le_of_ble_eq_true rfl) ?_
  intro p e R s m args below meth c hRR hX hr hxt
  have hR : R.frames = d ∧ R.locals = 64 * d := by rw [hRR]; exact ⟨rfl, rfl⟩
  have hX : zm_X p R s m args meth c RX6 "readRules" cX6_readRules 2 zk_E V 0 0 := hX
  unfold zf_X6_readRules at h
  refine zw_sub (lv' := [(0, .ref a0)]) (List.forall_mem_cons.mpr ⟨rfl, zs_nil⟩) ?_
  refine zw_aload_n hX dX6_readRules_0 rfl ?_
  obtain ⟨_, gi, h⟩ := zb_some h
  obtain ⟨r2, g, h⟩ := zb_some h
  refine zc_Vv (as := []) hX gi (zt_X6_splitWords (d := d - 1) (by omega) g) zl_X6_46 rfl dX6_readRules_1 ⟨rfl, rfl, Nat.le_of_ble_eq_true rfl⟩ ⟨by omega, by omega⟩ ?_
  refine zw_aload_n hX dX6_readRules_4 rfl ?_
  refine zw_iconst (v := (0 : Int32)) hX dX6_readRules_5 (by decide) ?_
  obtain ⟨S3, g, h⟩ := zb_some h
  refine zw_putv hX zl_X6_43 zt_6_5 dX6_readRules_6 rfl rfl g ?_
  refine zw_aload_n hX dX6_readRules_9 rfl ?_
  refine zw_iconst (v := (0 : Int32)) hX dX6_readRules_10 (by decide) ?_
  obtain ⟨S4, g, h⟩ := zb_some h
  refine zw_putv hX zl_X6_49 zt_6_6 dX6_readRules_11 rfl rfl g ?_
  refine zw_iconst (v := (0 : Int32)) hX dX6_readRules_14 (by decide) ?_
  refine zw_istore_n hX dX6_readRules_15 (by decide) ?_
  obtain ⟨r, g, h⟩ := zb_some h
  refine zw_sub (lv' := [(0, .ref a0), (1, .int (0 : Int32))]) (List.forall_mem_cons.mpr ⟨rfl, (List.forall_mem_cons.mpr ⟨rfl, zs_nil⟩)⟩) ?_
  refine zt_X6_readRules_L16 hX hr hR hd (res := r) (out := out) a0 ?_ ?_ N _ _ g
  · intro o ho
    subst ho
    exact Option.some.inj h
  · intro  S15 hx
    subst hx
    try dsimp only at h
    refine zw_iconst (v := (0 : Int32)) hX dX6_readRules_80 (by decide) ?_
    obtain rfl := Option.some.inj h
    exact zw_iret hX hr dX6_readRules_81 rfl ⟨rfl, rfl⟩
set_option maxHeartbeats 4000000 in
set_option maxRecDepth 100000 in
theorem zt_X7_init {l : Launch} {V : zm_V} {N : Nat} {S : zm_S} {out : (Unit × zm_S)} {d : Nat} {a0 : Nat} (hd : 2 ≤ d) (h : zf_X7_init N a0 S = some out) : zm_Met l zk_E V yX7_init (.code yX7_init cX7_init 1 none) d [.ref a0] S 20 449 (zo_v out) zo_x := by
  refine zm_of (by decide +kernel) (Nat.le_of_ble_eq_true rfl) ?_
  intro p e R s m args below meth c hRR hX hr hxt
  have hR : R.frames = d ∧ R.locals = 64 * d := by rw [hRR]; exact ⟨rfl, rfl⟩
  have hX : zm_X p R s m args meth c RX7 "<init>" cX7_init 1 zk_E V 20 449 := hX
  unfold zf_X7_init at h
  refine zw_sub (lv' := [(0, .ref a0)]) (List.forall_mem_cons.mpr ⟨rfl, zs_nil⟩) ?_
  refine zw_aload_n hX dX7_init_0 rfl ?_
  refine zw_objInit hX zl_X7_3.1 zl_X7_3.2.1 zl_X7_3.2.2 dX7_init_1 (by omega) (by show 0 + 12 ≤ R.locals; omega) ?_
  refine zw_aload_n hX dX7_init_4 rfl ?_
  refine zw_bipush (v := (121 : Int32)) hX dX7_init_5 (by decide) ?_
  obtain ⟨S1, g, h⟩ := zb_some h
  refine zw_ni (b := 121) hX zk_ai dX7_init_7 (by omega) (by omega) (by decide) g ?_
  obtain ⟨S2, g, h⟩ := zb_some h
  refine zw_putvF hX zl_X7_11 zt_7_2 dX7_init_9 rfl rfl g ?_
  refine zw_aload_n hX dX7_init_12 rfl ?_
  refine zw_bipush (v := (121 : Int32)) hX dX7_init_13 (by decide) ?_
  obtain ⟨S3, g, h⟩ := zb_some h
  refine zw_nl (b := 121) hX zk_al dX7_init_15 (by omega) (by omega) (by decide) g ?_
  obtain ⟨S4, g, h⟩ := zb_some h
  refine zw_putvF hX zl_X7_17 zt_7_3 dX7_init_17 rfl rfl g ?_
  refine zw_aload_n hX dX7_init_20 rfl ?_
  refine zw_bipush (v := (12 : Int32)) hX dX7_init_21 (by decide) ?_
  obtain ⟨S5, g, h⟩ := zb_some h
  refine zw_ni (b := 12) hX zk_ai dX7_init_23 (by omega) (by omega) (by decide) g ?_
  obtain ⟨S6, g, h⟩ := zb_some h
  refine zw_putvF hX zl_X7_21 zt_7_4 dX7_init_25 rfl rfl g ?_
  refine zw_aload_n hX dX7_init_28 rfl ?_
  refine zw_bipush (v := (12 : Int32)) hX dX7_init_29 (by decide) ?_
  obtain ⟨S7, g, h⟩ := zb_some h
  refine zw_ni (b := 12) hX zk_ai dX7_init_31 (by omega) (by omega) (by decide) g ?_
  obtain ⟨S8, g, h⟩ := zb_some h
  refine zw_putvF hX zl_X7_24 zt_7_5 dX7_init_33 rfl rfl g ?_
  refine zw_aload_n hX dX7_init_36 rfl ?_
  refine zw_bipush (v := (12 : Int32)) hX dX7_init_37 (by decide) ?_
  refine zw_bipush (v := (7 : Int32)) hX dX7_init_39 (by decide) ?_
  obtain ⟨S9, g, h⟩ := zb_some h
  refine zw_mnao (N := 12) (K := 7) (t1 := 5) (t2 := 1) (ty := .long) hX rfl rfl zl_X7_27 (by decide +kernel) (Or.inr rfl) zk_al dX7_init_41 (fun _ _ => rfl) (by decide) (by decide) rfl rfl (Nat.le_of_ble_eq_true rfl) (Nat.le_of_ble_eq_true rfl) (Nat.le_of_ble_eq_true rfl) rfl rfl (fun _ h => by cases h) (by omega) (by omega) g ?_
  obtain ⟨S10, g, h⟩ := zb_some h
  refine zw_putvF hX zl_X7_29 zt_7_6 dX7_init_45 rfl rfl g ?_
  refine zw_aload_n hX dX7_init_48 rfl ?_
  refine zw_bipush (v := (7 : Int32)) hX dX7_init_49 (by decide) ?_
  obtain ⟨S11, g, h⟩ := zb_some h
  refine zw_nl (b := 7) hX zk_al dX7_init_51 (by omega) (by omega) (by decide) g ?_
  obtain ⟨S12, g, h⟩ := zb_some h
  refine zw_putvF hX zl_X7_32 zt_7_7 dX7_init_53 rfl rfl g ?_
  refine zw_aload_n hX dX7_init_56 rfl ?_
  refine zw_bipush (v := (40 : Int32)) hX dX7_init_57 (by decide) ?_
  obtain ⟨S13, g, h⟩ := zb_some h
  refine zw_nl (b := 40) hX zk_al dX7_init_59 (by omega) (by omega) (by decide) g ?_
  obtain ⟨S14, g, h⟩ := zb_some h
  refine zw_putvF hX zl_X7_35 zt_7_9 dX7_init_61 rfl rfl g ?_
  refine zw_aload_n hX dX7_init_64 rfl ?_
  refine zw_bipush (v := (40 : Int32)) hX dX7_init_65 (by decide) ?_
  obtain ⟨S15, g, h⟩ := zb_some h
  refine zw_ni (b := 40) hX zk_ai dX7_init_67 (by omega) (by omega) (by decide) g ?_
  obtain ⟨S16, g, h⟩ := zb_some h
  refine zw_putvF hX zl_X7_38 zt_7_10 dX7_init_69 rfl rfl g ?_
  obtain rfl := Option.some.inj h
  exact zw_vret hX hr dX7_init_72 ⟨rfl, rfl⟩
set_option maxHeartbeats 4000000 in
set_option maxRecDepth 100000 in
theorem zt_X7_takeRules {l : Launch} {V : zm_V} {N : Nat} {S : zm_S} {out : (Unit × zm_S)} {d : Nat} {a0 : Nat} {a1 : Nat} (hd : 2 ≤ d) (h : zf_X7_takeRules N a0 a1 S = some out) : zm_Met l zk_E V yX7_takeRules (.code yX7_takeRules cX7_takeRules 2 none) d [.ref a0, .ref a1] S 0 0 (zo_v out) zo_x := by
  refine zm_of (by decide +kernel) (Nat.le_of_ble_eq_true rfl) ?_
  intro p e R s m args below meth c hRR hX hr hxt
  have hR : R.frames = d ∧ R.locals = 64 * d := by rw [hRR]; exact ⟨rfl, rfl⟩
  have hX : zm_X p R s m args meth c RX7 "takeRules" cX7_takeRules 2 zk_E V 0 0 := hX
  unfold zf_X7_takeRules at h
  refine zw_sub (lv' := [(0, .ref a0), (1, .ref a1)]) (List.forall_mem_cons.mpr ⟨rfl, (List.forall_mem_cons.mpr ⟨rfl, zs_nil⟩)⟩) ?_
  refine zw_aload_n hX dX7_takeRules_0 rfl ?_
  obtain ⟨b1, g, h⟩ := zb_some h
  refine zw_getNr hX zl_X7_41 dX7_takeRules_1 g ?_
  refine zw_iconst (v := (0 : Int32)) hX dX7_takeRules_4 (by decide) ?_
  refine zw_aload_n hX dX7_takeRules_5 rfl ?_
  obtain ⟨b2, g, h⟩ := zb_some h
  refine zw_getr hX zl_X7_11 dX7_takeRules_6 g ?_
  refine zw_iconst (v := (0 : Int32)) hX dX7_takeRules_9 (by decide) ?_
  refine zw_aload_n hX dX7_takeRules_10 rfl ?_
  obtain ⟨b3, g, h⟩ := zb_some h
  refine zw_getr hX zl_X7_11 dX7_takeRules_11 g ?_
  obtain ⟨v4, g, h⟩ := zb_some h
  refine zw_len hX dX7_takeRules_14 g ?_
  obtain ⟨S5, g, h⟩ := zb_some h
  refine zw_cp hX zl_X7_42 dX7_takeRules_15 (Nat.le_of_ble_eq_true rfl) ⟨by omega, by omega⟩ g ?_
  refine zw_aload_n hX dX7_takeRules_18 rfl ?_
  obtain ⟨b6, g, h⟩ := zb_some h
  refine zw_getNr hX zl_X7_48 dX7_takeRules_19 g ?_
  refine zw_iconst (v := (0 : Int32)) hX dX7_takeRules_22 (by decide) ?_
  refine zw_aload_n hX dX7_takeRules_23 rfl ?_
  obtain ⟨b7, g, h⟩ := zb_some h
  refine zw_getr hX zl_X7_17 dX7_takeRules_24 g ?_
  refine zw_iconst (v := (0 : Int32)) hX dX7_takeRules_27 (by decide) ?_
  refine zw_aload_n hX dX7_takeRules_28 rfl ?_
  obtain ⟨b8, g, h⟩ := zb_some h
  refine zw_getr hX zl_X7_17 dX7_takeRules_29 g ?_
  obtain ⟨v9, g, h⟩ := zb_some h
  refine zw_len hX dX7_takeRules_32 g ?_
  obtain ⟨S10, g, h⟩ := zb_some h
  refine zw_cp hX zl_X7_42 dX7_takeRules_33 (Nat.le_of_ble_eq_true rfl) ⟨by omega, by omega⟩ g ?_
  refine zw_aload_n hX dX7_takeRules_36 rfl ?_
  obtain ⟨b11, g, h⟩ := zb_some h
  refine zw_getNr hX zl_X7_49 dX7_takeRules_37 g ?_
  refine zw_iconst (v := (0 : Int32)) hX dX7_takeRules_40 (by decide) ?_
  refine zw_aload_n hX dX7_takeRules_41 rfl ?_
  obtain ⟨b12, g, h⟩ := zb_some h
  refine zw_getr hX zl_X7_21 dX7_takeRules_42 g ?_
  refine zw_iconst (v := (0 : Int32)) hX dX7_takeRules_45 (by decide) ?_
  refine zw_aload_n hX dX7_takeRules_46 rfl ?_
  obtain ⟨b13, g, h⟩ := zb_some h
  refine zw_getr hX zl_X7_21 dX7_takeRules_47 g ?_
  obtain ⟨v14, g, h⟩ := zb_some h
  refine zw_len hX dX7_takeRules_50 g ?_
  obtain ⟨S15, g, h⟩ := zb_some h
  refine zw_cp hX zl_X7_42 dX7_takeRules_51 (Nat.le_of_ble_eq_true rfl) ⟨by omega, by omega⟩ g ?_
  refine zw_aload_n hX dX7_takeRules_54 rfl ?_
  obtain ⟨b16, g, h⟩ := zb_some h
  refine zw_getNr hX zl_X7_50 dX7_takeRules_55 g ?_
  refine zw_iconst (v := (0 : Int32)) hX dX7_takeRules_58 (by decide) ?_
  refine zw_aload_n hX dX7_takeRules_59 rfl ?_
  obtain ⟨b17, g, h⟩ := zb_some h
  refine zw_getr hX zl_X7_24 dX7_takeRules_60 g ?_
  refine zw_iconst (v := (0 : Int32)) hX dX7_takeRules_63 (by decide) ?_
  refine zw_aload_n hX dX7_takeRules_64 rfl ?_
  obtain ⟨b18, g, h⟩ := zb_some h
  refine zw_getr hX zl_X7_24 dX7_takeRules_65 g ?_
  obtain ⟨v19, g, h⟩ := zb_some h
  refine zw_len hX dX7_takeRules_68 g ?_
  obtain ⟨S20, g, h⟩ := zb_some h
  refine zw_cp hX zl_X7_42 dX7_takeRules_69 (Nat.le_of_ble_eq_true rfl) ⟨by omega, by omega⟩ g ?_
  refine zw_aload_n hX dX7_takeRules_72 rfl ?_
  refine zw_aload_n hX dX7_takeRules_73 rfl ?_
  obtain ⟨v21, g, h⟩ := zb_some h
  refine zw_getNi hX zl_X7_51 dX7_takeRules_74 g ?_
  obtain ⟨S22, g, h⟩ := zb_some h
  refine zw_putv hX zl_X7_55 zt_7_0 dX7_takeRules_77 rfl rfl g ?_
  refine zw_aload_n hX dX7_takeRules_80 rfl ?_
  refine zw_iconst (v := (0 : Int32)) hX dX7_takeRules_81 (by decide) ?_
  obtain ⟨S23, g, h⟩ := zb_some h
  refine zw_putv hX zl_X7_56 zt_7_1 dX7_takeRules_82 rfl (by decide) g ?_
  obtain rfl := Option.some.inj h
  exact zw_vret hX hr dX7_takeRules_85 ⟨rfl, rfl⟩
set_option maxHeartbeats 4000000 in
set_option maxRecDepth 100000 in
theorem zt_X7_isFactName_L5 {p : Program} {l : Launch} {e : Env} {R : Room} {s : State} {m : MethodId} {args : Array Value} {below : List Frame} {meth : Method} {c : Code} {V : zm_V} {mc ms d rc rs : Nat} (hX : zm_X p R s m args meth c RX7 "isFactName" cX7_isFactName 7 zk_E V mc ms) (hr : meth.sig.returnType = (some .boolean)) (hR : R.frames = d ∧ R.locals = 64 * d) (hd : 1 ≤ d) {N : Nat} {res : (Int32 × zm_S) ⊕ ((Unit) × zm_S)} {out : (Int32 × zm_S)} (j0 : Int64) (hf : ∀ o, res = .inl o → o = out) (hk : ∀ (S' : zm_S), res = .inr ((), S') → zw p l e R s m args below meth c (vx_MQ below (zm_Qc zk_E V (zo_i out)) (zm_XC zk_E V zo_x) args s mc ms (fun q => V.2.2.2.1 ≤ q)) 7 zk_E V mc ms 56 [(0, .long j0)] [] S' rc rs) : ∀ (n : Nat) (j2 : Int64) (i4 : Int32) (S : zm_S), zf_X7_isFactName_L5 N n j0 j2 i4 S = some res → zw p l e R s m args below meth c (vx_MQ below (zm_Qc zk_E V (zo_i out)) (zm_XC zk_E V zo_x) args s mc ms (fun q => V.2.2.2.1 ≤ q)) 7 zk_E V mc ms 5 [(0, .long j0), (2, .long j2), (4, .int i4)] [] S rc rs := by
  intro n
  induction n with
  | zero => intro j2 i4 S h; cases h
  | succ n ih =>
    intro j2 i4 S h
    rw [zf_X7_isFactName_L5] at h
    refine zw_iload hX dX7_isFactName_5 rfl ?_
    refine zw_bipush (v := (8 : Int32)) hX dX7_isFactName_7 (by decide) ?_
    refine zw_icmp_ge (tgt := 56) hX dX7_isFactName_9 (by decide) (fun c9 => ?_) (fun c9 => ?_)
    · rw [if_pos c9] at h
      refine zw_sub (lv' := [(0, .long j0)]) (List.forall_mem_cons.mpr ⟨rfl, zs_nil⟩) ?_
      exact hk  _ (Option.some.inj h).symm
    · rw [if_neg c9] at h
      refine zw_lload_n hX dX7_isFactName_12 rfl ?_
      refine zw_lconst (v := (0 : Int64)) hX dX7_isFactName_13 (by decide) ?_
      refine zw_lcmp hX dX7_isFactName_14 ?_
      refine zw_if_eq (tgt := 56) hX dX7_isFactName_15 (by decide) (fun c15 => ?_) (fun c15 => ?_)
      · rw [if_pos c15] at h
        refine zw_sub (lv' := [(0, .long j0)]) (List.forall_mem_cons.mpr ⟨rfl, zs_nil⟩) ?_
        exact hk  _ (Option.some.inj h).symm
      · rw [if_neg c15] at h
        refine zw_lload_n hX dX7_isFactName_18 rfl ?_
        refine zw_ldc2 (v := (255 : Int64)) hX dX7_isFactName_19 zl_X7_60 ?_
        refine zw_land hX dX7_isFactName_22 ?_
        refine zw_lstore hX dX7_isFactName_23 (by decide) ?_
        refine zw_lload hX dX7_isFactName_25 rfl ?_
        refine zw_ldc2 (v := (97 : Int64)) hX dX7_isFactName_27 zl_X7_62 ?_
        refine zw_lcmp hX dX7_isFactName_30 ?_
        refine zw_if_lt (tgt := 43) hX dX7_isFactName_31 (by decide) (fun c31 => ?_) (fun c31 => ?_)
        · rw [if_pos c31] at h
          refine zw_iconst (v := (0 : Int32)) hX dX7_isFactName_43 (by decide) ?_
          have hz := hf _ (Option.some.inj h).symm
          subst hz
          exact zw_iret hX hr dX7_isFactName_44 rfl ⟨rfl, rfl⟩
        · rw [if_neg c31] at h
          refine zw_lload hX dX7_isFactName_34 rfl ?_
          refine zw_ldc2 (v := (122 : Int64)) hX dX7_isFactName_36 zl_X7_64 ?_
          refine zw_lcmp hX dX7_isFactName_39 ?_
          refine zw_if_le (tgt := 45) hX dX7_isFactName_40 (by decide) (fun c40 => ?_) (fun c40 => ?_)
          · rw [if_pos c40] at h
            refine zw_lload_n hX dX7_isFactName_45 rfl ?_
            refine zw_bipush (v := (8 : Int32)) hX dX7_isFactName_46 (by decide) ?_
            refine zw_lushr hX dX7_isFactName_48 ?_
            refine zw_lstore_n hX dX7_isFactName_49 (by decide) ?_
            refine zw_iinc (v := (i4 + (1 : Int32))) hX dX7_isFactName_50 rfl rfl (by decide) ?_
            refine zw_goto (tgt := 5) hX dX7_isFactName_53 (by decide) ?_
            refine zw_sub (lv' := [(0, .long j0), (2, .long ((j2).toUInt64 >>> (((8 : Int32)).toInt64.toUInt64 &&& Int64.toUInt64 63)).toInt64), (4, .int (i4 + (1 : Int32)))]) (List.forall_mem_cons.mpr ⟨rfl, (List.forall_mem_cons.mpr ⟨rfl, (List.forall_mem_cons.mpr ⟨rfl, zs_nil⟩)⟩)⟩) ?_
            exact ih _ _ _ h
          · rw [if_neg c40] at h
            refine zw_iconst (v := (0 : Int32)) hX dX7_isFactName_43 (by decide) ?_
            have hz := hf _ (Option.some.inj h).symm
            subst hz
            exact zw_iret hX hr dX7_isFactName_44 rfl ⟨rfl, rfl⟩
set_option maxHeartbeats 4000000 in
set_option maxRecDepth 100000 in
theorem zt_X7_isFactName_J56 {p : Program} {l : Launch} {e : Env} {R : Room} {s : State} {m : MethodId} {args : Array Value} {below : List Frame} {meth : Method} {c : Code} {V : zm_V} {mc ms d rc rs : Nat} (hX : zm_X p R s m args meth c RX7 "isFactName" cX7_isFactName 7 zk_E V mc ms) (hr : meth.sig.returnType = (some .boolean)) (hR : R.frames = d ∧ R.locals = 64 * d) (hd : 1 ≤ d) {N : Nat} {j0 : Int64} {out : (Int32 × zm_S)} {S : zm_S} (h : zf_X7_isFactName_J56 N j0 S = some out) : zw p l e R s m args below meth c (vx_MQ below (zm_Qc zk_E V (zo_i out)) (zm_XC zk_E V zo_x) args s mc ms (fun q => V.2.2.2.1 ≤ q)) 7 zk_E V mc ms 56 [(0, .long j0)] [] S rc rs := by
  unfold zf_X7_isFactName_J56 at h
  refine zw_lload_n hX dX7_isFactName_56 rfl ?_
  refine zw_lconst (v := (0 : Int64)) hX dX7_isFactName_57 (by decide) ?_
  refine zw_lcmp hX dX7_isFactName_58 ?_
  refine zw_if_eq (tgt := 66) hX dX7_isFactName_59 (by decide) (fun c59 => ?_) (fun c59 => ?_)
  · rw [if_pos c59] at h
    refine zw_iconst (v := (0 : Int32)) hX dX7_isFactName_66 (by decide) ?_
    obtain rfl := Option.some.inj h
    exact zw_iret hX hr dX7_isFactName_67 rfl ⟨rfl, rfl⟩
  · rw [if_neg c59] at h
    refine zw_iconst (v := (1 : Int32)) hX dX7_isFactName_62 (by decide) ?_
    refine zw_goto (tgt := 67) hX dX7_isFactName_63 (by decide) ?_
    obtain rfl := Option.some.inj h
    exact zw_iret hX hr dX7_isFactName_67 rfl ⟨rfl, rfl⟩
set_option maxHeartbeats 4000000 in
set_option maxRecDepth 100000 in
theorem zt_X7_isFactName {l : Launch} {V : zm_V} {N : Nat} {S : zm_S} {out : (Int32 × zm_S)} {d : Nat} {j0 : Int64} (hd : 1 ≤ d) (h : zf_X7_isFactName N j0 S = some out) : zm_Met l zk_E V yX7_isFactName (.code yX7_isFactName cX7_isFactName 7 (some .boolean)) d [.long j0] S 0 0 (zo_i out) zo_x := by
  refine zm_of (by decide +kernel) (Nat.le_of_ble_eq_true rfl) ?_
  intro p e R s m args below meth c hRR hX hr hxt
  have hR : R.frames = d ∧ R.locals = 64 * d := by rw [hRR]; exact ⟨rfl, rfl⟩
  have hX : zm_X p R s m args meth c RX7 "isFactName" cX7_isFactName 7 zk_E V 0 0 := hX
  unfold zf_X7_isFactName at h
  refine zw_sub (lv' := [(0, .long j0)]) (List.forall_mem_cons.mpr ⟨rfl, zs_nil⟩) ?_
  refine zw_lload_n hX dX7_isFactName_0 rfl ?_
  refine zw_lstore_n hX dX7_isFactName_1 (by decide) ?_
  refine zw_iconst (v := (0 : Int32)) hX dX7_isFactName_2 (by decide) ?_
  refine zw_istore hX dX7_isFactName_3 (by decide) ?_
  obtain ⟨r, g, h⟩ := zb_some h
  refine zw_sub (lv' := [(0, .long j0), (2, .long j0), (4, .int (0 : Int32))]) (List.forall_mem_cons.mpr ⟨rfl, (List.forall_mem_cons.mpr ⟨rfl, (List.forall_mem_cons.mpr ⟨rfl, zs_nil⟩)⟩)⟩) ?_
  refine zt_X7_isFactName_L5 hX hr hR hd (res := r) (out := out) j0 ?_ ?_ N _ _ _ g
  · intro o ho
    subst ho
    exact Option.some.inj h
  · intro  S1 hx
    subst hx
    try dsimp only at h
    refine zw_sub (lv' := [(0, .long j0)]) (List.forall_mem_cons.mpr ⟨rfl, zs_nil⟩) ?_
    exact zt_X7_isFactName_J56 hX hr hR hd h
set_option maxHeartbeats 4000000 in
set_option maxRecDepth 100000 in
theorem zt_X7_findFact_L2 {p : Program} {l : Launch} {e : Env} {R : Room} {s : State} {m : MethodId} {args : Array Value} {below : List Frame} {meth : Method} {c : Code} {V : zm_V} {mc ms d rc rs : Nat} (hX : zm_X p R s m args meth c RX7 "findFact" cX7_findFact 4 zk_E V mc ms) (hr : meth.sig.returnType = (some .int)) (hR : R.frames = d ∧ R.locals = 64 * d) (hd : 1 ≤ d) {N : Nat} {res : (Int32 × zm_S) ⊕ ((Unit) × zm_S)} {out : (Int32 × zm_S)} (a0 : Nat) (j1 : Int64) (hf : ∀ o, res = .inl o → o = out) (hk : ∀ (S' : zm_S), res = .inr ((), S') → zw p l e R s m args below meth c (vx_MQ below (zm_Qc zk_E V (zo_i out)) (zm_XC zk_E V zo_x) args s mc ms (fun q => V.2.2.2.1 ≤ q)) 4 zk_E V mc ms 29 [] [] S' rc rs) : ∀ (n : Nat) (i3 : Int32) (S : zm_S), zf_X7_findFact_L2 N n a0 j1 i3 S = some res → zw p l e R s m args below meth c (vx_MQ below (zm_Qc zk_E V (zo_i out)) (zm_XC zk_E V zo_x) args s mc ms (fun q => V.2.2.2.1 ≤ q)) 4 zk_E V mc ms 2 [(0, .ref a0), (1, .long j1), (3, .int i3)] [] S rc rs := by
  intro n
  induction n with
  | zero => intro i3 S h; cases h
  | succ n ih =>
    intro i3 S h
    rw [zf_X7_findFact_L2] at h
    refine zw_iload_n hX dX7_findFact_2 rfl ?_
    refine zw_aload_n hX dX7_findFact_3 rfl ?_
    obtain ⟨v1, g, h⟩ := zb_some h
    refine zw_geti hX zl_X7_66 dX7_findFact_4 g ?_
    refine zw_icmp_ge (tgt := 29) hX dX7_findFact_7 (by decide) (fun c7 => ?_) (fun c7 => ?_)
    · rw [if_pos c7] at h
      refine zw_sub (lv' := []) zs_nil ?_
      exact hk  _ (Option.some.inj h).symm
    · rw [if_neg c7] at h
      refine zw_aload_n hX dX7_findFact_10 rfl ?_
      obtain ⟨b2, g, h⟩ := zb_some h
      refine zw_getr hX zl_X7_35 dX7_findFact_11 g ?_
      refine zw_iload_n hX dX7_findFact_14 rfl ?_
      obtain ⟨w3, g, h⟩ := zb_some h
      refine zw_xl hX dX7_findFact_15 g ?_
      refine zw_lload_n hX dX7_findFact_16 rfl ?_
      refine zw_lcmp hX dX7_findFact_17 ?_
      refine zw_if_ne (tgt := 23) hX dX7_findFact_18 (by decide) (fun c18 => ?_) (fun c18 => ?_)
      · rw [if_neg c18] at h
        refine zw_iinc (v := (i3 + (1 : Int32))) hX dX7_findFact_23 rfl rfl (by decide) ?_
        refine zw_goto (tgt := 2) hX dX7_findFact_26 (by decide) ?_
        refine zw_sub (lv' := [(0, .ref a0), (1, .long j1), (3, .int (i3 + (1 : Int32)))]) (List.forall_mem_cons.mpr ⟨rfl, (List.forall_mem_cons.mpr ⟨rfl, (List.forall_mem_cons.mpr ⟨rfl, zs_nil⟩)⟩)⟩) ?_
        exact ih _ _ h
      · rw [if_pos c18] at h
        refine zw_iload_n hX dX7_findFact_21 rfl ?_
        have hz := hf _ (Option.some.inj h).symm
        subst hz
        exact zw_iret hX hr dX7_findFact_22 rfl ⟨rfl, rfl⟩
set_option maxHeartbeats 4000000 in
set_option maxRecDepth 100000 in
theorem zt_X7_findFact {l : Launch} {V : zm_V} {N : Nat} {S : zm_S} {out : (Int32 × zm_S)} {d : Nat} {a0 : Nat} {j1 : Int64} (hd : 1 ≤ d) (h : zf_X7_findFact N a0 j1 S = some out) : zm_Met l zk_E V yX7_findFact (.code yX7_findFact cX7_findFact 4 (some .int)) d [.ref a0, .long j1] S 0 0 (zo_i out) zo_x := by
  refine zm_of (by decide +kernel) (Nat.le_of_ble_eq_true rfl) ?_
  intro p e R s m args below meth c hRR hX hr hxt
  have hR : R.frames = d ∧ R.locals = 64 * d := by rw [hRR]; exact ⟨rfl, rfl⟩
  have hX : zm_X p R s m args meth c RX7 "findFact" cX7_findFact 4 zk_E V 0 0 := hX
  unfold zf_X7_findFact at h
  refine zw_sub (lv' := [(0, .ref a0), (1, .long j1)]) (List.forall_mem_cons.mpr ⟨rfl, (List.forall_mem_cons.mpr ⟨rfl, zs_nil⟩)⟩) ?_
  refine zw_iconst (v := (0 : Int32)) hX dX7_findFact_0 (by decide) ?_
  refine zw_istore_n hX dX7_findFact_1 (by decide) ?_
  obtain ⟨r, g, h⟩ := zb_some h
  refine zw_sub (lv' := [(0, .ref a0), (1, .long j1), (3, .int (0 : Int32))]) (List.forall_mem_cons.mpr ⟨rfl, (List.forall_mem_cons.mpr ⟨rfl, (List.forall_mem_cons.mpr ⟨rfl, zs_nil⟩)⟩)⟩) ?_
  refine zt_X7_findFact_L2 hX hr hR hd (res := r) (out := out) a0 j1 ?_ ?_ N _ _ g
  · intro o ho
    subst ho
    exact Option.some.inj h
  · intro  S4 hx
    subst hx
    try dsimp only at h
    refine zw_iconst (v := (-1 : Int32)) hX dX7_findFact_29 (by decide) ?_
    obtain rfl := Option.some.inj h
    exact zw_iret hX hr dX7_findFact_30 rfl ⟨rfl, rfl⟩
set_option maxHeartbeats 4000000 in
set_option maxRecDepth 100000 in
theorem zt_X7_hasRoomForFact {l : Launch} {V : zm_V} {N : Nat} {S : zm_S} {out : (Int32 × zm_S)} {d : Nat} {a0 : Nat} {j1 : Int64} (hd : 2 ≤ d) (h : zf_X7_hasRoomForFact N a0 j1 S = some out) : zm_Met l zk_E V yX7_hasRoomForFact (.code yX7_hasRoomForFact cX7_hasRoomForFact 3 (some .boolean)) d [.ref a0, .long j1] S 0 0 (zo_i out) zo_x := by
  refine zm_of (by decide +kernel) (Nat.le_of_ble_eq_true rfl) ?_
  intro p e R s m args below meth c hRR hX hr hxt
  have hR : R.frames = d ∧ R.locals = 64 * d := by rw [hRR]; exact ⟨rfl, rfl⟩
  have hX : zm_X p R s m args meth c RX7 "hasRoomForFact" cX7_hasRoomForFact 3 zk_E V 0 0 := hX
  unfold zf_X7_hasRoomForFact at h
  refine zw_sub (lv' := [(0, .ref a0), (1, .long j1)]) (List.forall_mem_cons.mpr ⟨rfl, (List.forall_mem_cons.mpr ⟨rfl, zs_nil⟩)⟩) ?_
  refine zw_aload_n hX dX7_hasRoomForFact_0 rfl ?_
  obtain ⟨v1, g, h⟩ := zb_some h
  refine zw_geti hX zl_X7_66 dX7_hasRoomForFact_1 g ?_
  refine zw_bipush (v := (40 : Int32)) hX dX7_hasRoomForFact_4 (by decide) ?_
  refine zw_icmp_lt (tgt := 18) hX dX7_hasRoomForFact_6 (by decide) (fun c6 => ?_) (fun c6 => ?_)
  · rw [if_pos c6] at h
    refine zw_iconst (v := (1 : Int32)) hX dX7_hasRoomForFact_18 (by decide) ?_
    refine zw_goto (tgt := 23) hX dX7_hasRoomForFact_19 (by decide) ?_
    obtain rfl := Option.some.inj h
    exact zw_iret hX hr dX7_hasRoomForFact_23 rfl ⟨rfl, rfl⟩
  · rw [if_neg c6] at h
    refine zw_aload_n hX dX7_hasRoomForFact_9 rfl ?_
    refine zw_lload_n hX dX7_hasRoomForFact_10 rfl ?_
    obtain ⟨_, gi, h⟩ := zb_some h
    obtain ⟨r3, g, h⟩ := zb_some h
    refine zc_Vi (as := [.long j1]) hX gi (zt_X7_findFact (d := d - 1) (by omega) g) zl_X7_69 rfl dX7_hasRoomForFact_11 ⟨rfl, rfl, Nat.le_of_ble_eq_true rfl⟩ ⟨by omega, by omega⟩ ?_
    refine zw_iconst (v := (-1 : Int32)) hX dX7_hasRoomForFact_14 (by decide) ?_
    refine zw_icmp_eq (tgt := 22) hX dX7_hasRoomForFact_15 (by decide) (fun c15 => ?_) (fun c15 => ?_)
    · rw [if_pos c15] at h
      refine zw_iconst (v := (0 : Int32)) hX dX7_hasRoomForFact_22 (by decide) ?_
      obtain rfl := Option.some.inj h
      exact zw_iret hX hr dX7_hasRoomForFact_23 rfl ⟨rfl, rfl⟩
    · rw [if_neg c15] at h
      refine zw_iconst (v := (1 : Int32)) hX dX7_hasRoomForFact_18 (by decide) ?_
      refine zw_goto (tgt := 23) hX dX7_hasRoomForFact_19 (by decide) ?_
      obtain rfl := Option.some.inj h
      exact zw_iret hX hr dX7_hasRoomForFact_23 rfl ⟨rfl, rfl⟩
set_option maxHeartbeats 4000000 in
set_option maxRecDepth 100000 in
theorem zt_X7_setFact {l : Launch} {V : zm_V} {N : Nat} {S : zm_S} {out : (Int64 × zm_S)} {d : Nat} {a0 : Nat} {j1 : Int64} {i3 : Int32} (hd : 2 ≤ d) (h : zf_X7_setFact N a0 j1 i3 S = some out) : zm_Met l zk_E V yX7_setFact (.code yX7_setFact cX7_setFact 7 (some .long)) d [.ref a0, .long j1, .int i3] S 0 0 (zo_l out) zo_x := by
  refine zm_of (by decide +kernel) (Nat.le_of_ble_eq_true rfl) ?_
  intro p e R s m args below meth c hRR hX hr hxt
  have hR : R.frames = d ∧ R.locals = 64 * d := by rw [hRR]; exact ⟨rfl, rfl⟩
  have hX : zm_X p R s m args meth c RX7 "setFact" cX7_setFact 7 zk_E V 0 0 := hX
  unfold zf_X7_setFact at h
  refine zw_sub (lv' := [(0, .ref a0), (1, .long j1), (3, .int i3)]) (List.forall_mem_cons.mpr ⟨rfl, (List.forall_mem_cons.mpr ⟨rfl, (List.forall_mem_cons.mpr ⟨rfl, zs_nil⟩)⟩)⟩) ?_
  refine zw_aload_n hX dX7_setFact_0 rfl ?_
  refine zw_lload_n hX dX7_setFact_1 rfl ?_
  obtain ⟨_, gi, h⟩ := zb_some h
  obtain ⟨r2, g, h⟩ := zb_some h
  refine zc_Vi (as := [.long j1]) hX gi (zt_X7_findFact (d := d - 1) (by omega) g) zl_X7_69 rfl dX7_setFact_2 ⟨rfl, rfl, Nat.le_of_ble_eq_true rfl⟩ ⟨by omega, by omega⟩ ?_
  refine zw_istore hX dX7_setFact_5 (by decide) ?_
  refine zw_iload hX dX7_setFact_7 rfl ?_
  refine zw_iconst (v := (-1 : Int32)) hX dX7_setFact_9 (by decide) ?_
  refine zw_icmp_eq (tgt := 34) hX dX7_setFact_10 (by decide) (fun c10 => ?_) (fun c10 => ?_)
  · rw [if_pos c10] at h
    refine zw_aload_n hX dX7_setFact_34 rfl ?_
    obtain ⟨v3, g, h⟩ := zb_some h
    refine zw_geti hX zl_X7_66 dX7_setFact_35 g ?_
    refine zw_bipush (v := (40 : Int32)) hX dX7_setFact_38 (by decide) ?_
    refine zw_icmp_ge (tgt := 73) hX dX7_setFact_40 (by decide) (fun c40 => ?_) (fun c40 => ?_)
    · rw [if_pos c40] at h
      refine zw_ldc2 (v := (1000000000000 : Int64)) hX dX7_setFact_73 zl_X7_73 ?_
      obtain rfl := Option.some.inj h
      exact zw_lret hX hr dX7_setFact_76 ⟨rfl, rfl⟩
    · rw [if_neg c40] at h
      refine zw_aload_n hX dX7_setFact_43 rfl ?_
      obtain ⟨b4, g, h⟩ := zb_some h
      refine zw_getr hX zl_X7_35 dX7_setFact_44 g ?_
      refine zw_aload_n hX dX7_setFact_47 rfl ?_
      obtain ⟨v5, g, h⟩ := zb_some h
      refine zw_geti hX zl_X7_66 dX7_setFact_48 g ?_
      refine zw_lload_n hX dX7_setFact_51 rfl ?_
      obtain ⟨S6, g, h⟩ := zb_some h
      refine zw_sl hX dX7_setFact_52 g ?_
      refine zw_aload_n hX dX7_setFact_53 rfl ?_
      obtain ⟨b7, g, h⟩ := zb_some h
      refine zw_getr hX zl_X7_38 dX7_setFact_54 g ?_
      refine zw_aload_n hX dX7_setFact_57 rfl ?_
      obtain ⟨v8, g, h⟩ := zb_some h
      refine zw_geti hX zl_X7_66 dX7_setFact_58 g ?_
      refine zw_iload_n hX dX7_setFact_61 rfl ?_
      obtain ⟨S9, g, h⟩ := zb_some h
      refine zw_si hX dX7_setFact_62 g ?_
      refine zw_aload_n hX dX7_setFact_63 rfl ?_
      refine zw_dup hX dX7_setFact_64 rfl ?_
      obtain ⟨v10, g, h⟩ := zb_some h
      refine zw_geti hX zl_X7_66 dX7_setFact_65 g ?_
      refine zw_iconst (v := (1 : Int32)) hX dX7_setFact_68 (by decide) ?_
      refine zw_iadd hX dX7_setFact_69 ?_
      obtain ⟨S11, g, h⟩ := zb_some h
      refine zw_putv hX zl_X7_66 zt_7_8 dX7_setFact_70 rfl rfl g ?_
      refine zw_ldc2 (v := (1000000000000 : Int64)) hX dX7_setFact_73 zl_X7_73 ?_
      obtain rfl := Option.some.inj h
      exact zw_lret hX hr dX7_setFact_76 ⟨rfl, rfl⟩
  · rw [if_neg c10] at h
    refine zw_aload_n hX dX7_setFact_13 rfl ?_
    obtain ⟨b12, g, h⟩ := zb_some h
    refine zw_getr hX zl_X7_38 dX7_setFact_14 g ?_
    refine zw_iload hX dX7_setFact_17 rfl ?_
    obtain ⟨v13, g, h⟩ := zb_some h
    refine zw_xi hX dX7_setFact_19 g ?_
    refine zw_i2l hX dX7_setFact_20 ?_
    refine zw_lstore hX dX7_setFact_21 (by decide) ?_
    refine zw_aload_n hX dX7_setFact_23 rfl ?_
    obtain ⟨b14, g, h⟩ := zb_some h
    refine zw_getr hX zl_X7_38 dX7_setFact_24 g ?_
    refine zw_iload hX dX7_setFact_27 rfl ?_
    refine zw_iload_n hX dX7_setFact_29 rfl ?_
    obtain ⟨S15, g, h⟩ := zb_some h
    refine zw_si hX dX7_setFact_30 g ?_
    refine zw_lload hX dX7_setFact_31 rfl ?_
    obtain rfl := Option.some.inj h
    exact zw_lret hX hr dX7_setFact_33 ⟨rfl, rfl⟩
set_option maxHeartbeats 4000000 in
set_option maxRecDepth 100000 in
theorem zt_J7_fill_d0a16_L6 {p : Program} {l : Launch} {e : Env} {R : Room} {s : State} {m : MethodId} {args : Array Value} {below : List Frame} {meth : Method} {c : Code} {V : zm_V} {mc ms d rc rs : Nat} (hX : zm_X p R s m args meth c RJ7 "fill" cJ7_fill_d0a16 5 zk_E V mc ms) (hr : meth.sig.returnType = none) (hR : R.frames = d ∧ R.locals = 64 * d) (hd : 1 ≤ d) {N : Nat} {res : (Unit × zm_S) ⊕ ((Unit) × zm_S)} {out : (Unit × zm_S)} (a0 : Nat) (j1 : Int64) (i4 : Int32) (hf : ∀ o, res = .inl o → o = out) (hk : ∀ (S' : zm_S), res = .inr ((), S') → zw p l e R s m args below meth c (vx_MQ below (zm_Qc zk_E V (zo_v out)) (zm_XC zk_E V zo_x) args s mc ms (fun q => V.2.2.2.1 ≤ q)) 5 zk_E V mc ms 22 [] [] S' rc rs) : ∀ (n : Nat) (i3 : Int32) (S : zm_S), zf_J7_fill_d0a16_L6 N n a0 j1 i3 i4 S = some res → zw p l e R s m args below meth c (vx_MQ below (zm_Qc zk_E V (zo_v out)) (zm_XC zk_E V zo_x) args s mc ms (fun q => V.2.2.2.1 ≤ q)) 5 zk_E V mc ms 6 [(0, .ref a0), (1, .long j1), (3, .int i3), (4, .int i4)] [] S rc rs := by
  intro n
  induction n with
  | zero => intro i3 S h; cases h
  | succ n ih =>
    intro i3 S h
    rw [zf_J7_fill_d0a16_L6] at h
    refine zw_iload_n hX dJ7_fill_d0a16_6 rfl ?_
    refine zw_iload hX dJ7_fill_d0a16_7 rfl ?_
    refine zw_icmp_ge (tgt := 22) hX dJ7_fill_d0a16_9 (by decide) (fun c9 => ?_) (fun c9 => ?_)
    · rw [if_pos c9] at h
      refine zw_sub (lv' := []) zs_nil ?_
      exact hk  _ (Option.some.inj h).symm
    · rw [if_neg c9] at h
      refine zw_aload_n hX dJ7_fill_d0a16_12 rfl ?_
      refine zw_iload_n hX dJ7_fill_d0a16_13 rfl ?_
      refine zw_lload_n hX dJ7_fill_d0a16_14 rfl ?_
      obtain ⟨S2, g, h⟩ := zb_some h
      refine zw_sl hX dJ7_fill_d0a16_15 g ?_
      refine zw_iinc (v := (i3 + (1 : Int32))) hX dJ7_fill_d0a16_16 rfl rfl (by decide) ?_
      refine zw_goto (tgt := 6) hX dJ7_fill_d0a16_19 (by decide) ?_
      refine zw_sub (lv' := [(0, .ref a0), (1, .long j1), (3, .int (i3 + (1 : Int32))), (4, .int i4)]) (List.forall_mem_cons.mpr ⟨rfl, (List.forall_mem_cons.mpr ⟨rfl, (List.forall_mem_cons.mpr ⟨rfl, (List.forall_mem_cons.mpr ⟨rfl, zs_nil⟩)⟩)⟩)⟩) ?_
      exact ih _ _ h
set_option maxHeartbeats 4000000 in
set_option maxRecDepth 100000 in
theorem zt_J7_fill_d0a16 {l : Launch} {V : zm_V} {N : Nat} {S : zm_S} {out : (Unit × zm_S)} {d : Nat} {a0 : Nat} {j1 : Int64} (hd : 1 ≤ d) (h : zf_J7_fill_d0a16 N a0 j1 S = some out) : zm_Met l zk_E V yJ7_fill_d0a16 (.code yJ7_fill_d0a16 cJ7_fill_d0a16 5 none) d [.ref a0, .long j1] S 0 0 (zo_v out) zo_x := by
  refine zm_of (by decide +kernel) (Nat.le_of_ble_eq_true rfl) ?_
  intro p e R s m args below meth c hRR hX hr hxt
  have hR : R.frames = d ∧ R.locals = 64 * d := by rw [hRR]; exact ⟨rfl, rfl⟩
  have hX : zm_X p R s m args meth c RJ7 "fill" cJ7_fill_d0a16 5 zk_E V 0 0 := hX
  unfold zf_J7_fill_d0a16 at h
  refine zw_sub (lv' := [(0, .ref a0), (1, .long j1)]) (List.forall_mem_cons.mpr ⟨rfl, (List.forall_mem_cons.mpr ⟨rfl, zs_nil⟩)⟩) ?_
  refine zw_iconst (v := (0 : Int32)) hX dJ7_fill_d0a16_0 (by decide) ?_
  refine zw_istore_n hX dJ7_fill_d0a16_1 (by decide) ?_
  refine zw_aload_n hX dJ7_fill_d0a16_2 rfl ?_
  obtain ⟨v1, g, h⟩ := zb_some h
  refine zw_len hX dJ7_fill_d0a16_3 g ?_
  refine zw_istore hX dJ7_fill_d0a16_4 (by decide) ?_
  obtain ⟨r, g, h⟩ := zb_some h
  refine zw_sub (lv' := [(0, .ref a0), (1, .long j1), (3, .int (0 : Int32)), (4, .int v1)]) (List.forall_mem_cons.mpr ⟨rfl, (List.forall_mem_cons.mpr ⟨rfl, (List.forall_mem_cons.mpr ⟨rfl, (List.forall_mem_cons.mpr ⟨rfl, zs_nil⟩)⟩)⟩)⟩) ?_
  refine zt_J7_fill_d0a16_L6 hX hr hR hd (res := r) (out := out) a0 j1 v1 ?_ ?_ N _ _ g
  · intro o ho
    subst ho
    exact Option.some.inj h
  · intro  S3 hx
    subst hx
    try dsimp only at h
    obtain rfl := Option.some.inj h
    exact zw_vret hX hr dJ7_fill_d0a16_22 ⟨rfl, rfl⟩
set_option maxHeartbeats 4000000 in
set_option maxRecDepth 100000 in
theorem zt_X7_takeWord {l : Launch} {V : zm_V} {N : Nat} {S : zm_S} {out : (Int32 × zm_S)} {d : Nat} {a0 : Nat} (hd : 1 ≤ d) (h : zf_X7_takeWord N a0 S = some out) : zm_Met l zk_E V yX7_takeWord (.code yX7_takeWord cX7_takeWord 2 (some .int)) d [.ref a0] S 0 0 (zo_i out) zo_x := by
  refine zm_of (by decide +kernel) (Nat.le_of_ble_eq_true rfl) ?_
  intro p e R s m args below meth c hRR hX hr hxt
  have hR : R.frames = d ∧ R.locals = 64 * d := by rw [hRR]; exact ⟨rfl, rfl⟩
  have hX : zm_X p R s m args meth c RX7 "takeWord" cX7_takeWord 2 zk_E V 0 0 := hX
  unfold zf_X7_takeWord at h
  refine zw_sub (lv' := [(0, .ref a0)]) (List.forall_mem_cons.mpr ⟨rfl, zs_nil⟩) ?_
  refine zw_aload_n hX dX7_takeWord_0 rfl ?_
  obtain ⟨b1, g, h⟩ := zb_some h
  refine zw_getr hX zl_X7_11 dX7_takeWord_1 g ?_
  refine zw_aload_n hX dX7_takeWord_4 rfl ?_
  obtain ⟨v2, g, h⟩ := zb_some h
  refine zw_geti hX zl_X7_96 dX7_takeWord_5 g ?_
  obtain ⟨v3, g, h⟩ := zb_some h
  refine zw_xi hX dX7_takeWord_8 g ?_
  refine zw_istore_n hX dX7_takeWord_9 (by decide) ?_
  refine zw_aload_n hX dX7_takeWord_10 rfl ?_
  obtain ⟨v4, g, h⟩ := zb_some h
  refine zw_geti hX zl_X7_96 dX7_takeWord_11 g ?_
  refine zw_bipush (v := (120 : Int32)) hX dX7_takeWord_14 (by decide) ?_
  refine zw_icmp_ge (tgt := 29) hX dX7_takeWord_16 (by decide) (fun c16 => ?_) (fun c16 => ?_)
  · rw [if_pos c16] at h
    refine zw_iload_n hX dX7_takeWord_29 rfl ?_
    obtain rfl := Option.some.inj h
    exact zw_iret hX hr dX7_takeWord_30 rfl ⟨rfl, rfl⟩
  · rw [if_neg c16] at h
    refine zw_aload_n hX dX7_takeWord_19 rfl ?_
    refine zw_dup hX dX7_takeWord_20 rfl ?_
    obtain ⟨v5, g, h⟩ := zb_some h
    refine zw_geti hX zl_X7_96 dX7_takeWord_21 g ?_
    refine zw_iconst (v := (1 : Int32)) hX dX7_takeWord_24 (by decide) ?_
    refine zw_iadd hX dX7_takeWord_25 ?_
    obtain ⟨S6, g, h⟩ := zb_some h
    refine zw_putv hX zl_X7_96 zt_7_11 dX7_takeWord_26 rfl rfl g ?_
    refine zw_iload_n hX dX7_takeWord_29 rfl ?_
    obtain rfl := Option.some.inj h
    exact zw_iret hX hr dX7_takeWord_30 rfl ⟨rfl, rfl⟩
set_option maxHeartbeats 4000000 in
set_option maxRecDepth 100000 in
theorem zt_X7_reckonFactor_J42 {p : Program} {l : Launch} {e : Env} {R : Room} {s : State} {m : MethodId} {args : Array Value} {below : List Frame} {meth : Method} {c : Code} {V : zm_V} {mc ms d rc rs : Nat} {K : Nat → Int32 → zm_S → Option (Unit × zm_S)} {dk : Nat} (hK : ∀ {d : Nat}, dk ≤ d → ∀ {k0 : Nat} {k1 : Int32} {S : zm_S} {out : Unit × zm_S}, K k0 k1 S = some out → zm_Met l zk_E V yX7_reckonSide (.code yX7_reckonSide cX7_reckonSide 9 none) d [.ref k0, .int k1] S 0 0 (zo_v out) zo_x) (hX : zm_X p R s m args meth c RX7 "reckonFactor" cX7_reckonFactor 6 zk_E V mc ms) (hr : meth.sig.returnType = none) (hR : R.frames = d ∧ R.locals = 64 * d) (hd : 2 ≤ d ∧ dk + 1 ≤ d) {N : Nat} {a0 : Nat} {j2 : Int64} {i4 : Int32} {out : (Unit × zm_S)} {S : zm_S} (h : zf_X7_reckonFactor_J42 N K a0 j2 i4 S = some out) : zw p l e R s m args below meth c (vx_MQ below (zm_Qc zk_E V (zo_v out)) (zm_XC zk_E V zo_x) args s mc ms (fun q => V.2.2.2.1 ≤ q)) 6 zk_E V mc ms 42 [(0, .ref a0), (2, .long j2), (4, .int i4)] [] S rc rs := by
  unfold zf_X7_reckonFactor_J42 at h
  refine zw_aload_n hX dX7_reckonFactor_42 rfl ?_
  refine zw_lconst (v := (1 : Int64)) hX dX7_reckonFactor_43 (by decide) ?_
  obtain ⟨S6, g, h⟩ := zb_some h
  refine zw_putv hX zl_X7_114 zt_7_15 dX7_reckonFactor_44 rfl rfl g ?_
  refine zw_iload hX dX7_reckonFactor_47 rfl ?_
  refine zw_bipush (v := (48 : Int32)) hX dX7_reckonFactor_49 (by decide) ?_
  refine zw_icmp_ne (tgt := 60) hX dX7_reckonFactor_51 (by decide) (fun c51 => ?_) (fun c51 => ?_)
  · rw [if_neg c51] at h
    refine zw_aload_n hX dX7_reckonFactor_60 rfl ?_
    refine zw_lload_n hX dX7_reckonFactor_61 rfl ?_
    obtain ⟨_, gi, h⟩ := zb_some h
    obtain ⟨r8, g, h⟩ := zb_some h
    refine zc_Vi (as := [.long j2]) hX gi (zt_X7_findFact (d := d - 1) (by omega) g) zl_X7_69 rfl dX7_reckonFactor_62 ⟨rfl, rfl, Nat.le_of_ble_eq_true rfl⟩ ⟨by omega, by omega⟩ ?_
    refine zw_istore hX dX7_reckonFactor_65 (by decide) ?_
    refine zw_iload hX dX7_reckonFactor_67 rfl ?_
    refine zw_iconst (v := (-1 : Int32)) hX dX7_reckonFactor_69 (by decide) ?_
    refine zw_icmp_ne (tgt := 84) hX dX7_reckonFactor_70 (by decide) (fun c70 => ?_) (fun c70 => ?_)
    · rw [if_neg c70] at h
      refine zw_aload_n hX dX7_reckonFactor_84 rfl ?_
      refine zw_aload_n hX dX7_reckonFactor_85 rfl ?_
      obtain ⟨b9, g, h⟩ := zb_some h
      refine zw_getr hX zl_X7_38 dX7_reckonFactor_86 g ?_
      refine zw_iload hX dX7_reckonFactor_89 rfl ?_
      obtain ⟨v10, g, h⟩ := zb_some h
      refine zw_xi hX dX7_reckonFactor_91 g ?_
      refine zw_i2l hX dX7_reckonFactor_92 ?_
      obtain ⟨S11, g, h⟩ := zb_some h
      refine zw_putv hX zl_X7_111 zt_7_14 dX7_reckonFactor_93 rfl rfl g ?_
      obtain rfl := Option.some.inj h
      exact zw_vret hX hr dX7_reckonFactor_96 ⟨rfl, rfl⟩
    · rw [if_pos c70] at h
      refine zw_aload_n hX dX7_reckonFactor_73 rfl ?_
      refine zw_iconst (v := (1 : Int32)) hX dX7_reckonFactor_74 (by decide) ?_
      obtain ⟨S12, g, h⟩ := zb_some h
      refine zw_putv hX zl_X7_89 zt_7_12 dX7_reckonFactor_75 rfl rfl g ?_
      refine zw_aload_n hX dX7_reckonFactor_78 rfl ?_
      refine zw_lload_n hX dX7_reckonFactor_79 rfl ?_
      obtain ⟨S13, g, h⟩ := zb_some h
      refine zw_putv hX zl_X7_92 zt_7_13 dX7_reckonFactor_80 rfl rfl g ?_
      obtain rfl := Option.some.inj h
      exact zw_vret hX hr dX7_reckonFactor_83 ⟨rfl, rfl⟩
  · rw [if_pos c51] at h
    refine zw_aload_n hX dX7_reckonFactor_54 rfl ?_
    refine zw_lload_n hX dX7_reckonFactor_55 rfl ?_
    obtain ⟨S14, g, h⟩ := zb_some h
    refine zw_putv hX zl_X7_111 zt_7_14 dX7_reckonFactor_56 rfl rfl g ?_
    obtain rfl := Option.some.inj h
    exact zw_vret hX hr dX7_reckonFactor_59 ⟨rfl, rfl⟩
set_option maxHeartbeats 4000000 in
set_option maxRecDepth 100000 in
theorem zt_X7_reckonFactor {l : Launch} {V : zm_V} {K : Nat → Int32 → zm_S → Option (Unit × zm_S)} {dk : Nat} (hK : ∀ {d : Nat}, dk ≤ d → ∀ {k0 : Nat} {k1 : Int32} {S : zm_S} {out : Unit × zm_S}, K k0 k1 S = some out → zm_Met l zk_E V yX7_reckonSide (.code yX7_reckonSide cX7_reckonSide 9 none) d [.ref k0, .int k1] S 0 0 (zo_v out) zo_x) {N : Nat} {S : zm_S} {out : (Unit × zm_S)} {d : Nat} {a0 : Nat} {i1 : Int32} (hd : 2 ≤ d ∧ dk + 1 ≤ d) (h : zf_X7_reckonFactor N K a0 i1 S = some out) : zm_Met l zk_E V yX7_reckonFactor (.code yX7_reckonFactor cX7_reckonFactor 6 none) d [.ref a0, .int i1] S 0 0 (zo_v out) zo_x := by
  refine zm_of (by decide +kernel) (Nat.le_of_ble_eq_true rfl) ?_
  intro p e R s m args below meth c hRR hX hr hxt
  have hR : R.frames = d ∧ R.locals = 64 * d := by rw [hRR]; exact ⟨rfl, rfl⟩
  have hX : zm_X p R s m args meth c RX7 "reckonFactor" cX7_reckonFactor 6 zk_E V 0 0 := hX
  unfold zf_X7_reckonFactor at h
  refine zw_sub (lv' := [(0, .ref a0), (1, .int i1)]) (List.forall_mem_cons.mpr ⟨rfl, (List.forall_mem_cons.mpr ⟨rfl, zs_nil⟩)⟩) ?_
  refine zw_aload_n hX dX7_reckonFactor_0 rfl ?_
  obtain ⟨b1, g, h⟩ := zb_some h
  refine zw_getr hX zl_X7_17 dX7_reckonFactor_1 g ?_
  refine zw_aload_n hX dX7_reckonFactor_4 rfl ?_
  obtain ⟨v2, g, h⟩ := zb_some h
  refine zw_geti hX zl_X7_96 dX7_reckonFactor_5 g ?_
  obtain ⟨w3, g, h⟩ := zb_some h
  refine zw_xl hX dX7_reckonFactor_8 g ?_
  refine zw_lstore_n hX dX7_reckonFactor_9 (by decide) ?_
  refine zw_aload_n hX dX7_reckonFactor_10 rfl ?_
  obtain ⟨_, gi, h⟩ := zb_some h
  obtain ⟨r5, g, h⟩ := zb_some h
  refine zc_Vi (as := []) hX gi (zt_X7_takeWord (d := d - 1) (by omega) g) zl_X7_103 rfl dX7_reckonFactor_11 ⟨rfl, rfl, Nat.le_of_ble_eq_true rfl⟩ ⟨by omega, by omega⟩ ?_
  refine zw_istore hX dX7_reckonFactor_14 (by decide) ?_
  refine zw_iload hX dX7_reckonFactor_16 rfl ?_
  refine zw_bipush (v := (40 : Int32)) hX dX7_reckonFactor_18 (by decide) ?_
  refine zw_icmp_ne (tgt := 42) hX dX7_reckonFactor_20 (by decide) (fun c20 => ?_) (fun c20 => ?_)
  · rw [if_neg c20] at h
    refine zw_sub (lv' := [(0, .ref a0), (2, .long w3), (4, .int r5.1)]) (List.forall_mem_cons.mpr ⟨rfl, (List.forall_mem_cons.mpr ⟨rfl, (List.forall_mem_cons.mpr ⟨rfl, zs_nil⟩)⟩)⟩) ?_
    exact zt_X7_reckonFactor_J42 hK hX hr hR hd h
  · rw [if_pos c20] at h
    refine zw_iload_n hX dX7_reckonFactor_23 rfl ?_
    refine zw_bipush (v := (8 : Int32)) hX dX7_reckonFactor_24 (by decide) ?_
    refine zw_icmp_ge (tgt := 42) hX dX7_reckonFactor_26 (by decide) (fun c26 => ?_) (fun c26 => ?_)
    · rw [if_pos c26] at h
      refine zw_sub (lv' := [(0, .ref a0), (2, .long w3), (4, .int r5.1)]) (List.forall_mem_cons.mpr ⟨rfl, (List.forall_mem_cons.mpr ⟨rfl, (List.forall_mem_cons.mpr ⟨rfl, zs_nil⟩)⟩)⟩) ?_
      exact zt_X7_reckonFactor_J42 hK hX hr hR hd h
    · rw [if_neg c26] at h
      refine zw_aload_n hX dX7_reckonFactor_29 rfl ?_
      refine zw_iload_n hX dX7_reckonFactor_30 rfl ?_
      refine zw_iconst (v := (1 : Int32)) hX dX7_reckonFactor_31 (by decide) ?_
      refine zw_iadd hX dX7_reckonFactor_32 ?_
      obtain ⟨_, gi, h⟩ := zb_some h
      obtain ⟨r16, g, h⟩ := zb_some h
      refine zc_Vv (as := [.int (i1 + (1 : Int32))]) hX gi (hK (d := d - 1) (by omega) g) zl_X7_107 rfl dX7_reckonFactor_33 ⟨rfl, rfl, Nat.le_of_ble_eq_true rfl⟩ ⟨by omega, by omega⟩ ?_
      refine zw_aload_n hX dX7_reckonFactor_36 rfl ?_
      obtain ⟨_, gi, h⟩ := zb_some h
      obtain ⟨r18, g, h⟩ := zb_some h
      refine zc_Vi (as := []) hX gi (zt_X7_takeWord (d := d - 1) (by omega) g) zl_X7_103 rfl dX7_reckonFactor_37 ⟨rfl, rfl, Nat.le_of_ble_eq_true rfl⟩ ⟨by omega, by omega⟩ ?_
      refine zw_pop hX dX7_reckonFactor_40 rfl ?_
      obtain rfl := Option.some.inj h
      exact zw_vret hX hr dX7_reckonFactor_41 ⟨rfl, rfl⟩
set_option maxHeartbeats 4000000 in
set_option maxRecDepth 100000 in
theorem zt_X7_isSign {l : Launch} {V : zm_V} {N : Nat} {S : zm_S} {out : (Int32 × zm_S)} {d : Nat} {a0 : Nat} {i1 : Int32} {i2 : Int32} (hd : 1 ≤ d) (h : zf_X7_isSign N a0 i1 i2 S = some out) : zm_Met l zk_E V yX7_isSign (.code yX7_isSign cX7_isSign 3 (some .boolean)) d [.ref a0, .int i1, .int i2] S 0 0 (zo_i out) zo_x := by
  refine zm_of (by decide +kernel) (Nat.le_of_ble_eq_true rfl) ?_
  intro p e R s m args below meth c hRR hX hr hxt
  have hR : R.frames = d ∧ R.locals = 64 * d := by rw [hRR]; exact ⟨rfl, rfl⟩
  have hX : zm_X p R s m args meth c RX7 "isSign" cX7_isSign 3 zk_E V 0 0 := hX
  unfold zf_X7_isSign at h
  refine zw_sub (lv' := [(0, .ref a0), (1, .int i1), (2, .int i2)]) (List.forall_mem_cons.mpr ⟨rfl, (List.forall_mem_cons.mpr ⟨rfl, (List.forall_mem_cons.mpr ⟨rfl, zs_nil⟩)⟩)⟩) ?_
  refine zw_aload_n hX dX7_isSign_0 rfl ?_
  obtain ⟨b1, g, h⟩ := zb_some h
  refine zw_getr hX zl_X7_11 dX7_isSign_1 g ?_
  refine zw_aload_n hX dX7_isSign_4 rfl ?_
  obtain ⟨v2, g, h⟩ := zb_some h
  refine zw_geti hX zl_X7_96 dX7_isSign_5 g ?_
  obtain ⟨v3, g, h⟩ := zb_some h
  refine zw_xi hX dX7_isSign_8 g ?_
  refine zw_iload_n hX dX7_isSign_9 rfl ?_
  refine zw_icmp_eq (tgt := 26) hX dX7_isSign_10 (by decide) (fun c10 => ?_) (fun c10 => ?_)
  · rw [if_pos c10] at h
    refine zw_iconst (v := (1 : Int32)) hX dX7_isSign_26 (by decide) ?_
    refine zw_goto (tgt := 31) hX dX7_isSign_27 (by decide) ?_
    obtain rfl := Option.some.inj h
    exact zw_iret hX hr dX7_isSign_31 rfl ⟨rfl, rfl⟩
  · rw [if_neg c10] at h
    refine zw_aload_n hX dX7_isSign_13 rfl ?_
    obtain ⟨b4, g, h⟩ := zb_some h
    refine zw_getr hX zl_X7_11 dX7_isSign_14 g ?_
    refine zw_aload_n hX dX7_isSign_17 rfl ?_
    obtain ⟨v5, g, h⟩ := zb_some h
    refine zw_geti hX zl_X7_96 dX7_isSign_18 g ?_
    obtain ⟨v6, g, h⟩ := zb_some h
    refine zw_xi hX dX7_isSign_21 g ?_
    refine zw_iload_n hX dX7_isSign_22 rfl ?_
    refine zw_icmp_ne (tgt := 30) hX dX7_isSign_23 (by decide) (fun c23 => ?_) (fun c23 => ?_)
    · rw [if_neg c23] at h
      refine zw_iconst (v := (0 : Int32)) hX dX7_isSign_30 (by decide) ?_
      obtain rfl := Option.some.inj h
      exact zw_iret hX hr dX7_isSign_31 rfl ⟨rfl, rfl⟩
    · rw [if_pos c23] at h
      refine zw_iconst (v := (1 : Int32)) hX dX7_isSign_26 (by decide) ?_
      refine zw_goto (tgt := 31) hX dX7_isSign_27 (by decide) ?_
      obtain rfl := Option.some.inj h
      exact zw_iret hX hr dX7_isSign_31 rfl ⟨rfl, rfl⟩
set_option maxHeartbeats 4000000 in
set_option maxRecDepth 100000 in
theorem zt_X7_multiply_J72 {p : Program} {l : Launch} {e : Env} {R : Room} {s : State} {m : MethodId} {args : Array Value} {below : List Frame} {meth : Method} {c : Code} {V : zm_V} {mc ms d rc rs : Nat} (hX : zm_X p R s m args meth c RX7 "multiply" cX7_multiply 8 zk_E V mc ms) (hr : meth.sig.returnType = (some .long)) (hR : R.frames = d ∧ R.locals = 64 * d) (hd : 1 ≤ d) {N : Nat} {a0 : Nat} {j5 : Int64} {out : (Int64 × zm_S)} {S : zm_S} (h : zf_X7_multiply_J72 N a0 j5 S = some out) : zw p l e R s m args below meth c (vx_MQ below (zm_Qc zk_E V (zo_l out)) (zm_XC zk_E V zo_x) args s mc ms (fun q => V.2.2.2.1 ≤ q)) 8 zk_E V mc ms 72 [(0, .ref a0), (5, .long j5)] [] S rc rs := by
  unfold zf_X7_multiply_J72 at h
  refine zw_aload_n hX dX7_multiply_72 rfl ?_
  refine zw_iconst (v := (2 : Int32)) hX dX7_multiply_73 (by decide) ?_
  obtain ⟨S1, g, h⟩ := zb_some h
  refine zw_putv hX zl_X7_89 zt_7_12 dX7_multiply_74 rfl rfl g ?_
  refine zw_lload hX dX7_multiply_77 rfl ?_
  obtain rfl := Option.some.inj h
  exact zw_lret hX hr dX7_multiply_79 ⟨rfl, rfl⟩
set_option maxHeartbeats 4000000 in
set_option maxRecDepth 100000 in
theorem zt_X7_multiply_J56 {p : Program} {l : Launch} {e : Env} {R : Room} {s : State} {m : MethodId} {args : Array Value} {below : List Frame} {meth : Method} {c : Code} {V : zm_V} {mc ms d rc rs : Nat} (hX : zm_X p R s m args meth c RX7 "multiply" cX7_multiply 8 zk_E V mc ms) (hr : meth.sig.returnType = (some .long)) (hR : R.frames = d ∧ R.locals = 64 * d) (hd : 1 ≤ d) {N : Nat} {a0 : Nat} {j1 : Int64} {j3 : Int64} {j5 : Int64} {t0 : Int32} {out : (Int64 × zm_S)} {S : zm_S} (h : zf_X7_multiply_J56 N a0 j1 j3 j5 t0 S = some out) : zw p l e R s m args below meth c (vx_MQ below (zm_Qc zk_E V (zo_l out)) (zm_XC zk_E V zo_x) args s mc ms (fun q => V.2.2.2.1 ≤ q)) 8 zk_E V mc ms 56 [(0, .ref a0), (1, .long j1), (3, .long j3), (5, .long j5)] [.int t0] S rc rs := by
  unfold zf_X7_multiply_J56 at h
  refine zw_istore hX dX7_multiply_56 (by decide) ?_
  refine zw_iload hX dX7_multiply_58 rfl ?_
  refine zw_if_ne (tgt := 72) hX dX7_multiply_60 (by decide) (fun c60 => ?_) (fun c60 => ?_)
  · rw [if_neg c60] at h
    refine zw_sub (lv' := [(0, .ref a0), (5, .long j5)]) (List.forall_mem_cons.mpr ⟨rfl, (List.forall_mem_cons.mpr ⟨rfl, zs_nil⟩)⟩) ?_
    exact zt_X7_multiply_J72 hX hr hR hd h
  · rw [if_pos c60] at h
    refine zw_lload hX dX7_multiply_63 rfl ?_
    refine zw_lload_n hX dX7_multiply_65 rfl ?_
    by_cases c0 : j3 = 0
    · rw [if_pos c0] at h
      cases h
    rw [if_neg c0] at h
    refine zw_ldiv hX dX7_multiply_66 c0 ?_
    refine zw_lload_n hX dX7_multiply_67 rfl ?_
    refine zw_lcmp hX dX7_multiply_68 ?_
    refine zw_if_eq (tgt := 77) hX dX7_multiply_69 (by decide) (fun c69 => ?_) (fun c69 => ?_)
    · rw [if_pos c69] at h
      refine zw_lload hX dX7_multiply_77 rfl ?_
      obtain rfl := Option.some.inj h
      exact zw_lret hX hr dX7_multiply_79 ⟨rfl, rfl⟩
    · rw [if_neg c69] at h
      refine zw_sub (lv' := [(0, .ref a0), (5, .long j5)]) (List.forall_mem_cons.mpr ⟨rfl, (List.forall_mem_cons.mpr ⟨rfl, zs_nil⟩)⟩) ?_
      exact zt_X7_multiply_J72 hX hr hR hd h
set_option maxHeartbeats 4000000 in
set_option maxRecDepth 100000 in
theorem zt_X7_multiply_J55 {p : Program} {l : Launch} {e : Env} {R : Room} {s : State} {m : MethodId} {args : Array Value} {below : List Frame} {meth : Method} {c : Code} {V : zm_V} {mc ms d rc rs : Nat} (hX : zm_X p R s m args meth c RX7 "multiply" cX7_multiply 8 zk_E V mc ms) (hr : meth.sig.returnType = (some .long)) (hR : R.frames = d ∧ R.locals = 64 * d) (hd : 1 ≤ d) {N : Nat} {a0 : Nat} {j1 : Int64} {j3 : Int64} {j5 : Int64} {out : (Int64 × zm_S)} {S : zm_S} (h : zf_X7_multiply_J55 N a0 j1 j3 j5 S = some out) : zw p l e R s m args below meth c (vx_MQ below (zm_Qc zk_E V (zo_l out)) (zm_XC zk_E V zo_x) args s mc ms (fun q => V.2.2.2.1 ≤ q)) 8 zk_E V mc ms 55 [(0, .ref a0), (1, .long j1), (3, .long j3), (5, .long j5)] [] S rc rs := by
  unfold zf_X7_multiply_J55 at h
  refine zw_iconst (v := (0 : Int32)) hX dX7_multiply_55 (by decide) ?_
  refine zw_sub (lv' := [(0, .ref a0), (1, .long j1), (3, .long j3), (5, .long j5)]) (List.forall_mem_cons.mpr ⟨rfl, (List.forall_mem_cons.mpr ⟨rfl, (List.forall_mem_cons.mpr ⟨rfl, (List.forall_mem_cons.mpr ⟨rfl, zs_nil⟩)⟩)⟩)⟩) ?_
  exact zt_X7_multiply_J56 hX hr hR hd h
set_option maxHeartbeats 4000000 in
set_option maxRecDepth 100000 in
theorem zt_X7_multiply_J51 {p : Program} {l : Launch} {e : Env} {R : Room} {s : State} {m : MethodId} {args : Array Value} {below : List Frame} {meth : Method} {c : Code} {V : zm_V} {mc ms d rc rs : Nat} (hX : zm_X p R s m args meth c RX7 "multiply" cX7_multiply 8 zk_E V mc ms) (hr : meth.sig.returnType = (some .long)) (hR : R.frames = d ∧ R.locals = 64 * d) (hd : 1 ≤ d) {N : Nat} {a0 : Nat} {j1 : Int64} {j3 : Int64} {j5 : Int64} {out : (Int64 × zm_S)} {S : zm_S} (h : zf_X7_multiply_J51 N a0 j1 j3 j5 S = some out) : zw p l e R s m args below meth c (vx_MQ below (zm_Qc zk_E V (zo_l out)) (zm_XC zk_E V zo_x) args s mc ms (fun q => V.2.2.2.1 ≤ q)) 8 zk_E V mc ms 51 [(0, .ref a0), (1, .long j1), (3, .long j3), (5, .long j5)] [] S rc rs := by
  unfold zf_X7_multiply_J51 at h
  refine zw_iconst (v := (1 : Int32)) hX dX7_multiply_51 (by decide) ?_
  refine zw_goto (tgt := 56) hX dX7_multiply_52 (by decide) ?_
  refine zw_sub (lv' := [(0, .ref a0), (1, .long j1), (3, .long j3), (5, .long j5)]) (List.forall_mem_cons.mpr ⟨rfl, (List.forall_mem_cons.mpr ⟨rfl, (List.forall_mem_cons.mpr ⟨rfl, (List.forall_mem_cons.mpr ⟨rfl, zs_nil⟩)⟩)⟩)⟩) ?_
  exact zt_X7_multiply_J56 hX hr hR hd h
set_option maxHeartbeats 4000000 in
set_option maxRecDepth 100000 in
theorem zt_X7_multiply_J35 {p : Program} {l : Launch} {e : Env} {R : Room} {s : State} {m : MethodId} {args : Array Value} {below : List Frame} {meth : Method} {c : Code} {V : zm_V} {mc ms d rc rs : Nat} (hX : zm_X p R s m args meth c RX7 "multiply" cX7_multiply 8 zk_E V mc ms) (hr : meth.sig.returnType = (some .long)) (hR : R.frames = d ∧ R.locals = 64 * d) (hd : 1 ≤ d) {N : Nat} {a0 : Nat} {j1 : Int64} {j3 : Int64} {j5 : Int64} {out : (Int64 × zm_S)} {S : zm_S} (h : zf_X7_multiply_J35 N a0 j1 j3 j5 S = some out) : zw p l e R s m args below meth c (vx_MQ below (zm_Qc zk_E V (zo_l out)) (zm_XC zk_E V zo_x) args s mc ms (fun q => V.2.2.2.1 ≤ q)) 8 zk_E V mc ms 35 [(0, .ref a0), (1, .long j1), (3, .long j3), (5, .long j5)] [] S rc rs := by
  unfold zf_X7_multiply_J35 at h
  refine zw_lload_n hX dX7_multiply_35 rfl ?_
  refine zw_ldc2 (v := (-1 : Int64)) hX dX7_multiply_36 zl_X7_148 ?_
  refine zw_lcmp hX dX7_multiply_39 ?_
  refine zw_if_ne (tgt := 55) hX dX7_multiply_40 (by decide) (fun c40 => ?_) (fun c40 => ?_)
  · rw [if_neg c40] at h
    refine zw_sub (lv' := [(0, .ref a0), (1, .long j1), (3, .long j3), (5, .long j5)]) (List.forall_mem_cons.mpr ⟨rfl, (List.forall_mem_cons.mpr ⟨rfl, (List.forall_mem_cons.mpr ⟨rfl, (List.forall_mem_cons.mpr ⟨rfl, zs_nil⟩)⟩)⟩)⟩) ?_
    exact zt_X7_multiply_J55 hX hr hR hd h
  · rw [if_pos c40] at h
    refine zw_lload_n hX dX7_multiply_43 rfl ?_
    refine zw_ldc2 (v := (-9223372036854775808 : Int64)) hX dX7_multiply_44 zl_X7_152 ?_
    refine zw_lcmp hX dX7_multiply_47 ?_
    refine zw_if_ne (tgt := 55) hX dX7_multiply_48 (by decide) (fun c48 => ?_) (fun c48 => ?_)
    · rw [if_neg c48] at h
      refine zw_sub (lv' := [(0, .ref a0), (1, .long j1), (3, .long j3), (5, .long j5)]) (List.forall_mem_cons.mpr ⟨rfl, (List.forall_mem_cons.mpr ⟨rfl, (List.forall_mem_cons.mpr ⟨rfl, (List.forall_mem_cons.mpr ⟨rfl, zs_nil⟩)⟩)⟩)⟩) ?_
      exact zt_X7_multiply_J55 hX hr hR hd h
    · rw [if_pos c48] at h
      refine zw_sub (lv' := [(0, .ref a0), (1, .long j1), (3, .long j3), (5, .long j5)]) (List.forall_mem_cons.mpr ⟨rfl, (List.forall_mem_cons.mpr ⟨rfl, (List.forall_mem_cons.mpr ⟨rfl, (List.forall_mem_cons.mpr ⟨rfl, zs_nil⟩)⟩)⟩)⟩) ?_
      exact zt_X7_multiply_J51 hX hr hR hd h
set_option maxHeartbeats 4000000 in
set_option maxRecDepth 100000 in
theorem zt_X7_multiply {l : Launch} {V : zm_V} {N : Nat} {S : zm_S} {out : (Int64 × zm_S)} {d : Nat} {a0 : Nat} {j1 : Int64} {j3 : Int64} (hd : 1 ≤ d) (h : zf_X7_multiply N a0 j1 j3 S = some out) : zm_Met l zk_E V yX7_multiply (.code yX7_multiply cX7_multiply 8 (some .long)) d [.ref a0, .long j1, .long j3] S 0 0 (zo_l out) zo_x := by
  refine zm_of (by decide +kernel) (Nat.le_of_ble_eq_true rfl) ?_
  intro p e R s m args below meth c hRR hX hr hxt
  have hR : R.frames = d ∧ R.locals = 64 * d := by rw [hRR]; exact ⟨rfl, rfl⟩
  have hX : zm_X p R s m args meth c RX7 "multiply" cX7_multiply 8 zk_E V 0 0 := hX
  unfold zf_X7_multiply at h
  refine zw_sub (lv' := [(0, .ref a0), (1, .long j1), (3, .long j3)]) (List.forall_mem_cons.mpr ⟨rfl, (List.forall_mem_cons.mpr ⟨rfl, (List.forall_mem_cons.mpr ⟨rfl, zs_nil⟩)⟩)⟩) ?_
  refine zw_lload_n hX dX7_multiply_0 rfl ?_
  refine zw_lconst (v := (0 : Int64)) hX dX7_multiply_1 (by decide) ?_
  refine zw_lcmp hX dX7_multiply_2 ?_
  refine zw_if_eq (tgt := 12) hX dX7_multiply_3 (by decide) (fun c3 => ?_) (fun c3 => ?_)
  · rw [if_pos c3] at h
    refine zw_lconst (v := (0 : Int64)) hX dX7_multiply_12 (by decide) ?_
    obtain rfl := Option.some.inj h
    exact zw_lret hX hr dX7_multiply_13 ⟨rfl, rfl⟩
  · rw [if_neg c3] at h
    refine zw_lload_n hX dX7_multiply_6 rfl ?_
    refine zw_lconst (v := (0 : Int64)) hX dX7_multiply_7 (by decide) ?_
    refine zw_lcmp hX dX7_multiply_8 ?_
    refine zw_if_ne (tgt := 14) hX dX7_multiply_9 (by decide) (fun c9 => ?_) (fun c9 => ?_)
    · rw [if_neg c9] at h
      refine zw_lload_n hX dX7_multiply_14 rfl ?_
      refine zw_lload_n hX dX7_multiply_15 rfl ?_
      refine zw_lmul hX dX7_multiply_16 ?_
      refine zw_lstore hX dX7_multiply_17 (by decide) ?_
      refine zw_lload_n hX dX7_multiply_19 rfl ?_
      refine zw_ldc2 (v := (-1 : Int64)) hX dX7_multiply_20 zl_X7_148 ?_
      refine zw_lcmp hX dX7_multiply_23 ?_
      refine zw_if_ne (tgt := 35) hX dX7_multiply_24 (by decide) (fun c24 => ?_) (fun c24 => ?_)
      · rw [if_neg c24] at h
        refine zw_sub (lv' := [(0, .ref a0), (1, .long j1), (3, .long j3), (5, .long (j1 * j3))]) (List.forall_mem_cons.mpr ⟨rfl, (List.forall_mem_cons.mpr ⟨rfl, (List.forall_mem_cons.mpr ⟨rfl, (List.forall_mem_cons.mpr ⟨rfl, zs_nil⟩)⟩)⟩)⟩) ?_
        exact zt_X7_multiply_J35 hX hr hR hd h
      · rw [if_pos c24] at h
        refine zw_lload_n hX dX7_multiply_27 rfl ?_
        refine zw_ldc2 (v := (-9223372036854775808 : Int64)) hX dX7_multiply_28 zl_X7_152 ?_
        refine zw_lcmp hX dX7_multiply_31 ?_
        refine zw_if_eq (tgt := 51) hX dX7_multiply_32 (by decide) (fun c32 => ?_) (fun c32 => ?_)
        · rw [if_pos c32] at h
          refine zw_sub (lv' := [(0, .ref a0), (1, .long j1), (3, .long j3), (5, .long (j1 * j3))]) (List.forall_mem_cons.mpr ⟨rfl, (List.forall_mem_cons.mpr ⟨rfl, (List.forall_mem_cons.mpr ⟨rfl, (List.forall_mem_cons.mpr ⟨rfl, zs_nil⟩)⟩)⟩)⟩) ?_
          exact zt_X7_multiply_J51 hX hr hR hd h
        · rw [if_neg c32] at h
          refine zw_sub (lv' := [(0, .ref a0), (1, .long j1), (3, .long j3), (5, .long (j1 * j3))]) (List.forall_mem_cons.mpr ⟨rfl, (List.forall_mem_cons.mpr ⟨rfl, (List.forall_mem_cons.mpr ⟨rfl, (List.forall_mem_cons.mpr ⟨rfl, zs_nil⟩)⟩)⟩)⟩) ?_
          exact zt_X7_multiply_J35 hX hr hR hd h
    · rw [if_pos c9] at h
      refine zw_lconst (v := (0 : Int64)) hX dX7_multiply_12 (by decide) ?_
      obtain rfl := Option.some.inj h
      exact zw_lret hX hr dX7_multiply_13 ⟨rfl, rfl⟩
set_option maxHeartbeats 4000000 in
set_option maxRecDepth 100000 in
theorem zt_X7_add {l : Launch} {V : zm_V} {N : Nat} {S : zm_S} {out : (Int64 × zm_S)} {d : Nat} {a0 : Nat} {j1 : Int64} {j3 : Int64} (hd : 1 ≤ d) (h : zf_X7_add N a0 j1 j3 S = some out) : zm_Met l zk_E V yX7_add (.code yX7_add cX7_add 7 (some .long)) d [.ref a0, .long j1, .long j3] S 0 0 (zo_l out) zo_x := by
  refine zm_of (by decide +kernel) (Nat.le_of_ble_eq_true rfl) ?_
  intro p e R s m args below meth c hRR hX hr hxt
  have hR : R.frames = d ∧ R.locals = 64 * d := by rw [hRR]; exact ⟨rfl, rfl⟩
  have hX : zm_X p R s m args meth c RX7 "add" cX7_add 7 zk_E V 0 0 := hX
  unfold zf_X7_add at h
  refine zw_sub (lv' := [(0, .ref a0), (1, .long j1), (3, .long j3)]) (List.forall_mem_cons.mpr ⟨rfl, (List.forall_mem_cons.mpr ⟨rfl, (List.forall_mem_cons.mpr ⟨rfl, zs_nil⟩)⟩)⟩) ?_
  refine zw_lload_n hX dX7_add_0 rfl ?_
  refine zw_lload_n hX dX7_add_1 rfl ?_
  refine zw_ladd hX dX7_add_2 ?_
  refine zw_lstore hX dX7_add_3 (by decide) ?_
  refine zw_lload_n hX dX7_add_5 rfl ?_
  refine zw_lload hX dX7_add_6 rfl ?_
  refine zw_lxor hX dX7_add_8 ?_
  refine zw_lload_n hX dX7_add_9 rfl ?_
  refine zw_lload hX dX7_add_10 rfl ?_
  refine zw_lxor hX dX7_add_12 ?_
  refine zw_land hX dX7_add_13 ?_
  refine zw_lconst (v := (0 : Int64)) hX dX7_add_14 (by decide) ?_
  refine zw_lcmp hX dX7_add_15 ?_
  refine zw_if_ge (tgt := 24) hX dX7_add_16 (by decide) (fun c16 => ?_) (fun c16 => ?_)
  · rw [if_pos c16] at h
    refine zw_lload hX dX7_add_24 rfl ?_
    obtain rfl := Option.some.inj h
    exact zw_lret hX hr dX7_add_26 ⟨rfl, rfl⟩
  · rw [if_neg c16] at h
    refine zw_aload_n hX dX7_add_19 rfl ?_
    refine zw_iconst (v := (2 : Int32)) hX dX7_add_20 (by decide) ?_
    obtain ⟨S1, g, h⟩ := zb_some h
    refine zw_putv hX zl_X7_89 zt_7_12 dX7_add_21 rfl rfl g ?_
    refine zw_lload hX dX7_add_24 rfl ?_
    obtain rfl := Option.some.inj h
    exact zw_lret hX hr dX7_add_26 ⟨rfl, rfl⟩
set_option maxHeartbeats 4000000 in
set_option maxRecDepth 100000 in
theorem zt_X7_subtract {l : Launch} {V : zm_V} {N : Nat} {S : zm_S} {out : (Int64 × zm_S)} {d : Nat} {a0 : Nat} {j1 : Int64} {j3 : Int64} (hd : 1 ≤ d) (h : zf_X7_subtract N a0 j1 j3 S = some out) : zm_Met l zk_E V yX7_subtract (.code yX7_subtract cX7_subtract 7 (some .long)) d [.ref a0, .long j1, .long j3] S 0 0 (zo_l out) zo_x := by
  refine zm_of (by decide +kernel) (Nat.le_of_ble_eq_true rfl) ?_
  intro p e R s m args below meth c hRR hX hr hxt
  have hR : R.frames = d ∧ R.locals = 64 * d := by rw [hRR]; exact ⟨rfl, rfl⟩
  have hX : zm_X p R s m args meth c RX7 "subtract" cX7_subtract 7 zk_E V 0 0 := hX
  unfold zf_X7_subtract at h
  refine zw_sub (lv' := [(0, .ref a0), (1, .long j1), (3, .long j3)]) (List.forall_mem_cons.mpr ⟨rfl, (List.forall_mem_cons.mpr ⟨rfl, (List.forall_mem_cons.mpr ⟨rfl, zs_nil⟩)⟩)⟩) ?_
  refine zw_lload_n hX dX7_subtract_0 rfl ?_
  refine zw_lload_n hX dX7_subtract_1 rfl ?_
  refine zw_lsub hX dX7_subtract_2 ?_
  refine zw_lstore hX dX7_subtract_3 (by decide) ?_
  refine zw_lload_n hX dX7_subtract_5 rfl ?_
  refine zw_lload_n hX dX7_subtract_6 rfl ?_
  refine zw_lxor hX dX7_subtract_7 ?_
  refine zw_lload_n hX dX7_subtract_8 rfl ?_
  refine zw_lload hX dX7_subtract_9 rfl ?_
  refine zw_lxor hX dX7_subtract_11 ?_
  refine zw_land hX dX7_subtract_12 ?_
  refine zw_lconst (v := (0 : Int64)) hX dX7_subtract_13 (by decide) ?_
  refine zw_lcmp hX dX7_subtract_14 ?_
  refine zw_if_ge (tgt := 23) hX dX7_subtract_15 (by decide) (fun c15 => ?_) (fun c15 => ?_)
  · rw [if_pos c15] at h
    refine zw_lload hX dX7_subtract_23 rfl ?_
    obtain rfl := Option.some.inj h
    exact zw_lret hX hr dX7_subtract_25 ⟨rfl, rfl⟩
  · rw [if_neg c15] at h
    refine zw_aload_n hX dX7_subtract_18 rfl ?_
    refine zw_iconst (v := (2 : Int32)) hX dX7_subtract_19 (by decide) ?_
    obtain ⟨S1, g, h⟩ := zb_some h
    refine zw_putv hX zl_X7_89 zt_7_12 dX7_subtract_20 rfl rfl g ?_
    refine zw_lload hX dX7_subtract_23 rfl ?_
    obtain rfl := Option.some.inj h
    exact zw_lret hX hr dX7_subtract_25 ⟨rfl, rfl⟩
set_option maxHeartbeats 4000000 in
set_option maxRecDepth 100000 in
theorem zt_X7_combine_J139 {p : Program} {l : Launch} {e : Env} {R : Room} {s : State} {m : MethodId} {args : Array Value} {below : List Frame} {meth : Method} {c : Code} {V : zm_V} {mc ms d rc rs : Nat} (hX : zm_X p R s m args meth c RX7 "combine" cX7_combine 12 zk_E V mc ms) (hr : meth.sig.returnType = none) (hR : R.frames = d ∧ R.locals = 64 * d) (hd : 2 ≤ d) {N : Nat} {a0 : Nat} {j4 : Int64} {j8 : Int64} {t0 : Nat} {t1 : Int64} {out : (Unit × zm_S)} {S : zm_S} (h : zf_X7_combine_J139 N a0 j4 j8 t0 t1 S = some out) : zw p l e R s m args below meth c (vx_MQ below (zm_Qc zk_E V (zo_v out)) (zm_XC zk_E V zo_x) args s mc ms (fun q => V.2.2.2.1 ≤ q)) 12 zk_E V mc ms 139 [(0, .ref a0), (4, .long j4), (8, .long j8)] [.long t1, .ref t0] S rc rs := by
  unfold zf_X7_combine_J139 at h
  obtain ⟨S12, g, h⟩ := zb_some h
  refine zw_putv hX zl_X7_111 zt_7_14 dX7_combine_139 rfl rfl g ?_
  refine zw_aload_n hX dX7_combine_142 rfl ?_
  refine zw_aload_n hX dX7_combine_143 rfl ?_
  refine zw_lload hX dX7_combine_144 rfl ?_
  refine zw_lload hX dX7_combine_146 rfl ?_
  obtain ⟨_, gi, h⟩ := zb_some h
  obtain ⟨r14, g, h⟩ := zb_some h
  refine zc_Vl (as := [.long j4, .long j8]) hX gi (zt_X7_multiply (d := d - 1) (by omega) g) zl_X7_121 rfl dX7_combine_148 ⟨rfl, rfl, Nat.le_of_ble_eq_true rfl⟩ ⟨by omega, by omega⟩ ?_
  obtain ⟨S15, g, h⟩ := zb_some h
  refine zw_putv hX zl_X7_114 zt_7_15 dX7_combine_151 rfl rfl g ?_
  obtain rfl := Option.some.inj h
  exact zw_vret hX hr dX7_combine_154 ⟨rfl, rfl⟩
set_option maxHeartbeats 4000000 in
set_option maxRecDepth 100000 in
theorem zt_X7_combine {l : Launch} {V : zm_V} {N : Nat} {S : zm_S} {out : (Unit × zm_S)} {d : Nat} {a0 : Nat} {i1 : Int32} {j2 : Int64} {j4 : Int64} (hd : 2 ≤ d) (h : zf_X7_combine N a0 i1 j2 j4 S = some out) : zm_Met l zk_E V yX7_combine (.code yX7_combine cX7_combine 12 none) d [.ref a0, .int i1, .long j2, .long j4] S 0 0 (zo_v out) zo_x := by
  refine zm_of (by decide +kernel) (Nat.le_of_ble_eq_true rfl) ?_
  intro p e R s m args below meth c hRR hX hr hxt
  have hR : R.frames = d ∧ R.locals = 64 * d := by rw [hRR]; exact ⟨rfl, rfl⟩
  have hX : zm_X p R s m args meth c RX7 "combine" cX7_combine 12 zk_E V 0 0 := hX
  unfold zf_X7_combine at h
  refine zw_sub (lv' := [(0, .ref a0), (1, .int i1), (2, .long j2), (4, .long j4)]) (List.forall_mem_cons.mpr ⟨rfl, (List.forall_mem_cons.mpr ⟨rfl, (List.forall_mem_cons.mpr ⟨rfl, (List.forall_mem_cons.mpr ⟨rfl, zs_nil⟩)⟩)⟩)⟩) ?_
  refine zw_aload_n hX dX7_combine_0 rfl ?_
  obtain ⟨w1, g, h⟩ := zb_some h
  refine zw_getl hX zl_X7_111 dX7_combine_1 g ?_
  refine zw_lstore hX dX7_combine_4 (by decide) ?_
  refine zw_aload_n hX dX7_combine_6 rfl ?_
  obtain ⟨w2, g, h⟩ := zb_some h
  refine zw_getl hX zl_X7_114 dX7_combine_7 g ?_
  refine zw_lstore hX dX7_combine_10 (by decide) ?_
  refine zw_aload_n hX dX7_combine_12 rfl ?_
  obtain ⟨v3, g, h⟩ := zb_some h
  refine zw_geti hX zl_X7_89 dX7_combine_13 g ?_
  refine zw_if_eq (tgt := 20) hX dX7_combine_16 (by decide) (fun c16 => ?_) (fun c16 => ?_)
  · rw [if_pos c16] at h
    refine zw_iload_n hX dX7_combine_20 rfl ?_
    refine zw_bipush (v := (42 : Int32)) hX dX7_combine_21 (by decide) ?_
    refine zw_icmp_ne (tgt := 50) hX dX7_combine_23 (by decide) (fun c23 => ?_) (fun c23 => ?_)
    · rw [if_neg c23] at h
      refine zw_aload_n hX dX7_combine_50 rfl ?_
      refine zw_aload_n hX dX7_combine_51 rfl ?_
      refine zw_lload_n hX dX7_combine_52 rfl ?_
      refine zw_lload hX dX7_combine_53 rfl ?_
      obtain ⟨_, gi, h⟩ := zb_some h
      obtain ⟨r5, g, h⟩ := zb_some h
      refine zc_Vl (as := [.long j2, .long w2]) hX gi (zt_X7_multiply (d := d - 1) (by omega) g) zl_X7_121 rfl dX7_combine_55 ⟨rfl, rfl, Nat.le_of_ble_eq_true rfl⟩ ⟨by omega, by omega⟩ ?_
      obtain ⟨S6, g, h⟩ := zb_some h
      refine zw_putv hX zl_X7_111 zt_7_14 dX7_combine_58 rfl rfl g ?_
      refine zw_iload_n hX dX7_combine_61 rfl ?_
      refine zw_bipush (v := (47 : Int32)) hX dX7_combine_62 (by decide) ?_
      refine zw_icmp_ne (tgt := 99) hX dX7_combine_64 (by decide) (fun c64 => ?_) (fun c64 => ?_)
      · rw [if_neg c64] at h
        refine zw_aload_n hX dX7_combine_99 rfl ?_
        refine zw_lload hX dX7_combine_100 rfl ?_
        refine zw_lload hX dX7_combine_102 rfl ?_
        obtain ⟨_, gi, h⟩ := zb_some h
        obtain ⟨r8, g, h⟩ := zb_some h
        refine zc_Vl (as := [.long w1, .long j4]) hX gi (zt_X7_multiply (d := d - 1) (by omega) g) zl_X7_121 rfl dX7_combine_104 ⟨rfl, rfl, Nat.le_of_ble_eq_true rfl⟩ ⟨by omega, by omega⟩ ?_
        refine zw_lstore hX dX7_combine_107 (by decide) ?_
        refine zw_aload_n hX dX7_combine_109 rfl ?_
        refine zw_iload_n hX dX7_combine_110 rfl ?_
        refine zw_bipush (v := (43 : Int32)) hX dX7_combine_111 (by decide) ?_
        refine zw_icmp_ne (tgt := 129) hX dX7_combine_113 (by decide) (fun c113 => ?_) (fun c113 => ?_)
        · rw [if_neg c113] at h
          refine zw_aload_n hX dX7_combine_129 rfl ?_
          refine zw_aload_n hX dX7_combine_130 rfl ?_
          obtain ⟨w9, g, h⟩ := zb_some h
          refine zw_getl hX zl_X7_111 dX7_combine_131 g ?_
          refine zw_lload hX dX7_combine_134 rfl ?_
          obtain ⟨_, gi, h⟩ := zb_some h
          obtain ⟨r11, g, h⟩ := zb_some h
          refine zc_Vl (as := [.long w9, .long r8.1]) hX gi (zt_X7_subtract (d := d - 1) (by omega) g) zl_X7_145 rfl dX7_combine_136 ⟨rfl, rfl, Nat.le_of_ble_eq_true rfl⟩ ⟨by omega, by omega⟩ ?_
          refine zw_sub (lv' := [(0, .ref a0), (4, .long j4), (8, .long w2)]) (List.forall_mem_cons.mpr ⟨rfl, (List.forall_mem_cons.mpr ⟨rfl, (List.forall_mem_cons.mpr ⟨rfl, zs_nil⟩)⟩)⟩) ?_
          exact zt_X7_combine_J139 hX hr hR hd h
        · rw [if_pos c113] at h
          refine zw_aload_n hX dX7_combine_116 rfl ?_
          refine zw_aload_n hX dX7_combine_117 rfl ?_
          obtain ⟨w16, g, h⟩ := zb_some h
          refine zw_getl hX zl_X7_111 dX7_combine_118 g ?_
          refine zw_lload hX dX7_combine_121 rfl ?_
          obtain ⟨_, gi, h⟩ := zb_some h
          obtain ⟨r18, g, h⟩ := zb_some h
          refine zc_Vl (as := [.long w16, .long r8.1]) hX gi (zt_X7_add (d := d - 1) (by omega) g) zl_X7_142 rfl dX7_combine_123 ⟨rfl, rfl, Nat.le_of_ble_eq_true rfl⟩ ⟨by omega, by omega⟩ ?_
          refine zw_goto (tgt := 139) hX dX7_combine_126 (by decide) ?_
          refine zw_sub (lv' := [(0, .ref a0), (4, .long j4), (8, .long w2)]) (List.forall_mem_cons.mpr ⟨rfl, (List.forall_mem_cons.mpr ⟨rfl, (List.forall_mem_cons.mpr ⟨rfl, zs_nil⟩)⟩)⟩) ?_
          exact zt_X7_combine_J139 hX hr hR hd h
      · rw [if_pos c64] at h
        refine zw_aload_n hX dX7_combine_67 rfl ?_
        refine zw_aload_n hX dX7_combine_68 rfl ?_
        refine zw_lload hX dX7_combine_69 rfl ?_
        refine zw_lload hX dX7_combine_71 rfl ?_
        obtain ⟨_, gi, h⟩ := zb_some h
        obtain ⟨r20, g, h⟩ := zb_some h
        refine zc_Vl (as := [.long j4, .long w1]) hX gi (zt_X7_multiply (d := d - 1) (by omega) g) zl_X7_121 rfl dX7_combine_73 ⟨rfl, rfl, Nat.le_of_ble_eq_true rfl⟩ ⟨by omega, by omega⟩ ?_
        obtain ⟨S21, g, h⟩ := zb_some h
        refine zw_putv hX zl_X7_114 zt_7_15 dX7_combine_76 rfl rfl g ?_
        refine zw_aload_n hX dX7_combine_79 rfl ?_
        refine zw_lload hX dX7_combine_80 rfl ?_
        refine zw_lconst (v := (0 : Int64)) hX dX7_combine_82 (by decide) ?_
        refine zw_lcmp hX dX7_combine_83 ?_
        refine zw_if_ne (tgt := 91) hX dX7_combine_84 (by decide) (fun c84 => ?_) (fun c84 => ?_)
        · rw [if_neg c84] at h
          refine zw_aload_n hX dX7_combine_91 rfl ?_
          obtain ⟨v22, g, h⟩ := zb_some h
          refine zw_geti hX zl_X7_89 dX7_combine_92 g ?_
          obtain ⟨S23, g, h⟩ := zb_some h
          refine zw_putv hX zl_X7_89 zt_7_12 dX7_combine_95 rfl rfl g ?_
          obtain rfl := Option.some.inj h
          exact zw_vret hX hr dX7_combine_98 ⟨rfl, rfl⟩
        · rw [if_pos c84] at h
          refine zw_iconst (v := (3 : Int32)) hX dX7_combine_87 (by decide) ?_
          refine zw_goto (tgt := 95) hX dX7_combine_88 (by decide) ?_
          obtain ⟨S24, g, h⟩ := zb_some h
          refine zw_putv hX zl_X7_89 zt_7_12 dX7_combine_95 rfl rfl g ?_
          obtain rfl := Option.some.inj h
          exact zw_vret hX hr dX7_combine_98 ⟨rfl, rfl⟩
    · rw [if_pos c23] at h
      refine zw_aload_n hX dX7_combine_26 rfl ?_
      refine zw_aload_n hX dX7_combine_27 rfl ?_
      refine zw_lload_n hX dX7_combine_28 rfl ?_
      refine zw_lload hX dX7_combine_29 rfl ?_
      obtain ⟨_, gi, h⟩ := zb_some h
      obtain ⟨r26, g, h⟩ := zb_some h
      refine zc_Vl (as := [.long j2, .long w1]) hX gi (zt_X7_multiply (d := d - 1) (by omega) g) zl_X7_121 rfl dX7_combine_31 ⟨rfl, rfl, Nat.le_of_ble_eq_true rfl⟩ ⟨by omega, by omega⟩ ?_
      obtain ⟨S27, g, h⟩ := zb_some h
      refine zw_putv hX zl_X7_111 zt_7_14 dX7_combine_34 rfl rfl g ?_
      refine zw_aload_n hX dX7_combine_37 rfl ?_
      refine zw_aload_n hX dX7_combine_38 rfl ?_
      refine zw_lload hX dX7_combine_39 rfl ?_
      refine zw_lload hX dX7_combine_41 rfl ?_
      obtain ⟨_, gi, h⟩ := zb_some h
      obtain ⟨r29, g, h⟩ := zb_some h
      refine zc_Vl (as := [.long j4, .long w2]) hX gi (zt_X7_multiply (d := d - 1) (by omega) g) zl_X7_121 rfl dX7_combine_43 ⟨rfl, rfl, Nat.le_of_ble_eq_true rfl⟩ ⟨by omega, by omega⟩ ?_
      obtain ⟨S30, g, h⟩ := zb_some h
      refine zw_putv hX zl_X7_114 zt_7_15 dX7_combine_46 rfl rfl g ?_
      obtain rfl := Option.some.inj h
      exact zw_vret hX hr dX7_combine_49 ⟨rfl, rfl⟩
  · rw [if_neg c16] at h
    obtain rfl := Option.some.inj h
    exact zw_vret hX hr dX7_combine_19 ⟨rfl, rfl⟩
set_option maxHeartbeats 4000000 in
set_option maxRecDepth 100000 in
theorem zt_X7_commonBelowZero_L31 {p : Program} {l : Launch} {e : Env} {R : Room} {s : State} {m : MethodId} {args : Array Value} {below : List Frame} {meth : Method} {c : Code} {V : zm_V} {mc ms d rc rs : Nat} (hX : zm_X p R s m args meth c RX7 "commonBelowZero" cX7_commonBelowZero 11 zk_E V mc ms) (hr : meth.sig.returnType = (some .long)) (hR : R.frames = d ∧ R.locals = 64 * d) (hd : 1 ≤ d) {N : Nat} {res : (Int64 × zm_S) ⊕ ((Int64) × zm_S)} {out : (Int64 × zm_S)}  (hf : ∀ o, res = .inl o → o = out) (hk : ∀ (x4 : Int64) (S' : zm_S), res = .inr (x4, S') → zw p l e R s m args below meth c (vx_MQ below (zm_Qc zk_E V (zo_l out)) (zm_XC zk_E V zo_x) args s mc ms (fun q => V.2.2.2.1 ≤ q)) 11 zk_E V mc ms 66 [(4, .long x4)] [] S' rc rs) : ∀ (n : Nat) (j4 : Int64) (j6 : Int64) (i8 : Int32) (S : zm_S), zf_X7_commonBelowZero_L31 N n j4 j6 i8 S = some res → zw p l e R s m args below meth c (vx_MQ below (zm_Qc zk_E V (zo_l out)) (zm_XC zk_E V zo_x) args s mc ms (fun q => V.2.2.2.1 ≤ q)) 11 zk_E V mc ms 31 [(4, .long j4), (6, .long j6), (8, .int i8)] [] S rc rs := by
  intro n
  induction n with
  | zero => intro j4 j6 i8 S h; cases h
  | succ n ih =>
    intro j4 j6 i8 S h
    rw [zf_X7_commonBelowZero_L31] at h
    refine zw_iload hX dX7_commonBelowZero_31 rfl ?_
    refine zw_bipush (v := (100 : Int32)) hX dX7_commonBelowZero_33 (by decide) ?_
    refine zw_icmp_ge (tgt := 66) hX dX7_commonBelowZero_35 (by decide) (fun c35 => ?_) (fun c35 => ?_)
    · rw [if_pos c35] at h
      refine zw_sub (lv' := [(4, .long j4)]) (List.forall_mem_cons.mpr ⟨rfl, zs_nil⟩) ?_
      exact hk _ _ (Option.some.inj h).symm
    · rw [if_neg c35] at h
      refine zw_lload hX dX7_commonBelowZero_38 rfl ?_
      refine zw_lconst (v := (0 : Int64)) hX dX7_commonBelowZero_40 (by decide) ?_
      refine zw_lcmp hX dX7_commonBelowZero_41 ?_
      refine zw_if_eq (tgt := 66) hX dX7_commonBelowZero_42 (by decide) (fun c42 => ?_) (fun c42 => ?_)
      · rw [if_pos c42] at h
        refine zw_sub (lv' := [(4, .long j4)]) (List.forall_mem_cons.mpr ⟨rfl, zs_nil⟩) ?_
        exact hk _ _ (Option.some.inj h).symm
      · rw [if_neg c42] at h
        refine zw_lload hX dX7_commonBelowZero_45 rfl ?_
        refine zw_lload hX dX7_commonBelowZero_47 rfl ?_
        by_cases c0 : j6 = 0
        · rw [if_pos c0] at h
          cases h
        rw [if_neg c0] at h
        refine zw_lrem hX dX7_commonBelowZero_49 c0 ?_
        refine zw_lstore hX dX7_commonBelowZero_50 (by decide) ?_
        refine zw_lload hX dX7_commonBelowZero_52 rfl ?_
        refine zw_lstore hX dX7_commonBelowZero_54 (by decide) ?_
        refine zw_lload hX dX7_commonBelowZero_56 rfl ?_
        refine zw_lstore hX dX7_commonBelowZero_58 (by decide) ?_
        refine zw_iinc (v := (i8 + (1 : Int32))) hX dX7_commonBelowZero_60 rfl rfl (by decide) ?_
        refine zw_goto (tgt := 31) hX dX7_commonBelowZero_63 (by decide) ?_
        refine zw_sub (lv' := [(4, .long j6), (6, .long (j4 - j4 / j6 * j6)), (8, .int (i8 + (1 : Int32)))]) (List.forall_mem_cons.mpr ⟨rfl, (List.forall_mem_cons.mpr ⟨rfl, (List.forall_mem_cons.mpr ⟨rfl, zs_nil⟩)⟩)⟩) ?_
        exact ih _ _ _ _ h
set_option maxHeartbeats 4000000 in
set_option maxRecDepth 100000 in
theorem zt_X7_commonBelowZero_J26 {p : Program} {l : Launch} {e : Env} {R : Room} {s : State} {m : MethodId} {args : Array Value} {below : List Frame} {meth : Method} {c : Code} {V : zm_V} {mc ms d rc rs : Nat} (hX : zm_X p R s m args meth c RX7 "commonBelowZero" cX7_commonBelowZero 11 zk_E V mc ms) (hr : meth.sig.returnType = (some .long)) (hR : R.frames = d ∧ R.locals = 64 * d) (hd : 1 ≤ d) {N : Nat} {j4 : Int64} {t0 : Int64} {out : (Int64 × zm_S)} {S : zm_S} (h : zf_X7_commonBelowZero_J26 N j4 t0 S = some out) : zw p l e R s m args below meth c (vx_MQ below (zm_Qc zk_E V (zo_l out)) (zm_XC zk_E V zo_x) args s mc ms (fun q => V.2.2.2.1 ≤ q)) 11 zk_E V mc ms 26 [(4, .long j4)] [.long t0] S rc rs := by
  unfold zf_X7_commonBelowZero_J26 at h
  refine zw_lstore hX dX7_commonBelowZero_26 (by decide) ?_
  refine zw_iconst (v := (0 : Int32)) hX dX7_commonBelowZero_28 (by decide) ?_
  refine zw_istore hX dX7_commonBelowZero_29 (by decide) ?_
  obtain ⟨r, g, h⟩ := zb_some h
  refine zw_sub (lv' := [(4, .long j4), (6, .long t0), (8, .int (0 : Int32))]) (List.forall_mem_cons.mpr ⟨rfl, (List.forall_mem_cons.mpr ⟨rfl, (List.forall_mem_cons.mpr ⟨rfl, zs_nil⟩)⟩)⟩) ?_
  refine zt_X7_commonBelowZero_L31 hX hr hR hd (res := r) (out := out)  ?_ ?_ N _ _ _ _ g
  · intro o ho
    subst ho
    exact Option.some.inj h
  · intro w2 S1 hx
    subst hx
    try dsimp only at h
    refine zw_lload hX dX7_commonBelowZero_66 rfl ?_
    obtain rfl := Option.some.inj h
    exact zw_lret hX hr dX7_commonBelowZero_68 ⟨rfl, rfl⟩
set_option maxHeartbeats 4000000 in
set_option maxRecDepth 100000 in
theorem zt_X7_commonBelowZero_J12 {p : Program} {l : Launch} {e : Env} {R : Room} {s : State} {m : MethodId} {args : Array Value} {below : List Frame} {meth : Method} {c : Code} {V : zm_V} {mc ms d rc rs : Nat} (hX : zm_X p R s m args meth c RX7 "commonBelowZero" cX7_commonBelowZero 11 zk_E V mc ms) (hr : meth.sig.returnType = (some .long)) (hR : R.frames = d ∧ R.locals = 64 * d) (hd : 1 ≤ d) {N : Nat} {j2 : Int64} {t0 : Int64} {out : (Int64 × zm_S)} {S : zm_S} (h : zf_X7_commonBelowZero_J12 N j2 t0 S = some out) : zw p l e R s m args below meth c (vx_MQ below (zm_Qc zk_E V (zo_l out)) (zm_XC zk_E V zo_x) args s mc ms (fun q => V.2.2.2.1 ≤ q)) 11 zk_E V mc ms 12 [(2, .long j2)] [.long t0] S rc rs := by
  unfold zf_X7_commonBelowZero_J12 at h
  refine zw_lstore hX dX7_commonBelowZero_12 (by decide) ?_
  refine zw_lload_n hX dX7_commonBelowZero_14 rfl ?_
  refine zw_lconst (v := (0 : Int64)) hX dX7_commonBelowZero_15 (by decide) ?_
  refine zw_lcmp hX dX7_commonBelowZero_16 ?_
  refine zw_if_le (tgt := 25) hX dX7_commonBelowZero_17 (by decide) (fun c17 => ?_) (fun c17 => ?_)
  · rw [if_pos c17] at h
    refine zw_lload_n hX dX7_commonBelowZero_25 rfl ?_
    refine zw_sub (lv' := [(4, .long t0)]) (List.forall_mem_cons.mpr ⟨rfl, zs_nil⟩) ?_
    exact zt_X7_commonBelowZero_J26 hX hr hR hd h
  · rw [if_neg c17] at h
    refine zw_lload_n hX dX7_commonBelowZero_20 rfl ?_
    refine zw_lneg hX dX7_commonBelowZero_21 ?_
    refine zw_goto (tgt := 26) hX dX7_commonBelowZero_22 (by decide) ?_
    refine zw_sub (lv' := [(4, .long t0)]) (List.forall_mem_cons.mpr ⟨rfl, zs_nil⟩) ?_
    exact zt_X7_commonBelowZero_J26 hX hr hR hd h
set_option maxHeartbeats 4000000 in
set_option maxRecDepth 100000 in
theorem zt_X7_commonBelowZero {l : Launch} {V : zm_V} {N : Nat} {S : zm_S} {out : (Int64 × zm_S)} {d : Nat} {j0 : Int64} {j2 : Int64} (hd : 1 ≤ d) (h : zf_X7_commonBelowZero N j0 j2 S = some out) : zm_Met l zk_E V yX7_commonBelowZero (.code yX7_commonBelowZero cX7_commonBelowZero 11 (some .long)) d [.long j0, .long j2] S 0 0 (zo_l out) zo_x := by
  refine zm_of (by decide +kernel) (Nat.le_of_ble_eq_true rfl) ?_
  intro p e R s m args below meth c hRR hX hr hxt
  have hR : R.frames = d ∧ R.locals = 64 * d := by rw [hRR]; exact ⟨rfl, rfl⟩
  have hX : zm_X p R s m args meth c RX7 "commonBelowZero" cX7_commonBelowZero 11 zk_E V 0 0 := hX
  unfold zf_X7_commonBelowZero at h
  refine zw_sub (lv' := [(0, .long j0), (2, .long j2)]) (List.forall_mem_cons.mpr ⟨rfl, (List.forall_mem_cons.mpr ⟨rfl, zs_nil⟩)⟩) ?_
  refine zw_lload_n hX dX7_commonBelowZero_0 rfl ?_
  refine zw_lconst (v := (0 : Int64)) hX dX7_commonBelowZero_1 (by decide) ?_
  refine zw_lcmp hX dX7_commonBelowZero_2 ?_
  refine zw_if_le (tgt := 11) hX dX7_commonBelowZero_3 (by decide) (fun c3 => ?_) (fun c3 => ?_)
  · rw [if_pos c3] at h
    refine zw_lload_n hX dX7_commonBelowZero_11 rfl ?_
    refine zw_sub (lv' := [(2, .long j2)]) (List.forall_mem_cons.mpr ⟨rfl, zs_nil⟩) ?_
    exact zt_X7_commonBelowZero_J12 hX hr hR hd h
  · rw [if_neg c3] at h
    refine zw_lload_n hX dX7_commonBelowZero_6 rfl ?_
    refine zw_lneg hX dX7_commonBelowZero_7 ?_
    refine zw_goto (tgt := 12) hX dX7_commonBelowZero_8 (by decide) ?_
    refine zw_sub (lv' := [(2, .long j2)]) (List.forall_mem_cons.mpr ⟨rfl, zs_nil⟩) ?_
    exact zt_X7_commonBelowZero_J12 hX hr hR hd h

