/-! ===== functions of methods, by program (wip/whole/tools/gen11.py) ===== -/
theorem dX6_isRuleName_0 : decode cX6_isRuleName 0 = .ok (.iconst 0, 1) := by decide +kernel
theorem dX6_isRuleName_1 : decode cX6_isRuleName 1 = .ok (.istore_n 3, 1) := by decide +kernel
theorem dX6_isRuleName_2 : decode cX6_isRuleName 2 = .ok (.iload_n 3, 1) := by decide +kernel
theorem dX6_isRuleName_3 : decode cX6_isRuleName 3 = .ok (.aload_n 0, 1) := by decide +kernel
theorem dX6_isRuleName_4 : decode cX6_isRuleName 4 = .ok (.getfield 49, 3) := by decide +kernel
theorem dX6_isRuleName_7 : decode cX6_isRuleName 7 = .ok (.if_icmp .ge 22, 3) := by decide +kernel
theorem dX6_isRuleName_10 : decode cX6_isRuleName 10 = .ok (.aload_n 0, 1) := by decide +kernel
theorem dX6_isRuleName_11 : decode cX6_isRuleName 11 = .ok (.getfield 24, 3) := by decide +kernel
theorem dX6_isRuleName_14 : decode cX6_isRuleName 14 = .ok (.iload_n 3, 1) := by decide +kernel
theorem dX6_isRuleName_15 : decode cX6_isRuleName 15 = .ok (.laload, 1) := by decide +kernel
theorem dX6_isRuleName_16 : decode cX6_isRuleName 16 = .ok (.lload_n 1, 1) := by decide +kernel
theorem dX6_isRuleName_17 : decode cX6_isRuleName 17 = .ok (.lcmp, 1) := by decide +kernel
theorem dX6_isRuleName_18 : decode cX6_isRuleName 18 = .ok (.ifCond .ne 5, 3) := by decide +kernel
theorem dX6_isRuleName_23 : decode cX6_isRuleName 23 = .ok (.iinc 3 1, 3) := by decide +kernel
theorem dX6_isRuleName_26 : decode cX6_isRuleName 26 = .ok (.goto (-24), 3) := by decide +kernel
theorem dX6_isRuleName_21 : decode cX6_isRuleName 21 = .ok (.iconst 1, 1) := by decide +kernel
theorem dX6_isRuleName_22 : decode cX6_isRuleName 22 = .ok (.ireturn, 1) := by decide +kernel
theorem dX6_isRuleName_29 : decode cX6_isRuleName 29 = .ok (.iconst 0, 1) := by decide +kernel
theorem dX6_isRuleName_30 : decode cX6_isRuleName 30 = .ok (.ireturn, 1) := by decide +kernel
theorem dX6_skipSign_0 : decode cX6_skipSign 0 = .ok (.aload_n 0, 1) := by decide +kernel
theorem dX6_skipSign_1 : decode cX6_skipSign 1 = .ok (.getfield 13, 3) := by decide +kernel
theorem dX6_skipSign_4 : decode cX6_skipSign 4 = .ok (.aload_n 0, 1) := by decide +kernel
theorem dX6_skipSign_5 : decode cX6_skipSign 5 = .ok (.getfield 43, 3) := by decide +kernel
theorem dX6_skipSign_8 : decode cX6_skipSign 8 = .ok (.iaload, 1) := by decide +kernel
theorem dX6_skipSign_9 : decode cX6_skipSign 9 = .ok (.iload_n 1, 1) := by decide +kernel
theorem dX6_skipSign_10 : decode cX6_skipSign 10 = .ok (.if_icmp .ne 12, 3) := by decide +kernel
theorem dX6_skipSign_22 : decode cX6_skipSign 22 = .ok (.iconst 0, 1) := by decide +kernel
theorem dX6_skipSign_23 : decode cX6_skipSign 23 = .ok (.ireturn, 1) := by decide +kernel
theorem dX6_skipSign_13 : decode cX6_skipSign 13 = .ok (.aload_n 0, 1) := by decide +kernel
theorem dX6_skipSign_14 : decode cX6_skipSign 14 = .ok (.getfield 43, 3) := by decide +kernel
theorem dX6_skipSign_17 : decode cX6_skipSign 17 = .ok (.bipush 120, 2) := by decide +kernel
theorem dX6_skipSign_19 : decode cX6_skipSign 19 = .ok (.if_icmp .lt 5, 3) := by decide +kernel
theorem dX6_skipSign_24 : decode cX6_skipSign 24 = .ok (.aload_n 0, 1) := by decide +kernel
theorem dX6_skipSign_25 : decode cX6_skipSign 25 = .ok (.dup, 1) := by decide +kernel
theorem dX6_skipSign_26 : decode cX6_skipSign 26 = .ok (.getfield 43, 3) := by decide +kernel
theorem dX6_skipSign_29 : decode cX6_skipSign 29 = .ok (.iconst 1, 1) := by decide +kernel
theorem dX6_skipSign_30 : decode cX6_skipSign 30 = .ok (.iadd, 1) := by decide +kernel
theorem dX6_skipSign_31 : decode cX6_skipSign 31 = .ok (.putfield 43, 3) := by decide +kernel
theorem dX6_skipSign_34 : decode cX6_skipSign 34 = .ok (.iconst 1, 1) := by decide +kernel
theorem dX6_skipSign_35 : decode cX6_skipSign 35 = .ok (.ireturn, 1) := by decide +kernel
theorem dX6_skipCompareSign_0 : decode cX6_skipCompareSign 0 = .ok (.aload_n 0, 1) := by decide +kernel
theorem dX6_skipCompareSign_1 : decode cX6_skipCompareSign 1 = .ok (.bipush 60, 2) := by decide +kernel
theorem dX6_skipCompareSign_3 : decode cX6_skipCompareSign 3 = .ok (.invokevirtual 56, 3) := by decide +kernel
theorem dX6_skipCompareSign_6 : decode cX6_skipCompareSign 6 = .ok (.ifCond .ne 39, 3) := by decide +kernel
theorem dX6_skipCompareSign_45 : decode cX6_skipCompareSign 45 = .ok (.iconst 1, 1) := by decide +kernel
theorem dX6_skipCompareSign_46 : decode cX6_skipCompareSign 46 = .ok (.goto 4, 3) := by decide +kernel
theorem dX6_skipCompareSign_50 : decode cX6_skipCompareSign 50 = .ok (.ireturn, 1) := by decide +kernel
theorem dX6_skipCompareSign_9 : decode cX6_skipCompareSign 9 = .ok (.aload_n 0, 1) := by decide +kernel
theorem dX6_skipCompareSign_10 : decode cX6_skipCompareSign 10 = .ok (.bipush 108, 2) := by decide +kernel
theorem dX6_skipCompareSign_12 : decode cX6_skipCompareSign 12 = .ok (.invokevirtual 56, 3) := by decide +kernel
theorem dX6_skipCompareSign_15 : decode cX6_skipCompareSign 15 = .ok (.ifCond .ne 30, 3) := by decide +kernel
theorem dX6_skipCompareSign_18 : decode cX6_skipCompareSign 18 = .ok (.aload_n 0, 1) := by decide +kernel
theorem dX6_skipCompareSign_19 : decode cX6_skipCompareSign 19 = .ok (.bipush 61, 2) := by decide +kernel
theorem dX6_skipCompareSign_21 : decode cX6_skipCompareSign 21 = .ok (.invokevirtual 56, 3) := by decide +kernel
theorem dX6_skipCompareSign_24 : decode cX6_skipCompareSign 24 = .ok (.ifCond .ne 21, 3) := by decide +kernel
theorem dX6_skipCompareSign_27 : decode cX6_skipCompareSign 27 = .ok (.aload_n 0, 1) := by decide +kernel
theorem dX6_skipCompareSign_28 : decode cX6_skipCompareSign 28 = .ok (.bipush 103, 2) := by decide +kernel
theorem dX6_skipCompareSign_30 : decode cX6_skipCompareSign 30 = .ok (.invokevirtual 56, 3) := by decide +kernel
theorem dX6_skipCompareSign_33 : decode cX6_skipCompareSign 33 = .ok (.ifCond .ne 12, 3) := by decide +kernel
theorem dX6_skipCompareSign_36 : decode cX6_skipCompareSign 36 = .ok (.aload_n 0, 1) := by decide +kernel
theorem dX6_skipCompareSign_37 : decode cX6_skipCompareSign 37 = .ok (.bipush 62, 2) := by decide +kernel
theorem dX6_skipCompareSign_39 : decode cX6_skipCompareSign 39 = .ok (.invokevirtual 56, 3) := by decide +kernel
theorem dX6_skipCompareSign_42 : decode cX6_skipCompareSign 42 = .ok (.ifCond .eq 7, 3) := by decide +kernel
theorem dX6_skipCompareSign_49 : decode cX6_skipCompareSign 49 = .ok (.iconst 0, 1) := by decide +kernel
theorem dX7_isFactName_0 : decode cX7_isFactName 0 = .ok (.lload_n 0, 1) := by decide +kernel
theorem dX7_isFactName_1 : decode cX7_isFactName 1 = .ok (.lstore_n 2, 1) := by decide +kernel
theorem dX7_isFactName_2 : decode cX7_isFactName 2 = .ok (.iconst 0, 1) := by decide +kernel
theorem dX7_isFactName_3 : decode cX7_isFactName 3 = .ok (.istore 4, 2) := by decide +kernel
theorem dX7_isFactName_5 : decode cX7_isFactName 5 = .ok (.iload 4, 2) := by decide +kernel
theorem dX7_isFactName_7 : decode cX7_isFactName 7 = .ok (.bipush 8, 2) := by decide +kernel
theorem dX7_isFactName_9 : decode cX7_isFactName 9 = .ok (.if_icmp .ge 47, 3) := by decide +kernel
theorem dX7_isFactName_12 : decode cX7_isFactName 12 = .ok (.lload_n 2, 1) := by decide +kernel
theorem dX7_isFactName_13 : decode cX7_isFactName 13 = .ok (.lconst 0, 1) := by decide +kernel
theorem dX7_isFactName_14 : decode cX7_isFactName 14 = .ok (.lcmp, 1) := by decide +kernel
theorem dX7_isFactName_15 : decode cX7_isFactName 15 = .ok (.ifCond .eq 41, 3) := by decide +kernel
theorem dX7_isFactName_18 : decode cX7_isFactName 18 = .ok (.lload_n 2, 1) := by decide +kernel
theorem dX7_isFactName_19 : decode cX7_isFactName 19 = .ok (.ldc2_w 60, 3) := by decide +kernel
theorem dX7_isFactName_22 : decode cX7_isFactName 22 = .ok (.land, 1) := by decide +kernel
theorem dX7_isFactName_23 : decode cX7_isFactName 23 = .ok (.lstore 5, 2) := by decide +kernel
theorem dX7_isFactName_25 : decode cX7_isFactName 25 = .ok (.lload 5, 2) := by decide +kernel
theorem dX7_isFactName_27 : decode cX7_isFactName 27 = .ok (.ldc2_w 62, 3) := by decide +kernel
theorem dX7_isFactName_30 : decode cX7_isFactName 30 = .ok (.lcmp, 1) := by decide +kernel
theorem dX7_isFactName_31 : decode cX7_isFactName 31 = .ok (.ifCond .lt 12, 3) := by decide +kernel
theorem dX7_isFactName_43 : decode cX7_isFactName 43 = .ok (.iconst 0, 1) := by decide +kernel
theorem dX7_isFactName_44 : decode cX7_isFactName 44 = .ok (.ireturn, 1) := by decide +kernel
theorem dX7_isFactName_34 : decode cX7_isFactName 34 = .ok (.lload 5, 2) := by decide +kernel
theorem dX7_isFactName_36 : decode cX7_isFactName 36 = .ok (.ldc2_w 64, 3) := by decide +kernel
theorem dX7_isFactName_39 : decode cX7_isFactName 39 = .ok (.lcmp, 1) := by decide +kernel
theorem dX7_isFactName_40 : decode cX7_isFactName 40 = .ok (.ifCond .le 5, 3) := by decide +kernel
theorem dX7_isFactName_45 : decode cX7_isFactName 45 = .ok (.lload_n 2, 1) := by decide +kernel
theorem dX7_isFactName_46 : decode cX7_isFactName 46 = .ok (.bipush 8, 2) := by decide +kernel
theorem dX7_isFactName_48 : decode cX7_isFactName 48 = .ok (.lushr, 1) := by decide +kernel
theorem dX7_isFactName_49 : decode cX7_isFactName 49 = .ok (.lstore_n 2, 1) := by decide +kernel
theorem dX7_isFactName_50 : decode cX7_isFactName 50 = .ok (.iinc 4 1, 3) := by decide +kernel
theorem dX7_isFactName_53 : decode cX7_isFactName 53 = .ok (.goto (-48), 3) := by decide +kernel
theorem dX7_isFactName_56 : decode cX7_isFactName 56 = .ok (.lload_n 0, 1) := by decide +kernel
theorem dX7_isFactName_57 : decode cX7_isFactName 57 = .ok (.lconst 0, 1) := by decide +kernel
theorem dX7_isFactName_58 : decode cX7_isFactName 58 = .ok (.lcmp, 1) := by decide +kernel
theorem dX7_isFactName_59 : decode cX7_isFactName 59 = .ok (.ifCond .eq 7, 3) := by decide +kernel
theorem dX7_isFactName_66 : decode cX7_isFactName 66 = .ok (.iconst 0, 1) := by decide +kernel
theorem dX7_isFactName_67 : decode cX7_isFactName 67 = .ok (.ireturn, 1) := by decide +kernel
theorem dX7_isFactName_62 : decode cX7_isFactName 62 = .ok (.iconst 1, 1) := by decide +kernel
theorem dX7_isFactName_63 : decode cX7_isFactName 63 = .ok (.goto 4, 3) := by decide +kernel
theorem dX7_findFact_0 : decode cX7_findFact 0 = .ok (.iconst 0, 1) := by decide +kernel
theorem dX7_findFact_1 : decode cX7_findFact 1 = .ok (.istore_n 3, 1) := by decide +kernel
theorem dX7_findFact_2 : decode cX7_findFact 2 = .ok (.iload_n 3, 1) := by decide +kernel
theorem dX7_findFact_3 : decode cX7_findFact 3 = .ok (.aload_n 0, 1) := by decide +kernel
theorem dX7_findFact_4 : decode cX7_findFact 4 = .ok (.getfield 66, 3) := by decide +kernel
theorem dX7_findFact_7 : decode cX7_findFact 7 = .ok (.if_icmp .ge 22, 3) := by decide +kernel
theorem dX7_findFact_10 : decode cX7_findFact 10 = .ok (.aload_n 0, 1) := by decide +kernel
theorem dX7_findFact_11 : decode cX7_findFact 11 = .ok (.getfield 35, 3) := by decide +kernel
theorem dX7_findFact_14 : decode cX7_findFact 14 = .ok (.iload_n 3, 1) := by decide +kernel
theorem dX7_findFact_15 : decode cX7_findFact 15 = .ok (.laload, 1) := by decide +kernel
theorem dX7_findFact_16 : decode cX7_findFact 16 = .ok (.lload_n 1, 1) := by decide +kernel
theorem dX7_findFact_17 : decode cX7_findFact 17 = .ok (.lcmp, 1) := by decide +kernel
theorem dX7_findFact_18 : decode cX7_findFact 18 = .ok (.ifCond .ne 5, 3) := by decide +kernel
theorem dX7_findFact_23 : decode cX7_findFact 23 = .ok (.iinc 3 1, 3) := by decide +kernel
theorem dX7_findFact_26 : decode cX7_findFact 26 = .ok (.goto (-24), 3) := by decide +kernel
theorem dX7_findFact_21 : decode cX7_findFact 21 = .ok (.iload_n 3, 1) := by decide +kernel
theorem dX7_findFact_22 : decode cX7_findFact 22 = .ok (.ireturn, 1) := by decide +kernel
theorem dX7_findFact_29 : decode cX7_findFact 29 = .ok (.iconst (-1), 1) := by decide +kernel
theorem dX7_findFact_30 : decode cX7_findFact 30 = .ok (.ireturn, 1) := by decide +kernel
theorem dX7_hasRoomForFact_0 : decode cX7_hasRoomForFact 0 = .ok (.aload_n 0, 1) := by decide +kernel
theorem dX7_hasRoomForFact_1 : decode cX7_hasRoomForFact 1 = .ok (.getfield 66, 3) := by decide +kernel
theorem dX7_hasRoomForFact_4 : decode cX7_hasRoomForFact 4 = .ok (.bipush 40, 2) := by decide +kernel
theorem dX7_hasRoomForFact_6 : decode cX7_hasRoomForFact 6 = .ok (.if_icmp .lt 12, 3) := by decide +kernel
theorem dX7_hasRoomForFact_18 : decode cX7_hasRoomForFact 18 = .ok (.iconst 1, 1) := by decide +kernel
theorem dX7_hasRoomForFact_19 : decode cX7_hasRoomForFact 19 = .ok (.goto 4, 3) := by decide +kernel
theorem dX7_hasRoomForFact_23 : decode cX7_hasRoomForFact 23 = .ok (.ireturn, 1) := by decide +kernel
theorem dX7_hasRoomForFact_9 : decode cX7_hasRoomForFact 9 = .ok (.aload_n 0, 1) := by decide +kernel
theorem dX7_hasRoomForFact_10 : decode cX7_hasRoomForFact 10 = .ok (.lload_n 1, 1) := by decide +kernel
theorem dX7_hasRoomForFact_11 : decode cX7_hasRoomForFact 11 = .ok (.invokevirtual 69, 3) := by decide +kernel
theorem dX7_hasRoomForFact_14 : decode cX7_hasRoomForFact 14 = .ok (.iconst (-1), 1) := by decide +kernel
theorem dX7_hasRoomForFact_15 : decode cX7_hasRoomForFact 15 = .ok (.if_icmp .eq 7, 3) := by decide +kernel
theorem dX7_hasRoomForFact_22 : decode cX7_hasRoomForFact 22 = .ok (.iconst 0, 1) := by decide +kernel
theorem dX7_setFact_0 : decode cX7_setFact 0 = .ok (.aload_n 0, 1) := by decide +kernel
theorem dX7_setFact_1 : decode cX7_setFact 1 = .ok (.lload_n 1, 1) := by decide +kernel
theorem dX7_setFact_2 : decode cX7_setFact 2 = .ok (.invokevirtual 69, 3) := by decide +kernel
theorem dX7_setFact_5 : decode cX7_setFact 5 = .ok (.istore 4, 2) := by decide +kernel
theorem dX7_setFact_7 : decode cX7_setFact 7 = .ok (.iload 4, 2) := by decide +kernel
theorem dX7_setFact_9 : decode cX7_setFact 9 = .ok (.iconst (-1), 1) := by decide +kernel
theorem dX7_setFact_10 : decode cX7_setFact 10 = .ok (.if_icmp .eq 24, 3) := by decide +kernel
theorem dX7_setFact_34 : decode cX7_setFact 34 = .ok (.aload_n 0, 1) := by decide +kernel
theorem dX7_setFact_35 : decode cX7_setFact 35 = .ok (.getfield 66, 3) := by decide +kernel
theorem dX7_setFact_38 : decode cX7_setFact 38 = .ok (.bipush 40, 2) := by decide +kernel
theorem dX7_setFact_40 : decode cX7_setFact 40 = .ok (.if_icmp .ge 33, 3) := by decide +kernel
theorem dX7_setFact_73 : decode cX7_setFact 73 = .ok (.ldc2_w 73, 3) := by decide +kernel
theorem dX7_setFact_76 : decode cX7_setFact 76 = .ok (.lreturn, 1) := by decide +kernel
theorem dX7_setFact_43 : decode cX7_setFact 43 = .ok (.aload_n 0, 1) := by decide +kernel
theorem dX7_setFact_44 : decode cX7_setFact 44 = .ok (.getfield 35, 3) := by decide +kernel
theorem dX7_setFact_47 : decode cX7_setFact 47 = .ok (.aload_n 0, 1) := by decide +kernel
theorem dX7_setFact_48 : decode cX7_setFact 48 = .ok (.getfield 66, 3) := by decide +kernel
theorem dX7_setFact_51 : decode cX7_setFact 51 = .ok (.lload_n 1, 1) := by decide +kernel
theorem dX7_setFact_52 : decode cX7_setFact 52 = .ok (.lastore, 1) := by decide +kernel
theorem dX7_setFact_53 : decode cX7_setFact 53 = .ok (.aload_n 0, 1) := by decide +kernel
theorem dX7_setFact_54 : decode cX7_setFact 54 = .ok (.getfield 38, 3) := by decide +kernel
theorem dX7_setFact_57 : decode cX7_setFact 57 = .ok (.aload_n 0, 1) := by decide +kernel
theorem dX7_setFact_58 : decode cX7_setFact 58 = .ok (.getfield 66, 3) := by decide +kernel
theorem dX7_setFact_61 : decode cX7_setFact 61 = .ok (.iload_n 3, 1) := by decide +kernel
theorem dX7_setFact_62 : decode cX7_setFact 62 = .ok (.iastore, 1) := by decide +kernel
theorem dX7_setFact_63 : decode cX7_setFact 63 = .ok (.aload_n 0, 1) := by decide +kernel
theorem dX7_setFact_64 : decode cX7_setFact 64 = .ok (.dup, 1) := by decide +kernel
theorem dX7_setFact_65 : decode cX7_setFact 65 = .ok (.getfield 66, 3) := by decide +kernel
theorem dX7_setFact_68 : decode cX7_setFact 68 = .ok (.iconst 1, 1) := by decide +kernel
theorem dX7_setFact_69 : decode cX7_setFact 69 = .ok (.iadd, 1) := by decide +kernel
theorem dX7_setFact_70 : decode cX7_setFact 70 = .ok (.putfield 66, 3) := by decide +kernel
theorem dX7_setFact_13 : decode cX7_setFact 13 = .ok (.aload_n 0, 1) := by decide +kernel
theorem dX7_setFact_14 : decode cX7_setFact 14 = .ok (.getfield 38, 3) := by decide +kernel
theorem dX7_setFact_17 : decode cX7_setFact 17 = .ok (.iload 4, 2) := by decide +kernel
theorem dX7_setFact_19 : decode cX7_setFact 19 = .ok (.iaload, 1) := by decide +kernel
theorem dX7_setFact_20 : decode cX7_setFact 20 = .ok (.i2l, 1) := by decide +kernel
theorem dX7_setFact_21 : decode cX7_setFact 21 = .ok (.lstore 5, 2) := by decide +kernel
theorem dX7_setFact_23 : decode cX7_setFact 23 = .ok (.aload_n 0, 1) := by decide +kernel
theorem dX7_setFact_24 : decode cX7_setFact 24 = .ok (.getfield 38, 3) := by decide +kernel
theorem dX7_setFact_27 : decode cX7_setFact 27 = .ok (.iload 4, 2) := by decide +kernel
theorem dX7_setFact_29 : decode cX7_setFact 29 = .ok (.iload_n 3, 1) := by decide +kernel
theorem dX7_setFact_30 : decode cX7_setFact 30 = .ok (.iastore, 1) := by decide +kernel
theorem dX7_setFact_31 : decode cX7_setFact 31 = .ok (.lload 5, 2) := by decide +kernel
theorem dX7_setFact_33 : decode cX7_setFact 33 = .ok (.lreturn, 1) := by decide +kernel
theorem dJ7_fill_d0a16_0 : decode cJ7_fill_d0a16 0 = .ok (.iconst 0, 1) := by decide +kernel
theorem dJ7_fill_d0a16_1 : decode cJ7_fill_d0a16 1 = .ok (.istore_n 3, 1) := by decide +kernel
theorem dJ7_fill_d0a16_2 : decode cJ7_fill_d0a16 2 = .ok (.aload_n 0, 1) := by decide +kernel
theorem dJ7_fill_d0a16_3 : decode cJ7_fill_d0a16 3 = .ok (.arraylength, 1) := by decide +kernel
theorem dJ7_fill_d0a16_4 : decode cJ7_fill_d0a16 4 = .ok (.istore 4, 2) := by decide +kernel
theorem dJ7_fill_d0a16_6 : decode cJ7_fill_d0a16 6 = .ok (.iload_n 3, 1) := by decide +kernel
theorem dJ7_fill_d0a16_7 : decode cJ7_fill_d0a16 7 = .ok (.iload 4, 2) := by decide +kernel
theorem dJ7_fill_d0a16_9 : decode cJ7_fill_d0a16 9 = .ok (.if_icmp .ge 13, 3) := by decide +kernel
theorem dJ7_fill_d0a16_12 : decode cJ7_fill_d0a16 12 = .ok (.aload_n 0, 1) := by decide +kernel
theorem dJ7_fill_d0a16_13 : decode cJ7_fill_d0a16 13 = .ok (.iload_n 3, 1) := by decide +kernel
theorem dJ7_fill_d0a16_14 : decode cJ7_fill_d0a16 14 = .ok (.lload_n 1, 1) := by decide +kernel
theorem dJ7_fill_d0a16_15 : decode cJ7_fill_d0a16 15 = .ok (.lastore, 1) := by decide +kernel
theorem dJ7_fill_d0a16_16 : decode cJ7_fill_d0a16 16 = .ok (.iinc 3 1, 3) := by decide +kernel
theorem dJ7_fill_d0a16_19 : decode cJ7_fill_d0a16 19 = .ok (.goto (-13), 3) := by decide +kernel
theorem dJ7_fill_d0a16_22 : decode cJ7_fill_d0a16 22 = .ok (.return_, 1) := by decide +kernel
theorem dX7_takeWord_0 : decode cX7_takeWord 0 = .ok (.aload_n 0, 1) := by decide +kernel
theorem dX7_takeWord_1 : decode cX7_takeWord 1 = .ok (.getfield 11, 3) := by decide +kernel
theorem dX7_takeWord_4 : decode cX7_takeWord 4 = .ok (.aload_n 0, 1) := by decide +kernel
theorem dX7_takeWord_5 : decode cX7_takeWord 5 = .ok (.getfield 96, 3) := by decide +kernel
theorem dX7_takeWord_8 : decode cX7_takeWord 8 = .ok (.iaload, 1) := by decide +kernel
theorem dX7_takeWord_9 : decode cX7_takeWord 9 = .ok (.istore_n 1, 1) := by decide +kernel
theorem dX7_takeWord_10 : decode cX7_takeWord 10 = .ok (.aload_n 0, 1) := by decide +kernel
theorem dX7_takeWord_11 : decode cX7_takeWord 11 = .ok (.getfield 96, 3) := by decide +kernel
theorem dX7_takeWord_14 : decode cX7_takeWord 14 = .ok (.bipush 120, 2) := by decide +kernel
theorem dX7_takeWord_16 : decode cX7_takeWord 16 = .ok (.if_icmp .ge 13, 3) := by decide +kernel
theorem dX7_takeWord_29 : decode cX7_takeWord 29 = .ok (.iload_n 1, 1) := by decide +kernel
theorem dX7_takeWord_30 : decode cX7_takeWord 30 = .ok (.ireturn, 1) := by decide +kernel
theorem dX7_takeWord_19 : decode cX7_takeWord 19 = .ok (.aload_n 0, 1) := by decide +kernel
theorem dX7_takeWord_20 : decode cX7_takeWord 20 = .ok (.dup, 1) := by decide +kernel
theorem dX7_takeWord_21 : decode cX7_takeWord 21 = .ok (.getfield 96, 3) := by decide +kernel
theorem dX7_takeWord_24 : decode cX7_takeWord 24 = .ok (.iconst 1, 1) := by decide +kernel
theorem dX7_takeWord_25 : decode cX7_takeWord 25 = .ok (.iadd, 1) := by decide +kernel
theorem dX7_takeWord_26 : decode cX7_takeWord 26 = .ok (.putfield 96, 3) := by decide +kernel
theorem dX7_isSign_0 : decode cX7_isSign 0 = .ok (.aload_n 0, 1) := by decide +kernel
theorem dX7_isSign_1 : decode cX7_isSign 1 = .ok (.getfield 11, 3) := by decide +kernel
theorem dX7_isSign_4 : decode cX7_isSign 4 = .ok (.aload_n 0, 1) := by decide +kernel
theorem dX7_isSign_5 : decode cX7_isSign 5 = .ok (.getfield 96, 3) := by decide +kernel
theorem dX7_isSign_8 : decode cX7_isSign 8 = .ok (.iaload, 1) := by decide +kernel
theorem dX7_isSign_9 : decode cX7_isSign 9 = .ok (.iload_n 1, 1) := by decide +kernel
theorem dX7_isSign_10 : decode cX7_isSign 10 = .ok (.if_icmp .eq 16, 3) := by decide +kernel
theorem dX7_isSign_26 : decode cX7_isSign 26 = .ok (.iconst 1, 1) := by decide +kernel
theorem dX7_isSign_27 : decode cX7_isSign 27 = .ok (.goto 4, 3) := by decide +kernel
theorem dX7_isSign_31 : decode cX7_isSign 31 = .ok (.ireturn, 1) := by decide +kernel
theorem dX7_isSign_13 : decode cX7_isSign 13 = .ok (.aload_n 0, 1) := by decide +kernel
theorem dX7_isSign_14 : decode cX7_isSign 14 = .ok (.getfield 11, 3) := by decide +kernel
theorem dX7_isSign_17 : decode cX7_isSign 17 = .ok (.aload_n 0, 1) := by decide +kernel
theorem dX7_isSign_18 : decode cX7_isSign 18 = .ok (.getfield 96, 3) := by decide +kernel
theorem dX7_isSign_21 : decode cX7_isSign 21 = .ok (.iaload, 1) := by decide +kernel
theorem dX7_isSign_22 : decode cX7_isSign 22 = .ok (.iload_n 2, 1) := by decide +kernel
theorem dX7_isSign_23 : decode cX7_isSign 23 = .ok (.if_icmp .ne 7, 3) := by decide +kernel
theorem dX7_isSign_30 : decode cX7_isSign 30 = .ok (.iconst 0, 1) := by decide +kernel
theorem dX7_multiply_0 : decode cX7_multiply 0 = .ok (.lload_n 1, 1) := by decide +kernel
theorem dX7_multiply_1 : decode cX7_multiply 1 = .ok (.lconst 0, 1) := by decide +kernel
theorem dX7_multiply_2 : decode cX7_multiply 2 = .ok (.lcmp, 1) := by decide +kernel
theorem dX7_multiply_3 : decode cX7_multiply 3 = .ok (.ifCond .eq 9, 3) := by decide +kernel
theorem dX7_multiply_12 : decode cX7_multiply 12 = .ok (.lconst 0, 1) := by decide +kernel
theorem dX7_multiply_13 : decode cX7_multiply 13 = .ok (.lreturn, 1) := by decide +kernel
theorem dX7_multiply_6 : decode cX7_multiply 6 = .ok (.lload_n 3, 1) := by decide +kernel
theorem dX7_multiply_7 : decode cX7_multiply 7 = .ok (.lconst 0, 1) := by decide +kernel
theorem dX7_multiply_8 : decode cX7_multiply 8 = .ok (.lcmp, 1) := by decide +kernel
theorem dX7_multiply_9 : decode cX7_multiply 9 = .ok (.ifCond .ne 5, 3) := by decide +kernel
theorem dX7_multiply_14 : decode cX7_multiply 14 = .ok (.lload_n 1, 1) := by decide +kernel
theorem dX7_multiply_15 : decode cX7_multiply 15 = .ok (.lload_n 3, 1) := by decide +kernel
theorem dX7_multiply_16 : decode cX7_multiply 16 = .ok (.lmul, 1) := by decide +kernel
theorem dX7_multiply_17 : decode cX7_multiply 17 = .ok (.lstore 5, 2) := by decide +kernel
theorem dX7_multiply_19 : decode cX7_multiply 19 = .ok (.lload_n 1, 1) := by decide +kernel
theorem dX7_multiply_20 : decode cX7_multiply 20 = .ok (.ldc2_w 148, 3) := by decide +kernel
theorem dX7_multiply_23 : decode cX7_multiply 23 = .ok (.lcmp, 1) := by decide +kernel
theorem dX7_multiply_24 : decode cX7_multiply 24 = .ok (.ifCond .ne 11, 3) := by decide +kernel
theorem dX7_multiply_35 : decode cX7_multiply 35 = .ok (.lload_n 3, 1) := by decide +kernel
theorem dX7_multiply_36 : decode cX7_multiply 36 = .ok (.ldc2_w 148, 3) := by decide +kernel
theorem dX7_multiply_39 : decode cX7_multiply 39 = .ok (.lcmp, 1) := by decide +kernel
theorem dX7_multiply_40 : decode cX7_multiply 40 = .ok (.ifCond .ne 15, 3) := by decide +kernel
theorem dX7_multiply_55 : decode cX7_multiply 55 = .ok (.iconst 0, 1) := by decide +kernel
theorem dX7_multiply_56 : decode cX7_multiply 56 = .ok (.istore 7, 2) := by decide +kernel
theorem dX7_multiply_58 : decode cX7_multiply 58 = .ok (.iload 7, 2) := by decide +kernel
theorem dX7_multiply_60 : decode cX7_multiply 60 = .ok (.ifCond .ne 12, 3) := by decide +kernel
theorem dX7_multiply_72 : decode cX7_multiply 72 = .ok (.aload_n 0, 1) := by decide +kernel
theorem dX7_multiply_73 : decode cX7_multiply 73 = .ok (.iconst 2, 1) := by decide +kernel
theorem dX7_multiply_74 : decode cX7_multiply 74 = .ok (.putfield 89, 3) := by decide +kernel
theorem dX7_multiply_77 : decode cX7_multiply 77 = .ok (.lload 5, 2) := by decide +kernel
theorem dX7_multiply_79 : decode cX7_multiply 79 = .ok (.lreturn, 1) := by decide +kernel
theorem dX7_multiply_63 : decode cX7_multiply 63 = .ok (.lload 5, 2) := by decide +kernel
theorem dX7_multiply_65 : decode cX7_multiply 65 = .ok (.lload_n 3, 1) := by decide +kernel
theorem dX7_multiply_66 : decode cX7_multiply 66 = .ok (.ldiv, 1) := by decide +kernel
theorem dX7_multiply_67 : decode cX7_multiply 67 = .ok (.lload_n 1, 1) := by decide +kernel
theorem dX7_multiply_68 : decode cX7_multiply 68 = .ok (.lcmp, 1) := by decide +kernel
theorem dX7_multiply_69 : decode cX7_multiply 69 = .ok (.ifCond .eq 8, 3) := by decide +kernel
theorem dX7_multiply_43 : decode cX7_multiply 43 = .ok (.lload_n 1, 1) := by decide +kernel
theorem dX7_multiply_44 : decode cX7_multiply 44 = .ok (.ldc2_w 152, 3) := by decide +kernel
theorem dX7_multiply_47 : decode cX7_multiply 47 = .ok (.lcmp, 1) := by decide +kernel
theorem dX7_multiply_48 : decode cX7_multiply 48 = .ok (.ifCond .ne 7, 3) := by decide +kernel
theorem dX7_multiply_51 : decode cX7_multiply 51 = .ok (.iconst 1, 1) := by decide +kernel
theorem dX7_multiply_52 : decode cX7_multiply 52 = .ok (.goto 4, 3) := by decide +kernel
theorem dX7_multiply_27 : decode cX7_multiply 27 = .ok (.lload_n 3, 1) := by decide +kernel
theorem dX7_multiply_28 : decode cX7_multiply 28 = .ok (.ldc2_w 152, 3) := by decide +kernel
theorem dX7_multiply_31 : decode cX7_multiply 31 = .ok (.lcmp, 1) := by decide +kernel
theorem dX7_multiply_32 : decode cX7_multiply 32 = .ok (.ifCond .eq 19, 3) := by decide +kernel
theorem dX7_add_0 : decode cX7_add 0 = .ok (.lload_n 1, 1) := by decide +kernel
theorem dX7_add_1 : decode cX7_add 1 = .ok (.lload_n 3, 1) := by decide +kernel
theorem dX7_add_2 : decode cX7_add 2 = .ok (.ladd, 1) := by decide +kernel
theorem dX7_add_3 : decode cX7_add 3 = .ok (.lstore 5, 2) := by decide +kernel
theorem dX7_add_5 : decode cX7_add 5 = .ok (.lload_n 1, 1) := by decide +kernel
theorem dX7_add_6 : decode cX7_add 6 = .ok (.lload 5, 2) := by decide +kernel
theorem dX7_add_8 : decode cX7_add 8 = .ok (.lxor, 1) := by decide +kernel
theorem dX7_add_9 : decode cX7_add 9 = .ok (.lload_n 3, 1) := by decide +kernel
theorem dX7_add_10 : decode cX7_add 10 = .ok (.lload 5, 2) := by decide +kernel
theorem dX7_add_12 : decode cX7_add 12 = .ok (.lxor, 1) := by decide +kernel
theorem dX7_add_13 : decode cX7_add 13 = .ok (.land, 1) := by decide +kernel
theorem dX7_add_14 : decode cX7_add 14 = .ok (.lconst 0, 1) := by decide +kernel
theorem dX7_add_15 : decode cX7_add 15 = .ok (.lcmp, 1) := by decide +kernel
theorem dX7_add_16 : decode cX7_add 16 = .ok (.ifCond .ge 8, 3) := by decide +kernel
theorem dX7_add_24 : decode cX7_add 24 = .ok (.lload 5, 2) := by decide +kernel
theorem dX7_add_26 : decode cX7_add 26 = .ok (.lreturn, 1) := by decide +kernel
theorem dX7_add_19 : decode cX7_add 19 = .ok (.aload_n 0, 1) := by decide +kernel
theorem dX7_add_20 : decode cX7_add 20 = .ok (.iconst 2, 1) := by decide +kernel
theorem dX7_add_21 : decode cX7_add 21 = .ok (.putfield 89, 3) := by decide +kernel
theorem dX7_subtract_0 : decode cX7_subtract 0 = .ok (.lload_n 1, 1) := by decide +kernel
theorem dX7_subtract_1 : decode cX7_subtract 1 = .ok (.lload_n 3, 1) := by decide +kernel
theorem dX7_subtract_2 : decode cX7_subtract 2 = .ok (.lsub, 1) := by decide +kernel
theorem dX7_subtract_3 : decode cX7_subtract 3 = .ok (.lstore 5, 2) := by decide +kernel
theorem dX7_subtract_5 : decode cX7_subtract 5 = .ok (.lload_n 1, 1) := by decide +kernel
theorem dX7_subtract_6 : decode cX7_subtract 6 = .ok (.lload_n 3, 1) := by decide +kernel
theorem dX7_subtract_7 : decode cX7_subtract 7 = .ok (.lxor, 1) := by decide +kernel
theorem dX7_subtract_8 : decode cX7_subtract 8 = .ok (.lload_n 1, 1) := by decide +kernel
theorem dX7_subtract_9 : decode cX7_subtract 9 = .ok (.lload 5, 2) := by decide +kernel
theorem dX7_subtract_11 : decode cX7_subtract 11 = .ok (.lxor, 1) := by decide +kernel
theorem dX7_subtract_12 : decode cX7_subtract 12 = .ok (.land, 1) := by decide +kernel
theorem dX7_subtract_13 : decode cX7_subtract 13 = .ok (.lconst 0, 1) := by decide +kernel
theorem dX7_subtract_14 : decode cX7_subtract 14 = .ok (.lcmp, 1) := by decide +kernel
theorem dX7_subtract_15 : decode cX7_subtract 15 = .ok (.ifCond .ge 8, 3) := by decide +kernel
theorem dX7_subtract_23 : decode cX7_subtract 23 = .ok (.lload 5, 2) := by decide +kernel
theorem dX7_subtract_25 : decode cX7_subtract 25 = .ok (.lreturn, 1) := by decide +kernel
theorem dX7_subtract_18 : decode cX7_subtract 18 = .ok (.aload_n 0, 1) := by decide +kernel
theorem dX7_subtract_19 : decode cX7_subtract 19 = .ok (.iconst 2, 1) := by decide +kernel
theorem dX7_subtract_20 : decode cX7_subtract 20 = .ok (.putfield 89, 3) := by decide +kernel
theorem dX7_combine_0 : decode cX7_combine 0 = .ok (.aload_n 0, 1) := by decide +kernel
theorem dX7_combine_1 : decode cX7_combine 1 = .ok (.getfield 111, 3) := by decide +kernel
theorem dX7_combine_4 : decode cX7_combine 4 = .ok (.lstore 6, 2) := by decide +kernel
theorem dX7_combine_6 : decode cX7_combine 6 = .ok (.aload_n 0, 1) := by decide +kernel
theorem dX7_combine_7 : decode cX7_combine 7 = .ok (.getfield 114, 3) := by decide +kernel
theorem dX7_combine_10 : decode cX7_combine 10 = .ok (.lstore 8, 2) := by decide +kernel
theorem dX7_combine_12 : decode cX7_combine 12 = .ok (.aload_n 0, 1) := by decide +kernel
theorem dX7_combine_13 : decode cX7_combine 13 = .ok (.getfield 89, 3) := by decide +kernel
theorem dX7_combine_16 : decode cX7_combine 16 = .ok (.ifCond .eq 4, 3) := by decide +kernel
theorem dX7_combine_20 : decode cX7_combine 20 = .ok (.iload_n 1, 1) := by decide +kernel
theorem dX7_combine_21 : decode cX7_combine 21 = .ok (.bipush 42, 2) := by decide +kernel
theorem dX7_combine_23 : decode cX7_combine 23 = .ok (.if_icmp .ne 27, 3) := by decide +kernel
theorem dX7_combine_50 : decode cX7_combine 50 = .ok (.aload_n 0, 1) := by decide +kernel
theorem dX7_combine_51 : decode cX7_combine 51 = .ok (.aload_n 0, 1) := by decide +kernel
theorem dX7_combine_52 : decode cX7_combine 52 = .ok (.lload_n 2, 1) := by decide +kernel
theorem dX7_combine_53 : decode cX7_combine 53 = .ok (.lload 8, 2) := by decide +kernel
theorem dX7_combine_55 : decode cX7_combine 55 = .ok (.invokevirtual 121, 3) := by decide +kernel
theorem dX7_combine_58 : decode cX7_combine 58 = .ok (.putfield 111, 3) := by decide +kernel
theorem dX7_combine_61 : decode cX7_combine 61 = .ok (.iload_n 1, 1) := by decide +kernel
theorem dX7_combine_62 : decode cX7_combine 62 = .ok (.bipush 47, 2) := by decide +kernel
theorem dX7_combine_64 : decode cX7_combine 64 = .ok (.if_icmp .ne 35, 3) := by decide +kernel
theorem dX7_combine_99 : decode cX7_combine 99 = .ok (.aload_n 0, 1) := by decide +kernel
theorem dX7_combine_100 : decode cX7_combine 100 = .ok (.lload 6, 2) := by decide +kernel
theorem dX7_combine_102 : decode cX7_combine 102 = .ok (.lload 4, 2) := by decide +kernel
theorem dX7_combine_104 : decode cX7_combine 104 = .ok (.invokevirtual 121, 3) := by decide +kernel
theorem dX7_combine_107 : decode cX7_combine 107 = .ok (.lstore 10, 2) := by decide +kernel
theorem dX7_combine_109 : decode cX7_combine 109 = .ok (.aload_n 0, 1) := by decide +kernel
theorem dX7_combine_110 : decode cX7_combine 110 = .ok (.iload_n 1, 1) := by decide +kernel
theorem dX7_combine_111 : decode cX7_combine 111 = .ok (.bipush 43, 2) := by decide +kernel
theorem dX7_combine_113 : decode cX7_combine 113 = .ok (.if_icmp .ne 16, 3) := by decide +kernel
theorem dX7_combine_129 : decode cX7_combine 129 = .ok (.aload_n 0, 1) := by decide +kernel
theorem dX7_combine_130 : decode cX7_combine 130 = .ok (.aload_n 0, 1) := by decide +kernel
theorem dX7_combine_131 : decode cX7_combine 131 = .ok (.getfield 111, 3) := by decide +kernel
theorem dX7_combine_134 : decode cX7_combine 134 = .ok (.lload 10, 2) := by decide +kernel
theorem dX7_combine_136 : decode cX7_combine 136 = .ok (.invokevirtual 145, 3) := by decide +kernel
theorem dX7_combine_139 : decode cX7_combine 139 = .ok (.putfield 111, 3) := by decide +kernel
theorem dX7_combine_142 : decode cX7_combine 142 = .ok (.aload_n 0, 1) := by decide +kernel
theorem dX7_combine_143 : decode cX7_combine 143 = .ok (.aload_n 0, 1) := by decide +kernel
theorem dX7_combine_144 : decode cX7_combine 144 = .ok (.lload 4, 2) := by decide +kernel
theorem dX7_combine_146 : decode cX7_combine 146 = .ok (.lload 8, 2) := by decide +kernel
theorem dX7_combine_148 : decode cX7_combine 148 = .ok (.invokevirtual 121, 3) := by decide +kernel
theorem dX7_combine_151 : decode cX7_combine 151 = .ok (.putfield 114, 3) := by decide +kernel
theorem dX7_combine_154 : decode cX7_combine 154 = .ok (.return_, 1) := by decide +kernel
theorem dX7_combine_116 : decode cX7_combine 116 = .ok (.aload_n 0, 1) := by decide +kernel
theorem dX7_combine_117 : decode cX7_combine 117 = .ok (.aload_n 0, 1) := by decide +kernel
theorem dX7_combine_118 : decode cX7_combine 118 = .ok (.getfield 111, 3) := by decide +kernel
theorem dX7_combine_121 : decode cX7_combine 121 = .ok (.lload 10, 2) := by decide +kernel
theorem dX7_combine_123 : decode cX7_combine 123 = .ok (.invokevirtual 142, 3) := by decide +kernel
theorem dX7_combine_126 : decode cX7_combine 126 = .ok (.goto 13, 3) := by decide +kernel
theorem dX7_combine_67 : decode cX7_combine 67 = .ok (.aload_n 0, 1) := by decide +kernel
theorem dX7_combine_68 : decode cX7_combine 68 = .ok (.aload_n 0, 1) := by decide +kernel
theorem dX7_combine_69 : decode cX7_combine 69 = .ok (.lload 4, 2) := by decide +kernel
theorem dX7_combine_71 : decode cX7_combine 71 = .ok (.lload 6, 2) := by decide +kernel
theorem dX7_combine_73 : decode cX7_combine 73 = .ok (.invokevirtual 121, 3) := by decide +kernel
theorem dX7_combine_76 : decode cX7_combine 76 = .ok (.putfield 114, 3) := by decide +kernel
theorem dX7_combine_79 : decode cX7_combine 79 = .ok (.aload_n 0, 1) := by decide +kernel
theorem dX7_combine_80 : decode cX7_combine 80 = .ok (.lload 6, 2) := by decide +kernel
theorem dX7_combine_82 : decode cX7_combine 82 = .ok (.lconst 0, 1) := by decide +kernel
theorem dX7_combine_83 : decode cX7_combine 83 = .ok (.lcmp, 1) := by decide +kernel
theorem dX7_combine_84 : decode cX7_combine 84 = .ok (.ifCond .ne 7, 3) := by decide +kernel
theorem dX7_combine_91 : decode cX7_combine 91 = .ok (.aload_n 0, 1) := by decide +kernel
theorem dX7_combine_92 : decode cX7_combine 92 = .ok (.getfield 89, 3) := by decide +kernel
theorem dX7_combine_95 : decode cX7_combine 95 = .ok (.putfield 89, 3) := by decide +kernel
theorem dX7_combine_98 : decode cX7_combine 98 = .ok (.return_, 1) := by decide +kernel
theorem dX7_combine_87 : decode cX7_combine 87 = .ok (.iconst 3, 1) := by decide +kernel
theorem dX7_combine_88 : decode cX7_combine 88 = .ok (.goto 7, 3) := by decide +kernel
theorem dX7_combine_26 : decode cX7_combine 26 = .ok (.aload_n 0, 1) := by decide +kernel
theorem dX7_combine_27 : decode cX7_combine 27 = .ok (.aload_n 0, 1) := by decide +kernel
theorem dX7_combine_28 : decode cX7_combine 28 = .ok (.lload_n 2, 1) := by decide +kernel
theorem dX7_combine_29 : decode cX7_combine 29 = .ok (.lload 6, 2) := by decide +kernel
theorem dX7_combine_31 : decode cX7_combine 31 = .ok (.invokevirtual 121, 3) := by decide +kernel
theorem dX7_combine_34 : decode cX7_combine 34 = .ok (.putfield 111, 3) := by decide +kernel
theorem dX7_combine_37 : decode cX7_combine 37 = .ok (.aload_n 0, 1) := by decide +kernel
theorem dX7_combine_38 : decode cX7_combine 38 = .ok (.aload_n 0, 1) := by decide +kernel
theorem dX7_combine_39 : decode cX7_combine 39 = .ok (.lload 4, 2) := by decide +kernel
theorem dX7_combine_41 : decode cX7_combine 41 = .ok (.lload 8, 2) := by decide +kernel
theorem dX7_combine_43 : decode cX7_combine 43 = .ok (.invokevirtual 121, 3) := by decide +kernel
theorem dX7_combine_46 : decode cX7_combine 46 = .ok (.putfield 114, 3) := by decide +kernel
theorem dX7_combine_49 : decode cX7_combine 49 = .ok (.return_, 1) := by decide +kernel
theorem dX7_combine_19 : decode cX7_combine 19 = .ok (.return_, 1) := by decide +kernel
theorem dX7_commonBelowZero_0 : decode cX7_commonBelowZero 0 = .ok (.lload_n 0, 1) := by decide +kernel
theorem dX7_commonBelowZero_1 : decode cX7_commonBelowZero 1 = .ok (.lconst 0, 1) := by decide +kernel
theorem dX7_commonBelowZero_2 : decode cX7_commonBelowZero 2 = .ok (.lcmp, 1) := by decide +kernel
theorem dX7_commonBelowZero_3 : decode cX7_commonBelowZero 3 = .ok (.ifCond .le 8, 3) := by decide +kernel
theorem dX7_commonBelowZero_11 : decode cX7_commonBelowZero 11 = .ok (.lload_n 0, 1) := by decide +kernel
theorem dX7_commonBelowZero_12 : decode cX7_commonBelowZero 12 = .ok (.lstore 4, 2) := by decide +kernel
theorem dX7_commonBelowZero_14 : decode cX7_commonBelowZero 14 = .ok (.lload_n 2, 1) := by decide +kernel
theorem dX7_commonBelowZero_15 : decode cX7_commonBelowZero 15 = .ok (.lconst 0, 1) := by decide +kernel
theorem dX7_commonBelowZero_16 : decode cX7_commonBelowZero 16 = .ok (.lcmp, 1) := by decide +kernel
theorem dX7_commonBelowZero_17 : decode cX7_commonBelowZero 17 = .ok (.ifCond .le 8, 3) := by decide +kernel
theorem dX7_commonBelowZero_25 : decode cX7_commonBelowZero 25 = .ok (.lload_n 2, 1) := by decide +kernel
theorem dX7_commonBelowZero_26 : decode cX7_commonBelowZero 26 = .ok (.lstore 6, 2) := by decide +kernel
theorem dX7_commonBelowZero_28 : decode cX7_commonBelowZero 28 = .ok (.iconst 0, 1) := by decide +kernel
theorem dX7_commonBelowZero_29 : decode cX7_commonBelowZero 29 = .ok (.istore 8, 2) := by decide +kernel
theorem dX7_commonBelowZero_31 : decode cX7_commonBelowZero 31 = .ok (.iload 8, 2) := by decide +kernel
theorem dX7_commonBelowZero_33 : decode cX7_commonBelowZero 33 = .ok (.bipush 100, 2) := by decide +kernel
theorem dX7_commonBelowZero_35 : decode cX7_commonBelowZero 35 = .ok (.if_icmp .ge 31, 3) := by decide +kernel
theorem dX7_commonBelowZero_38 : decode cX7_commonBelowZero 38 = .ok (.lload 6, 2) := by decide +kernel
theorem dX7_commonBelowZero_40 : decode cX7_commonBelowZero 40 = .ok (.lconst 0, 1) := by decide +kernel
theorem dX7_commonBelowZero_41 : decode cX7_commonBelowZero 41 = .ok (.lcmp, 1) := by decide +kernel
theorem dX7_commonBelowZero_42 : decode cX7_commonBelowZero 42 = .ok (.ifCond .eq 24, 3) := by decide +kernel
theorem dX7_commonBelowZero_45 : decode cX7_commonBelowZero 45 = .ok (.lload 4, 2) := by decide +kernel
theorem dX7_commonBelowZero_47 : decode cX7_commonBelowZero 47 = .ok (.lload 6, 2) := by decide +kernel
theorem dX7_commonBelowZero_49 : decode cX7_commonBelowZero 49 = .ok (.lrem, 1) := by decide +kernel
theorem dX7_commonBelowZero_50 : decode cX7_commonBelowZero 50 = .ok (.lstore 9, 2) := by decide +kernel
theorem dX7_commonBelowZero_52 : decode cX7_commonBelowZero 52 = .ok (.lload 6, 2) := by decide +kernel
theorem dX7_commonBelowZero_54 : decode cX7_commonBelowZero 54 = .ok (.lstore 4, 2) := by decide +kernel
theorem dX7_commonBelowZero_56 : decode cX7_commonBelowZero 56 = .ok (.lload 9, 2) := by decide +kernel
theorem dX7_commonBelowZero_58 : decode cX7_commonBelowZero 58 = .ok (.lstore 6, 2) := by decide +kernel
theorem dX7_commonBelowZero_60 : decode cX7_commonBelowZero 60 = .ok (.iinc 8 1, 3) := by decide +kernel
theorem dX7_commonBelowZero_63 : decode cX7_commonBelowZero 63 = .ok (.goto (-32), 3) := by decide +kernel
theorem dX7_commonBelowZero_66 : decode cX7_commonBelowZero 66 = .ok (.lload 4, 2) := by decide +kernel
theorem dX7_commonBelowZero_68 : decode cX7_commonBelowZero 68 = .ok (.lreturn, 1) := by decide +kernel
theorem dX7_commonBelowZero_20 : decode cX7_commonBelowZero 20 = .ok (.lload_n 2, 1) := by decide +kernel
theorem dX7_commonBelowZero_21 : decode cX7_commonBelowZero 21 = .ok (.lneg, 1) := by decide +kernel
theorem dX7_commonBelowZero_22 : decode cX7_commonBelowZero 22 = .ok (.goto 4, 3) := by decide +kernel
theorem dX7_commonBelowZero_6 : decode cX7_commonBelowZero 6 = .ok (.lload_n 0, 1) := by decide +kernel
theorem dX7_commonBelowZero_7 : decode cX7_commonBelowZero 7 = .ok (.lneg, 1) := by decide +kernel
theorem dX7_commonBelowZero_8 : decode cX7_commonBelowZero 8 = .ok (.goto 4, 3) := by decide +kernel
theorem dX7_takeOutCommon_0 : decode cX7_takeOutCommon 0 = .ok (.aload_n 0, 1) := by decide +kernel
theorem dX7_takeOutCommon_1 : decode cX7_takeOutCommon 1 = .ok (.getfield 89, 3) := by decide +kernel
theorem dX7_takeOutCommon_4 : decode cX7_takeOutCommon 4 = .ok (.ifCond .eq 4, 3) := by decide +kernel
theorem dX7_takeOutCommon_8 : decode cX7_takeOutCommon 8 = .ok (.aload_n 0, 1) := by decide +kernel
theorem dX7_takeOutCommon_9 : decode cX7_takeOutCommon 9 = .ok (.getfield 111, 3) := by decide +kernel
theorem dX7_takeOutCommon_12 : decode cX7_takeOutCommon 12 = .ok (.aload_n 0, 1) := by decide +kernel
theorem dX7_takeOutCommon_13 : decode cX7_takeOutCommon 13 = .ok (.getfield 114, 3) := by decide +kernel
theorem dX7_takeOutCommon_16 : decode cX7_takeOutCommon 16 = .ok (.invokestatic 154, 3) := by decide +kernel
theorem dX7_takeOutCommon_19 : decode cX7_takeOutCommon 19 = .ok (.lstore_n 1, 1) := by decide +kernel
theorem dX7_takeOutCommon_20 : decode cX7_takeOutCommon 20 = .ok (.lload_n 1, 1) := by decide +kernel
theorem dX7_takeOutCommon_21 : decode cX7_takeOutCommon 21 = .ok (.ldc2_w 148, 3) := by decide +kernel
theorem dX7_takeOutCommon_24 : decode cX7_takeOutCommon 24 = .ok (.lcmp, 1) := by decide +kernel
theorem dX7_takeOutCommon_25 : decode cX7_takeOutCommon 25 = .ok (.ifCond .ge 25, 3) := by decide +kernel
theorem dX7_takeOutCommon_50 : decode cX7_takeOutCommon 50 = .ok (.aload_n 0, 1) := by decide +kernel
theorem dX7_takeOutCommon_51 : decode cX7_takeOutCommon 51 = .ok (.getfield 114, 3) := by decide +kernel
theorem dX7_takeOutCommon_54 : decode cX7_takeOutCommon 54 = .ok (.lconst 0, 1) := by decide +kernel
theorem dX7_takeOutCommon_55 : decode cX7_takeOutCommon 55 = .ok (.lcmp, 1) := by decide +kernel
theorem dX7_takeOutCommon_56 : decode cX7_takeOutCommon 56 = .ok (.ifCond .ge 49, 3) := by decide +kernel
theorem dX7_takeOutCommon_105 : decode cX7_takeOutCommon 105 = .ok (.return_, 1) := by decide +kernel
theorem dX7_takeOutCommon_59 : decode cX7_takeOutCommon 59 = .ok (.aload_n 0, 1) := by decide +kernel
theorem dX7_takeOutCommon_60 : decode cX7_takeOutCommon 60 = .ok (.getfield 111, 3) := by decide +kernel
theorem dX7_takeOutCommon_63 : decode cX7_takeOutCommon 63 = .ok (.ldc2_w 152, 3) := by decide +kernel
theorem dX7_takeOutCommon_66 : decode cX7_takeOutCommon 66 = .ok (.lcmp, 1) := by decide +kernel
theorem dX7_takeOutCommon_67 : decode cX7_takeOutCommon 67 = .ok (.ifCond .eq 14, 3) := by decide +kernel
theorem dX7_takeOutCommon_81 : decode cX7_takeOutCommon 81 = .ok (.aload_n 0, 1) := by decide +kernel
theorem dX7_takeOutCommon_82 : decode cX7_takeOutCommon 82 = .ok (.iconst 2, 1) := by decide +kernel
theorem dX7_takeOutCommon_83 : decode cX7_takeOutCommon 83 = .ok (.putfield 89, 3) := by decide +kernel
theorem dX7_takeOutCommon_86 : decode cX7_takeOutCommon 86 = .ok (.return_, 1) := by decide +kernel
theorem dX7_takeOutCommon_70 : decode cX7_takeOutCommon 70 = .ok (.aload_n 0, 1) := by decide +kernel
theorem dX7_takeOutCommon_71 : decode cX7_takeOutCommon 71 = .ok (.getfield 114, 3) := by decide +kernel
theorem dX7_takeOutCommon_74 : decode cX7_takeOutCommon 74 = .ok (.ldc2_w 152, 3) := by decide +kernel
theorem dX7_takeOutCommon_77 : decode cX7_takeOutCommon 77 = .ok (.lcmp, 1) := by decide +kernel
theorem dX7_takeOutCommon_78 : decode cX7_takeOutCommon 78 = .ok (.ifCond .ne 9, 3) := by decide +kernel
theorem dX7_takeOutCommon_87 : decode cX7_takeOutCommon 87 = .ok (.aload_n 0, 1) := by decide +kernel
theorem dX7_takeOutCommon_88 : decode cX7_takeOutCommon 88 = .ok (.aload_n 0, 1) := by decide +kernel
theorem dX7_takeOutCommon_89 : decode cX7_takeOutCommon 89 = .ok (.getfield 111, 3) := by decide +kernel
theorem dX7_takeOutCommon_92 : decode cX7_takeOutCommon 92 = .ok (.lneg, 1) := by decide +kernel
theorem dX7_takeOutCommon_93 : decode cX7_takeOutCommon 93 = .ok (.putfield 111, 3) := by decide +kernel
theorem dX7_takeOutCommon_96 : decode cX7_takeOutCommon 96 = .ok (.aload_n 0, 1) := by decide +kernel
theorem dX7_takeOutCommon_97 : decode cX7_takeOutCommon 97 = .ok (.aload_n 0, 1) := by decide +kernel
theorem dX7_takeOutCommon_98 : decode cX7_takeOutCommon 98 = .ok (.getfield 114, 3) := by decide +kernel
theorem dX7_takeOutCommon_101 : decode cX7_takeOutCommon 101 = .ok (.lneg, 1) := by decide +kernel
theorem dX7_takeOutCommon_102 : decode cX7_takeOutCommon 102 = .ok (.putfield 114, 3) := by decide +kernel
theorem dX7_takeOutCommon_28 : decode cX7_takeOutCommon 28 = .ok (.aload_n 0, 1) := by decide +kernel
theorem dX7_takeOutCommon_29 : decode cX7_takeOutCommon 29 = .ok (.aload_n 0, 1) := by decide +kernel
theorem dX7_takeOutCommon_30 : decode cX7_takeOutCommon 30 = .ok (.getfield 111, 3) := by decide +kernel
theorem dX7_takeOutCommon_33 : decode cX7_takeOutCommon 33 = .ok (.lload_n 1, 1) := by decide +kernel
theorem dX7_takeOutCommon_34 : decode cX7_takeOutCommon 34 = .ok (.ldiv, 1) := by decide +kernel
theorem dX7_takeOutCommon_35 : decode cX7_takeOutCommon 35 = .ok (.lneg, 1) := by decide +kernel
theorem dX7_takeOutCommon_36 : decode cX7_takeOutCommon 36 = .ok (.putfield 111, 3) := by decide +kernel
theorem dX7_takeOutCommon_39 : decode cX7_takeOutCommon 39 = .ok (.aload_n 0, 1) := by decide +kernel
theorem dX7_takeOutCommon_40 : decode cX7_takeOutCommon 40 = .ok (.aload_n 0, 1) := by decide +kernel
theorem dX7_takeOutCommon_41 : decode cX7_takeOutCommon 41 = .ok (.getfield 114, 3) := by decide +kernel
theorem dX7_takeOutCommon_44 : decode cX7_takeOutCommon 44 = .ok (.lload_n 1, 1) := by decide +kernel
theorem dX7_takeOutCommon_45 : decode cX7_takeOutCommon 45 = .ok (.ldiv, 1) := by decide +kernel
theorem dX7_takeOutCommon_46 : decode cX7_takeOutCommon 46 = .ok (.lneg, 1) := by decide +kernel
theorem dX7_takeOutCommon_47 : decode cX7_takeOutCommon 47 = .ok (.putfield 114, 3) := by decide +kernel
theorem dX7_takeOutCommon_7 : decode cX7_takeOutCommon 7 = .ok (.return_, 1) := by decide +kernel
theorem dX7_compareWith_0 : decode cX7_compareWith 0 = .ok (.aload_n 0, 1) := by decide +kernel
theorem dX7_compareWith_1 : decode cX7_compareWith 1 = .ok (.lload_n 2, 1) := by decide +kernel
theorem dX7_compareWith_2 : decode cX7_compareWith 2 = .ok (.aload_n 0, 1) := by decide +kernel
theorem dX7_compareWith_3 : decode cX7_compareWith 3 = .ok (.getfield 114, 3) := by decide +kernel
theorem dX7_compareWith_6 : decode cX7_compareWith 6 = .ok (.invokevirtual 121, 3) := by decide +kernel
theorem dX7_compareWith_9 : decode cX7_compareWith 9 = .ok (.lstore 6, 2) := by decide +kernel
theorem dX7_compareWith_11 : decode cX7_compareWith 11 = .ok (.aload_n 0, 1) := by decide +kernel
theorem dX7_compareWith_12 : decode cX7_compareWith 12 = .ok (.aload_n 0, 1) := by decide +kernel
theorem dX7_compareWith_13 : decode cX7_compareWith 13 = .ok (.getfield 111, 3) := by decide +kernel
theorem dX7_compareWith_16 : decode cX7_compareWith 16 = .ok (.lload 4, 2) := by decide +kernel
theorem dX7_compareWith_18 : decode cX7_compareWith 18 = .ok (.invokevirtual 121, 3) := by decide +kernel
theorem dX7_compareWith_21 : decode cX7_compareWith 21 = .ok (.lstore 8, 2) := by decide +kernel
theorem dX7_compareWith_23 : decode cX7_compareWith 23 = .ok (.aload_n 0, 1) := by decide +kernel
theorem dX7_compareWith_24 : decode cX7_compareWith 24 = .ok (.getfield 89, 3) := by decide +kernel
theorem dX7_compareWith_27 : decode cX7_compareWith 27 = .ok (.ifCond .eq 5, 3) := by decide +kernel
theorem dX7_compareWith_32 : decode cX7_compareWith 32 = .ok (.iload_n 1, 1) := by decide +kernel
theorem dX7_compareWith_33 : decode cX7_compareWith 33 = .ok (.lookupswitch 99 #[(60, 43), (61, 71), (103, 85), (108, 57)], 43) := by decide +kernel
theorem dX7_compareWith_132 : decode cX7_compareWith 132 = .ok (.lload 6, 2) := by decide +kernel
theorem dX7_compareWith_134 : decode cX7_compareWith 134 = .ok (.lload 8, 2) := by decide +kernel
theorem dX7_compareWith_136 : decode cX7_compareWith 136 = .ok (.lcmp, 1) := by decide +kernel
theorem dX7_compareWith_137 : decode cX7_compareWith 137 = .ok (.ifCond .le 7, 3) := by decide +kernel
theorem dX7_compareWith_144 : decode cX7_compareWith 144 = .ok (.iconst 0, 1) := by decide +kernel
theorem dX7_compareWith_145 : decode cX7_compareWith 145 = .ok (.ireturn, 1) := by decide +kernel
theorem dX7_compareWith_140 : decode cX7_compareWith 140 = .ok (.iconst 1, 1) := by decide +kernel
theorem dX7_compareWith_141 : decode cX7_compareWith 141 = .ok (.goto 4, 3) := by decide +kernel
theorem dX7_compareWith_76 : decode cX7_compareWith 76 = .ok (.lload 6, 2) := by decide +kernel
theorem dX7_compareWith_78 : decode cX7_compareWith 78 = .ok (.lload 8, 2) := by decide +kernel
theorem dX7_compareWith_80 : decode cX7_compareWith 80 = .ok (.lcmp, 1) := by decide +kernel
theorem dX7_compareWith_81 : decode cX7_compareWith 81 = .ok (.ifCond .ge 7, 3) := by decide +kernel
theorem dX7_compareWith_88 : decode cX7_compareWith 88 = .ok (.iconst 0, 1) := by decide +kernel
theorem dX7_compareWith_89 : decode cX7_compareWith 89 = .ok (.ireturn, 1) := by decide +kernel
theorem dX7_compareWith_84 : decode cX7_compareWith 84 = .ok (.iconst 1, 1) := by decide +kernel
theorem dX7_compareWith_85 : decode cX7_compareWith 85 = .ok (.goto 4, 3) := by decide +kernel
theorem dX7_compareWith_104 : decode cX7_compareWith 104 = .ok (.lload 6, 2) := by decide +kernel
theorem dX7_compareWith_106 : decode cX7_compareWith 106 = .ok (.lload 8, 2) := by decide +kernel
theorem dX7_compareWith_108 : decode cX7_compareWith 108 = .ok (.lcmp, 1) := by decide +kernel
theorem dX7_compareWith_109 : decode cX7_compareWith 109 = .ok (.ifCond .ne 7, 3) := by decide +kernel
theorem dX7_compareWith_116 : decode cX7_compareWith 116 = .ok (.iconst 0, 1) := by decide +kernel
theorem dX7_compareWith_117 : decode cX7_compareWith 117 = .ok (.ireturn, 1) := by decide +kernel
theorem dX7_compareWith_112 : decode cX7_compareWith 112 = .ok (.iconst 1, 1) := by decide +kernel
theorem dX7_compareWith_113 : decode cX7_compareWith 113 = .ok (.goto 4, 3) := by decide +kernel
theorem dX7_compareWith_118 : decode cX7_compareWith 118 = .ok (.lload 6, 2) := by decide +kernel
theorem dX7_compareWith_120 : decode cX7_compareWith 120 = .ok (.lload 8, 2) := by decide +kernel
theorem dX7_compareWith_122 : decode cX7_compareWith 122 = .ok (.lcmp, 1) := by decide +kernel
theorem dX7_compareWith_123 : decode cX7_compareWith 123 = .ok (.ifCond .lt 7, 3) := by decide +kernel
theorem dX7_compareWith_130 : decode cX7_compareWith 130 = .ok (.iconst 0, 1) := by decide +kernel
theorem dX7_compareWith_131 : decode cX7_compareWith 131 = .ok (.ireturn, 1) := by decide +kernel
theorem dX7_compareWith_126 : decode cX7_compareWith 126 = .ok (.iconst 1, 1) := by decide +kernel
theorem dX7_compareWith_127 : decode cX7_compareWith 127 = .ok (.goto 4, 3) := by decide +kernel
theorem dX7_compareWith_90 : decode cX7_compareWith 90 = .ok (.lload 6, 2) := by decide +kernel
theorem dX7_compareWith_92 : decode cX7_compareWith 92 = .ok (.lload 8, 2) := by decide +kernel
theorem dX7_compareWith_94 : decode cX7_compareWith 94 = .ok (.lcmp, 1) := by decide +kernel
theorem dX7_compareWith_95 : decode cX7_compareWith 95 = .ok (.ifCond .gt 7, 3) := by decide +kernel
theorem dX7_compareWith_102 : decode cX7_compareWith 102 = .ok (.iconst 0, 1) := by decide +kernel
theorem dX7_compareWith_103 : decode cX7_compareWith 103 = .ok (.ireturn, 1) := by decide +kernel
theorem dX7_compareWith_98 : decode cX7_compareWith 98 = .ok (.iconst 1, 1) := by decide +kernel
theorem dX7_compareWith_99 : decode cX7_compareWith 99 = .ok (.goto 4, 3) := by decide +kernel
theorem dX7_compareWith_30 : decode cX7_compareWith 30 = .ok (.iconst 0, 1) := by decide +kernel
theorem dX7_compareWith_31 : decode cX7_compareWith 31 = .ok (.ireturn, 1) := by decide +kernel
theorem dX7_countBroken_0 : decode cX7_countBroken 0 = .ok (.iconst 0, 1) := by decide +kernel
theorem dX7_countBroken_1 : decode cX7_countBroken 1 = .ok (.istore_n 1, 1) := by decide +kernel
theorem dX7_countBroken_2 : decode cX7_countBroken 2 = .ok (.iconst 0, 1) := by decide +kernel
theorem dX7_countBroken_3 : decode cX7_countBroken 3 = .ok (.istore_n 2, 1) := by decide +kernel
theorem dX7_countBroken_4 : decode cX7_countBroken 4 = .ok (.iload_n 2, 1) := by decide +kernel
theorem dX7_countBroken_5 : decode cX7_countBroken 5 = .ok (.aload_n 0, 1) := by decide +kernel
theorem dX7_countBroken_6 : decode cX7_countBroken 6 = .ok (.getfield 55, 3) := by decide +kernel
theorem dX7_countBroken_9 : decode cX7_countBroken 9 = .ok (.if_icmp .ge 30, 3) := by decide +kernel
theorem dX7_countBroken_12 : decode cX7_countBroken 12 = .ok (.iload_n 1, 1) := by decide +kernel
theorem dX7_countBroken_13 : decode cX7_countBroken 13 = .ok (.aload_n 0, 1) := by decide +kernel
theorem dX7_countBroken_14 : decode cX7_countBroken 14 = .ok (.getfield 29, 3) := by decide +kernel
theorem dX7_countBroken_17 : decode cX7_countBroken 17 = .ok (.iload_n 2, 1) := by decide +kernel
theorem dX7_countBroken_18 : decode cX7_countBroken 18 = .ok (.aaload, 1) := by decide +kernel
theorem dX7_countBroken_19 : decode cX7_countBroken 19 = .ok (.iconst 0, 1) := by decide +kernel
theorem dX7_countBroken_20 : decode cX7_countBroken 20 = .ok (.laload, 1) := by decide +kernel
theorem dX7_countBroken_21 : decode cX7_countBroken 21 = .ok (.lconst 1, 1) := by decide +kernel
theorem dX7_countBroken_22 : decode cX7_countBroken 22 = .ok (.lcmp, 1) := by decide +kernel
theorem dX7_countBroken_23 : decode cX7_countBroken 23 = .ok (.ifCond .ne 7, 3) := by decide +kernel
theorem dX7_countBroken_30 : decode cX7_countBroken 30 = .ok (.iconst 0, 1) := by decide +kernel
theorem dX7_countBroken_31 : decode cX7_countBroken 31 = .ok (.iadd, 1) := by decide +kernel
theorem dX7_countBroken_32 : decode cX7_countBroken 32 = .ok (.istore_n 1, 1) := by decide +kernel
theorem dX7_countBroken_33 : decode cX7_countBroken 33 = .ok (.iinc 2 1, 3) := by decide +kernel
theorem dX7_countBroken_36 : decode cX7_countBroken 36 = .ok (.goto (-32), 3) := by decide +kernel
theorem dX7_countBroken_26 : decode cX7_countBroken 26 = .ok (.iconst 1, 1) := by decide +kernel
theorem dX7_countBroken_27 : decode cX7_countBroken 27 = .ok (.goto 4, 3) := by decide +kernel
theorem dX7_countBroken_39 : decode cX7_countBroken 39 = .ok (.iload_n 1, 1) := by decide +kernel
theorem dX7_countBroken_40 : decode cX7_countBroken 40 = .ok (.ireturn, 1) := by decide +kernel
theorem dX7_firstRefusing_0 : decode cX7_firstRefusing 0 = .ok (.iconst 0, 1) := by decide +kernel
theorem dX7_firstRefusing_1 : decode cX7_firstRefusing 1 = .ok (.istore_n 1, 1) := by decide +kernel
theorem dX7_firstRefusing_2 : decode cX7_firstRefusing 2 = .ok (.iload_n 1, 1) := by decide +kernel
theorem dX7_firstRefusing_3 : decode cX7_firstRefusing 3 = .ok (.aload_n 0, 1) := by decide +kernel
theorem dX7_firstRefusing_4 : decode cX7_firstRefusing 4 = .ok (.getfield 55, 3) := by decide +kernel
theorem dX7_firstRefusing_7 : decode cX7_firstRefusing 7 = .ok (.if_icmp .ge 39, 3) := by decide +kernel
theorem dX7_firstRefusing_10 : decode cX7_firstRefusing 10 = .ok (.aload_n 0, 1) := by decide +kernel
theorem dX7_firstRefusing_11 : decode cX7_firstRefusing 11 = .ok (.getfield 29, 3) := by decide +kernel
theorem dX7_firstRefusing_14 : decode cX7_firstRefusing 14 = .ok (.iload_n 1, 1) := by decide +kernel
theorem dX7_firstRefusing_15 : decode cX7_firstRefusing 15 = .ok (.aaload, 1) := by decide +kernel
theorem dX7_firstRefusing_16 : decode cX7_firstRefusing 16 = .ok (.iconst 0, 1) := by decide +kernel
theorem dX7_firstRefusing_17 : decode cX7_firstRefusing 17 = .ok (.laload, 1) := by decide +kernel
theorem dX7_firstRefusing_18 : decode cX7_firstRefusing 18 = .ok (.lconst 1, 1) := by decide +kernel
theorem dX7_firstRefusing_19 : decode cX7_firstRefusing 19 = .ok (.lcmp, 1) := by decide +kernel
theorem dX7_firstRefusing_20 : decode cX7_firstRefusing 20 = .ok (.ifCond .eq 18, 3) := by decide +kernel
theorem dX7_firstRefusing_38 : decode cX7_firstRefusing 38 = .ok (.iload_n 1, 1) := by decide +kernel
theorem dX7_firstRefusing_39 : decode cX7_firstRefusing 39 = .ok (.ireturn, 1) := by decide +kernel
theorem dX7_firstRefusing_23 : decode cX7_firstRefusing 23 = .ok (.aload_n 0, 1) := by decide +kernel
theorem dX7_firstRefusing_24 : decode cX7_firstRefusing 24 = .ok (.getfield 29, 3) := by decide +kernel
theorem dX7_firstRefusing_27 : decode cX7_firstRefusing 27 = .ok (.iload_n 1, 1) := by decide +kernel
theorem dX7_firstRefusing_28 : decode cX7_firstRefusing 28 = .ok (.aaload, 1) := by decide +kernel
theorem dX7_firstRefusing_29 : decode cX7_firstRefusing 29 = .ok (.iconst 0, 1) := by decide +kernel
theorem dX7_firstRefusing_30 : decode cX7_firstRefusing 30 = .ok (.laload, 1) := by decide +kernel
theorem dX7_firstRefusing_31 : decode cX7_firstRefusing 31 = .ok (.ldc2_w 79, 3) := by decide +kernel
theorem dX7_firstRefusing_34 : decode cX7_firstRefusing 34 = .ok (.lcmp, 1) := by decide +kernel
theorem dX7_firstRefusing_35 : decode cX7_firstRefusing 35 = .ok (.ifCond .ne 5, 3) := by decide +kernel
theorem dX7_firstRefusing_40 : decode cX7_firstRefusing 40 = .ok (.iinc 1 1, 3) := by decide +kernel
theorem dX7_firstRefusing_43 : decode cX7_firstRefusing 43 = .ok (.goto (-41), 3) := by decide +kernel
theorem dX7_firstRefusing_46 : decode cX7_firstRefusing 46 = .ok (.iconst (-1), 1) := by decide +kernel
theorem dX7_firstRefusing_47 : decode cX7_firstRefusing 47 = .ok (.ireturn, 1) := by decide +kernel
theorem dX7_answerOf_0 : decode cX7_answerOf 0 = .ok (.aload_n 0, 1) := by decide +kernel
theorem dX7_answerOf_1 : decode cX7_answerOf 1 = .ok (.getfield 29, 3) := by decide +kernel
theorem dX7_answerOf_4 : decode cX7_answerOf 4 = .ok (.iload_n 1, 1) := by decide +kernel
theorem dX7_answerOf_5 : decode cX7_answerOf 5 = .ok (.aaload, 1) := by decide +kernel
theorem dX7_answerOf_6 : decode cX7_answerOf 6 = .ok (.iload_n 2, 1) := by decide +kernel
theorem dX7_answerOf_7 : decode cX7_answerOf 7 = .ok (.laload, 1) := by decide +kernel
theorem dX7_answerOf_8 : decode cX7_answerOf 8 = .ok (.lreturn, 1) := by decide +kernel
theorem dX8_liesAlong_0 : decode cX8_liesAlong 0 = .ok (.iconst 0, 1) := by decide +kernel
theorem dX8_liesAlong_1 : decode cX8_liesAlong 1 = .ok (.istore 6, 2) := by decide +kernel
theorem dX8_liesAlong_3 : decode cX8_liesAlong 3 = .ok (.iload 6, 2) := by decide +kernel
theorem dX8_liesAlong_5 : decode cX8_liesAlong 5 = .ok (.aload_n 0, 1) := by decide +kernel
theorem dX8_liesAlong_6 : decode cX8_liesAlong 6 = .ok (.getfield 32, 3) := by decide +kernel
theorem dX8_liesAlong_9 : decode cX8_liesAlong 9 = .ok (.if_icmp .ge 148, 3) := by decide +kernel
theorem dX8_liesAlong_12 : decode cX8_liesAlong 12 = .ok (.aload_n 0, 1) := by decide +kernel
theorem dX8_liesAlong_13 : decode cX8_liesAlong 13 = .ok (.getfield 13, 3) := by decide +kernel
theorem dX8_liesAlong_16 : decode cX8_liesAlong 16 = .ok (.iload 6, 2) := by decide +kernel
theorem dX8_liesAlong_18 : decode cX8_liesAlong 18 = .ok (.aaload, 1) := by decide +kernel
theorem dX8_liesAlong_19 : decode cX8_liesAlong 19 = .ok (.astore 7, 2) := by decide +kernel
theorem dX8_liesAlong_21 : decode cX8_liesAlong 21 = .ok (.iload_n 3, 1) := by decide +kernel
theorem dX8_liesAlong_22 : decode cX8_liesAlong 22 = .ok (.iload 5, 2) := by decide +kernel
theorem dX8_liesAlong_24 : decode cX8_liesAlong 24 = .ok (.if_icmp .ne 26, 3) := by decide +kernel
theorem dX8_liesAlong_50 : decode cX8_liesAlong 50 = .ok (.iconst 0, 1) := by decide +kernel
theorem dX8_liesAlong_51 : decode cX8_liesAlong 51 = .ok (.istore 8, 2) := by decide +kernel
theorem dX8_liesAlong_53 : decode cX8_liesAlong 53 = .ok (.iload_n 2, 1) := by decide +kernel
theorem dX8_liesAlong_54 : decode cX8_liesAlong 54 = .ok (.iload 4, 2) := by decide +kernel
theorem dX8_liesAlong_56 : decode cX8_liesAlong 56 = .ok (.if_icmp .ne 26, 3) := by decide +kernel
theorem dX8_liesAlong_82 : decode cX8_liesAlong 82 = .ok (.iconst 0, 1) := by decide +kernel
theorem dX8_liesAlong_83 : decode cX8_liesAlong 83 = .ok (.istore 9, 2) := by decide +kernel
theorem dX8_liesAlong_85 : decode cX8_liesAlong 85 = .ok (.iload 6, 2) := by decide +kernel
theorem dX8_liesAlong_87 : decode cX8_liesAlong 87 = .ok (.iload_n 1, 1) := by decide +kernel
theorem dX8_liesAlong_88 : decode cX8_liesAlong 88 = .ok (.if_icmp .eq 30, 3) := by decide +kernel
theorem dX8_liesAlong_118 : decode cX8_liesAlong 118 = .ok (.iload 6, 2) := by decide +kernel
theorem dX8_liesAlong_120 : decode cX8_liesAlong 120 = .ok (.iload_n 1, 1) := by decide +kernel
theorem dX8_liesAlong_121 : decode cX8_liesAlong 121 = .ok (.if_icmp .eq 30, 3) := by decide +kernel
theorem dX8_liesAlong_151 : decode cX8_liesAlong 151 = .ok (.iinc 6 1, 3) := by decide +kernel
theorem dX8_liesAlong_154 : decode cX8_liesAlong 154 = .ok (.goto (-151), 3) := by decide +kernel
theorem dX8_liesAlong_124 : decode cX8_liesAlong 124 = .ok (.iload 9, 2) := by decide +kernel
theorem dX8_liesAlong_126 : decode cX8_liesAlong 126 = .ok (.ifCond .eq 25, 3) := by decide +kernel
theorem dX8_liesAlong_129 : decode cX8_liesAlong 129 = .ok (.iload_n 3, 1) := by decide +kernel
theorem dX8_liesAlong_130 : decode cX8_liesAlong 130 = .ok (.aload 7, 2) := by decide +kernel
theorem dX8_liesAlong_132 : decode cX8_liesAlong 132 = .ok (.iconst 1, 1) := by decide +kernel
theorem dX8_liesAlong_133 : decode cX8_liesAlong 133 = .ok (.iaload, 1) := by decide +kernel
theorem dX8_liesAlong_134 : decode cX8_liesAlong 134 = .ok (.invokestatic 29, 3) := by decide +kernel
theorem dX8_liesAlong_137 : decode cX8_liesAlong 137 = .ok (.iload 5, 2) := by decide +kernel
theorem dX8_liesAlong_139 : decode cX8_liesAlong 139 = .ok (.aload 7, 2) := by decide +kernel
theorem dX8_liesAlong_141 : decode cX8_liesAlong 141 = .ok (.iconst 3, 1) := by decide +kernel
theorem dX8_liesAlong_142 : decode cX8_liesAlong 142 = .ok (.iaload, 1) := by decide +kernel
theorem dX8_liesAlong_143 : decode cX8_liesAlong 143 = .ok (.invokestatic 23, 3) := by decide +kernel
theorem dX8_liesAlong_146 : decode cX8_liesAlong 146 = .ok (.if_icmp .ge 5, 3) := by decide +kernel
theorem dX8_liesAlong_149 : decode cX8_liesAlong 149 = .ok (.iconst 1, 1) := by decide +kernel
theorem dX8_liesAlong_150 : decode cX8_liesAlong 150 = .ok (.ireturn, 1) := by decide +kernel
theorem dX8_liesAlong_91 : decode cX8_liesAlong 91 = .ok (.iload 8, 2) := by decide +kernel
theorem dX8_liesAlong_93 : decode cX8_liesAlong 93 = .ok (.ifCond .eq 25, 3) := by decide +kernel
theorem dX8_liesAlong_96 : decode cX8_liesAlong 96 = .ok (.iload_n 2, 1) := by decide +kernel
theorem dX8_liesAlong_97 : decode cX8_liesAlong 97 = .ok (.aload 7, 2) := by decide +kernel
theorem dX8_liesAlong_99 : decode cX8_liesAlong 99 = .ok (.iconst 0, 1) := by decide +kernel
theorem dX8_liesAlong_100 : decode cX8_liesAlong 100 = .ok (.iaload, 1) := by decide +kernel
theorem dX8_liesAlong_101 : decode cX8_liesAlong 101 = .ok (.invokestatic 29, 3) := by decide +kernel
theorem dX8_liesAlong_104 : decode cX8_liesAlong 104 = .ok (.iload 4, 2) := by decide +kernel
theorem dX8_liesAlong_106 : decode cX8_liesAlong 106 = .ok (.aload 7, 2) := by decide +kernel
theorem dX8_liesAlong_108 : decode cX8_liesAlong 108 = .ok (.iconst 2, 1) := by decide +kernel
theorem dX8_liesAlong_109 : decode cX8_liesAlong 109 = .ok (.iaload, 1) := by decide +kernel
theorem dX8_liesAlong_110 : decode cX8_liesAlong 110 = .ok (.invokestatic 23, 3) := by decide +kernel
theorem dX8_liesAlong_113 : decode cX8_liesAlong 113 = .ok (.if_icmp .ge 5, 3) := by decide +kernel
theorem dX8_liesAlong_116 : decode cX8_liesAlong 116 = .ok (.iconst 1, 1) := by decide +kernel
theorem dX8_liesAlong_117 : decode cX8_liesAlong 117 = .ok (.ireturn, 1) := by decide +kernel
theorem dX8_liesAlong_59 : decode cX8_liesAlong 59 = .ok (.aload 7, 2) := by decide +kernel
theorem dX8_liesAlong_61 : decode cX8_liesAlong 61 = .ok (.iconst 0, 1) := by decide +kernel
theorem dX8_liesAlong_62 : decode cX8_liesAlong 62 = .ok (.iaload, 1) := by decide +kernel
theorem dX8_liesAlong_63 : decode cX8_liesAlong 63 = .ok (.aload 7, 2) := by decide +kernel
theorem dX8_liesAlong_65 : decode cX8_liesAlong 65 = .ok (.iconst 2, 1) := by decide +kernel
theorem dX8_liesAlong_66 : decode cX8_liesAlong 66 = .ok (.iaload, 1) := by decide +kernel
theorem dX8_liesAlong_67 : decode cX8_liesAlong 67 = .ok (.if_icmp .ne 15, 3) := by decide +kernel
theorem dX8_liesAlong_70 : decode cX8_liesAlong 70 = .ok (.iload_n 2, 1) := by decide +kernel
theorem dX8_liesAlong_71 : decode cX8_liesAlong 71 = .ok (.aload 7, 2) := by decide +kernel
theorem dX8_liesAlong_73 : decode cX8_liesAlong 73 = .ok (.iconst 0, 1) := by decide +kernel
theorem dX8_liesAlong_74 : decode cX8_liesAlong 74 = .ok (.iaload, 1) := by decide +kernel
theorem dX8_liesAlong_75 : decode cX8_liesAlong 75 = .ok (.if_icmp .ne 7, 3) := by decide +kernel
theorem dX8_liesAlong_78 : decode cX8_liesAlong 78 = .ok (.iconst 1, 1) := by decide +kernel
theorem dX8_liesAlong_79 : decode cX8_liesAlong 79 = .ok (.goto 4, 3) := by decide +kernel
theorem dX8_liesAlong_27 : decode cX8_liesAlong 27 = .ok (.aload 7, 2) := by decide +kernel
theorem dX8_liesAlong_29 : decode cX8_liesAlong 29 = .ok (.iconst 1, 1) := by decide +kernel
theorem dX8_liesAlong_30 : decode cX8_liesAlong 30 = .ok (.iaload, 1) := by decide +kernel
theorem dX8_liesAlong_31 : decode cX8_liesAlong 31 = .ok (.aload 7, 2) := by decide +kernel
theorem dX8_liesAlong_33 : decode cX8_liesAlong 33 = .ok (.iconst 3, 1) := by decide +kernel
theorem dX8_liesAlong_34 : decode cX8_liesAlong 34 = .ok (.iaload, 1) := by decide +kernel
theorem dX8_liesAlong_35 : decode cX8_liesAlong 35 = .ok (.if_icmp .ne 15, 3) := by decide +kernel
theorem dX8_liesAlong_38 : decode cX8_liesAlong 38 = .ok (.iload_n 3, 1) := by decide +kernel
theorem dX8_liesAlong_39 : decode cX8_liesAlong 39 = .ok (.aload 7, 2) := by decide +kernel
theorem dX8_liesAlong_41 : decode cX8_liesAlong 41 = .ok (.iconst 1, 1) := by decide +kernel
theorem dX8_liesAlong_42 : decode cX8_liesAlong 42 = .ok (.iaload, 1) := by decide +kernel
theorem dX8_liesAlong_43 : decode cX8_liesAlong 43 = .ok (.if_icmp .ne 7, 3) := by decide +kernel
theorem dX8_liesAlong_46 : decode cX8_liesAlong 46 = .ok (.iconst 1, 1) := by decide +kernel
theorem dX8_liesAlong_47 : decode cX8_liesAlong 47 = .ok (.goto 4, 3) := by decide +kernel
theorem dX8_liesAlong_157 : decode cX8_liesAlong 157 = .ok (.iconst 0, 1) := by decide +kernel
theorem dX8_liesAlong_158 : decode cX8_liesAlong 158 = .ok (.ireturn, 1) := by decide +kernel
theorem dX8_setEnds_0 : decode cX8_setEnds 0 = .ok (.aload_n 0, 1) := by decide +kernel
theorem dX8_setEnds_1 : decode cX8_setEnds 1 = .ok (.getfield 13, 3) := by decide +kernel
theorem dX8_setEnds_4 : decode cX8_setEnds 4 = .ok (.iload_n 1, 1) := by decide +kernel
theorem dX8_setEnds_5 : decode cX8_setEnds 5 = .ok (.aaload, 1) := by decide +kernel
theorem dX8_setEnds_6 : decode cX8_setEnds 6 = .ok (.astore 6, 2) := by decide +kernel
theorem dX8_setEnds_8 : decode cX8_setEnds 8 = .ok (.aload 6, 2) := by decide +kernel
theorem dX8_setEnds_10 : decode cX8_setEnds 10 = .ok (.iconst 0, 1) := by decide +kernel
theorem dX8_setEnds_11 : decode cX8_setEnds 11 = .ok (.iload_n 2, 1) := by decide +kernel
theorem dX8_setEnds_12 : decode cX8_setEnds 12 = .ok (.iastore, 1) := by decide +kernel
theorem dX8_setEnds_13 : decode cX8_setEnds 13 = .ok (.aload 6, 2) := by decide +kernel
theorem dX8_setEnds_15 : decode cX8_setEnds 15 = .ok (.iconst 1, 1) := by decide +kernel
theorem dX8_setEnds_16 : decode cX8_setEnds 16 = .ok (.iload_n 3, 1) := by decide +kernel
theorem dX8_setEnds_17 : decode cX8_setEnds 17 = .ok (.iastore, 1) := by decide +kernel
theorem dX8_setEnds_18 : decode cX8_setEnds 18 = .ok (.aload 6, 2) := by decide +kernel
theorem dX8_setEnds_20 : decode cX8_setEnds 20 = .ok (.iconst 2, 1) := by decide +kernel
theorem dX8_setEnds_21 : decode cX8_setEnds 21 = .ok (.iload 4, 2) := by decide +kernel
theorem dX8_setEnds_23 : decode cX8_setEnds 23 = .ok (.iastore, 1) := by decide +kernel
theorem dX8_setEnds_24 : decode cX8_setEnds 24 = .ok (.aload 6, 2) := by decide +kernel
theorem dX8_setEnds_26 : decode cX8_setEnds 26 = .ok (.iconst 3, 1) := by decide +kernel
theorem dX8_setEnds_27 : decode cX8_setEnds 27 = .ok (.iload 5, 2) := by decide +kernel
theorem dX8_setEnds_29 : decode cX8_setEnds 29 = .ok (.iastore, 1) := by decide +kernel
theorem dX8_setEnds_30 : decode cX8_setEnds 30 = .ok (.return_, 1) := by decide +kernel
theorem dX8_addLine_0 : decode cX8_addLine 0 = .ok (.iload_n 1, 1) := by decide +kernel
theorem dX8_addLine_1 : decode cX8_addLine 1 = .ok (.iload_n 3, 1) := by decide +kernel
theorem dX8_addLine_2 : decode cX8_addLine 2 = .ok (.invokestatic 23, 3) := by decide +kernel
theorem dX8_addLine_5 : decode cX8_addLine 5 = .ok (.istore 5, 2) := by decide +kernel
theorem dX8_addLine_7 : decode cX8_addLine 7 = .ok (.iload_n 2, 1) := by decide +kernel
theorem dX8_addLine_8 : decode cX8_addLine 8 = .ok (.iload 4, 2) := by decide +kernel
theorem dX8_addLine_10 : decode cX8_addLine 10 = .ok (.invokestatic 23, 3) := by decide +kernel
theorem dX8_addLine_13 : decode cX8_addLine 13 = .ok (.istore 6, 2) := by decide +kernel
theorem dX8_addLine_15 : decode cX8_addLine 15 = .ok (.iload_n 1, 1) := by decide +kernel
theorem dX8_addLine_16 : decode cX8_addLine 16 = .ok (.iload_n 3, 1) := by decide +kernel
theorem dX8_addLine_17 : decode cX8_addLine 17 = .ok (.invokestatic 29, 3) := by decide +kernel
theorem dX8_addLine_20 : decode cX8_addLine 20 = .ok (.istore 7, 2) := by decide +kernel
theorem dX8_addLine_22 : decode cX8_addLine 22 = .ok (.iload_n 2, 1) := by decide +kernel
theorem dX8_addLine_23 : decode cX8_addLine 23 = .ok (.iload 4, 2) := by decide +kernel
theorem dX8_addLine_25 : decode cX8_addLine 25 = .ok (.invokestatic 29, 3) := by decide +kernel
theorem dX8_addLine_28 : decode cX8_addLine 28 = .ok (.istore 8, 2) := by decide +kernel
theorem dX8_addLine_30 : decode cX8_addLine 30 = .ok (.aload_n 0, 1) := by decide +kernel
theorem dX8_addLine_31 : decode cX8_addLine 31 = .ok (.getfield 32, 3) := by decide +kernel
theorem dX8_addLine_34 : decode cX8_addLine 34 = .ok (.bipush 20, 2) := by decide +kernel
theorem dX8_addLine_36 : decode cX8_addLine 36 = .ok (.if_icmp .ge 19, 3) := by decide +kernel
theorem dX8_addLine_55 : decode cX8_addLine 55 = .ok (.iconst (-1), 1) := by decide +kernel
theorem dX8_addLine_56 : decode cX8_addLine 56 = .ok (.ireturn, 1) := by decide +kernel
theorem dX8_addLine_39 : decode cX8_addLine 39 = .ok (.aload_n 0, 1) := by decide +kernel
theorem dX8_addLine_40 : decode cX8_addLine 40 = .ok (.iconst (-1), 1) := by decide +kernel
theorem dX8_addLine_41 : decode cX8_addLine 41 = .ok (.iload 5, 2) := by decide +kernel
theorem dX8_addLine_43 : decode cX8_addLine 43 = .ok (.iload 6, 2) := by decide +kernel
theorem dX8_addLine_45 : decode cX8_addLine 45 = .ok (.iload 7, 2) := by decide +kernel
theorem dX8_addLine_47 : decode cX8_addLine 47 = .ok (.iload 8, 2) := by decide +kernel
theorem dX8_addLine_49 : decode cX8_addLine 49 = .ok (.invokevirtual 36, 3) := by decide +kernel
theorem dX8_addLine_52 : decode cX8_addLine 52 = .ok (.ifCond .eq 5, 3) := by decide +kernel
theorem dX8_addLine_57 : decode cX8_addLine 57 = .ok (.aload_n 0, 1) := by decide +kernel
theorem dX8_addLine_58 : decode cX8_addLine 58 = .ok (.aload_n 0, 1) := by decide +kernel
theorem dX8_addLine_59 : decode cX8_addLine 59 = .ok (.getfield 32, 3) := by decide +kernel
theorem dX8_addLine_62 : decode cX8_addLine 62 = .ok (.iload 5, 2) := by decide +kernel
theorem dX8_addLine_64 : decode cX8_addLine 64 = .ok (.iload 6, 2) := by decide +kernel
theorem dX8_addLine_66 : decode cX8_addLine 66 = .ok (.iload 7, 2) := by decide +kernel
theorem dX8_addLine_68 : decode cX8_addLine 68 = .ok (.iload 8, 2) := by decide +kernel
theorem dX8_addLine_70 : decode cX8_addLine 70 = .ok (.invokevirtual 40, 3) := by decide +kernel
theorem dX8_addLine_73 : decode cX8_addLine 73 = .ok (.aload_n 0, 1) := by decide +kernel
theorem dX8_addLine_74 : decode cX8_addLine 74 = .ok (.dup, 1) := by decide +kernel
theorem dX8_addLine_75 : decode cX8_addLine 75 = .ok (.getfield 32, 3) := by decide +kernel
theorem dX8_addLine_78 : decode cX8_addLine 78 = .ok (.iconst 1, 1) := by decide +kernel
theorem dX8_addLine_79 : decode cX8_addLine 79 = .ok (.iadd, 1) := by decide +kernel
theorem dX8_addLine_80 : decode cX8_addLine 80 = .ok (.putfield 32, 3) := by decide +kernel
theorem dX8_addLine_83 : decode cX8_addLine 83 = .ok (.aload_n 0, 1) := by decide +kernel
theorem dX8_addLine_84 : decode cX8_addLine 84 = .ok (.getfield 32, 3) := by decide +kernel
theorem dX8_addLine_87 : decode cX8_addLine 87 = .ok (.iconst 1, 1) := by decide +kernel
theorem dX8_addLine_88 : decode cX8_addLine 88 = .ok (.isub, 1) := by decide +kernel
theorem dX8_addLine_89 : decode cX8_addLine 89 = .ok (.ireturn, 1) := by decide +kernel
theorem dX8_moveLine_0 : decode cX8_moveLine 0 = .ok (.aload_n 0, 1) := by decide +kernel
theorem dX8_moveLine_1 : decode cX8_moveLine 1 = .ok (.getfield 13, 3) := by decide +kernel
theorem dX8_moveLine_4 : decode cX8_moveLine 4 = .ok (.iload_n 1, 1) := by decide +kernel
theorem dX8_moveLine_5 : decode cX8_moveLine 5 = .ok (.aaload, 1) := by decide +kernel
theorem dX8_moveLine_6 : decode cX8_moveLine 6 = .ok (.astore 4, 2) := by decide +kernel
theorem dX8_moveLine_8 : decode cX8_moveLine 8 = .ok (.aload_n 0, 1) := by decide +kernel
theorem dX8_moveLine_9 : decode cX8_moveLine 9 = .ok (.iload_n 1, 1) := by decide +kernel
theorem dX8_moveLine_10 : decode cX8_moveLine 10 = .ok (.aload 4, 2) := by decide +kernel
theorem dX8_moveLine_12 : decode cX8_moveLine 12 = .ok (.iconst 0, 1) := by decide +kernel
theorem dX8_moveLine_13 : decode cX8_moveLine 13 = .ok (.iaload, 1) := by decide +kernel
theorem dX8_moveLine_14 : decode cX8_moveLine 14 = .ok (.iload_n 2, 1) := by decide +kernel
theorem dX8_moveLine_15 : decode cX8_moveLine 15 = .ok (.iadd, 1) := by decide +kernel
theorem dX8_moveLine_16 : decode cX8_moveLine 16 = .ok (.aload 4, 2) := by decide +kernel
theorem dX8_moveLine_18 : decode cX8_moveLine 18 = .ok (.iconst 1, 1) := by decide +kernel
theorem dX8_moveLine_19 : decode cX8_moveLine 19 = .ok (.iaload, 1) := by decide +kernel
theorem dX8_moveLine_20 : decode cX8_moveLine 20 = .ok (.iload_n 3, 1) := by decide +kernel
theorem dX8_moveLine_21 : decode cX8_moveLine 21 = .ok (.iadd, 1) := by decide +kernel
theorem dX8_moveLine_22 : decode cX8_moveLine 22 = .ok (.aload 4, 2) := by decide +kernel
theorem dX8_moveLine_24 : decode cX8_moveLine 24 = .ok (.iconst 2, 1) := by decide +kernel
theorem dX8_moveLine_25 : decode cX8_moveLine 25 = .ok (.iaload, 1) := by decide +kernel
theorem dX8_moveLine_26 : decode cX8_moveLine 26 = .ok (.iload_n 2, 1) := by decide +kernel
theorem dX8_moveLine_27 : decode cX8_moveLine 27 = .ok (.iadd, 1) := by decide +kernel
theorem dX8_moveLine_28 : decode cX8_moveLine 28 = .ok (.aload 4, 2) := by decide +kernel
theorem dX8_moveLine_30 : decode cX8_moveLine 30 = .ok (.iconst 3, 1) := by decide +kernel
theorem dX8_moveLine_31 : decode cX8_moveLine 31 = .ok (.iaload, 1) := by decide +kernel
theorem dX8_moveLine_32 : decode cX8_moveLine 32 = .ok (.iload_n 3, 1) := by decide +kernel
theorem dX8_moveLine_33 : decode cX8_moveLine 33 = .ok (.iadd, 1) := by decide +kernel
theorem dX8_moveLine_34 : decode cX8_moveLine 34 = .ok (.invokevirtual 36, 3) := by decide +kernel
theorem dX8_moveLine_37 : decode cX8_moveLine 37 = .ok (.ifCond .eq 5, 3) := by decide +kernel
theorem dX8_moveLine_42 : decode cX8_moveLine 42 = .ok (.aload_n 0, 1) := by decide +kernel
theorem dX8_moveLine_43 : decode cX8_moveLine 43 = .ok (.iload_n 1, 1) := by decide +kernel
theorem dX8_moveLine_44 : decode cX8_moveLine 44 = .ok (.aload 4, 2) := by decide +kernel
theorem dX8_moveLine_46 : decode cX8_moveLine 46 = .ok (.iconst 0, 1) := by decide +kernel
theorem dX8_moveLine_47 : decode cX8_moveLine 47 = .ok (.iaload, 1) := by decide +kernel
theorem dX8_moveLine_48 : decode cX8_moveLine 48 = .ok (.iload_n 2, 1) := by decide +kernel
theorem dX8_moveLine_49 : decode cX8_moveLine 49 = .ok (.iadd, 1) := by decide +kernel
theorem dX8_moveLine_50 : decode cX8_moveLine 50 = .ok (.aload 4, 2) := by decide +kernel
theorem dX8_moveLine_52 : decode cX8_moveLine 52 = .ok (.iconst 1, 1) := by decide +kernel
theorem dX8_moveLine_53 : decode cX8_moveLine 53 = .ok (.iaload, 1) := by decide +kernel
theorem dX8_moveLine_54 : decode cX8_moveLine 54 = .ok (.iload_n 3, 1) := by decide +kernel
theorem dX8_moveLine_55 : decode cX8_moveLine 55 = .ok (.iadd, 1) := by decide +kernel
theorem dX8_moveLine_56 : decode cX8_moveLine 56 = .ok (.aload 4, 2) := by decide +kernel
theorem dX8_moveLine_58 : decode cX8_moveLine 58 = .ok (.iconst 2, 1) := by decide +kernel
theorem dX8_moveLine_59 : decode cX8_moveLine 59 = .ok (.iaload, 1) := by decide +kernel
theorem dX8_moveLine_60 : decode cX8_moveLine 60 = .ok (.iload_n 2, 1) := by decide +kernel
theorem dX8_moveLine_61 : decode cX8_moveLine 61 = .ok (.iadd, 1) := by decide +kernel
theorem dX8_moveLine_62 : decode cX8_moveLine 62 = .ok (.aload 4, 2) := by decide +kernel
theorem dX8_moveLine_64 : decode cX8_moveLine 64 = .ok (.iconst 3, 1) := by decide +kernel
theorem dX8_moveLine_65 : decode cX8_moveLine 65 = .ok (.iaload, 1) := by decide +kernel
theorem dX8_moveLine_66 : decode cX8_moveLine 66 = .ok (.iload_n 3, 1) := by decide +kernel
theorem dX8_moveLine_67 : decode cX8_moveLine 67 = .ok (.iadd, 1) := by decide +kernel
theorem dX8_moveLine_68 : decode cX8_moveLine 68 = .ok (.invokevirtual 40, 3) := by decide +kernel
theorem dX8_moveLine_71 : decode cX8_moveLine 71 = .ok (.iconst 1, 1) := by decide +kernel
theorem dX8_moveLine_72 : decode cX8_moveLine 72 = .ok (.ireturn, 1) := by decide +kernel
theorem dX8_moveLine_40 : decode cX8_moveLine 40 = .ok (.iconst 0, 1) := by decide +kernel
theorem dX8_moveLine_41 : decode cX8_moveLine 41 = .ok (.ireturn, 1) := by decide +kernel
theorem dX8_staysOnPlan_0 : decode cX8_staysOnPlan 0 = .ok (.aload_n 0, 1) := by decide +kernel
theorem dX8_staysOnPlan_1 : decode cX8_staysOnPlan 1 = .ok (.getfield 13, 3) := by decide +kernel
theorem dX8_staysOnPlan_4 : decode cX8_staysOnPlan 4 = .ok (.iload_n 1, 1) := by decide +kernel
theorem dX8_staysOnPlan_5 : decode cX8_staysOnPlan 5 = .ok (.aaload, 1) := by decide +kernel
theorem dX8_staysOnPlan_6 : decode cX8_staysOnPlan 6 = .ok (.astore 4, 2) := by decide +kernel
theorem dX8_staysOnPlan_8 : decode cX8_staysOnPlan 8 = .ok (.aload 4, 2) := by decide +kernel
theorem dX8_staysOnPlan_10 : decode cX8_staysOnPlan 10 = .ok (.iconst 0, 1) := by decide +kernel
theorem dX8_staysOnPlan_11 : decode cX8_staysOnPlan 11 = .ok (.iaload, 1) := by decide +kernel
theorem dX8_staysOnPlan_12 : decode cX8_staysOnPlan 12 = .ok (.i2l, 1) := by decide +kernel
theorem dX8_staysOnPlan_13 : decode cX8_staysOnPlan 13 = .ok (.iload_n 2, 1) := by decide +kernel
theorem dX8_staysOnPlan_14 : decode cX8_staysOnPlan 14 = .ok (.i2l, 1) := by decide +kernel
theorem dX8_staysOnPlan_15 : decode cX8_staysOnPlan 15 = .ok (.ladd, 1) := by decide +kernel
theorem dX8_staysOnPlan_16 : decode cX8_staysOnPlan 16 = .ok (.lconst 0, 1) := by decide +kernel
theorem dX8_staysOnPlan_17 : decode cX8_staysOnPlan 17 = .ok (.lcmp, 1) := by decide +kernel
theorem dX8_staysOnPlan_18 : decode cX8_staysOnPlan 18 = .ok (.ifCond .lt 50, 3) := by decide +kernel
theorem dX8_staysOnPlan_68 : decode cX8_staysOnPlan 68 = .ok (.iconst 0, 1) := by decide +kernel
theorem dX8_staysOnPlan_69 : decode cX8_staysOnPlan 69 = .ok (.ireturn, 1) := by decide +kernel
theorem dX8_staysOnPlan_21 : decode cX8_staysOnPlan 21 = .ok (.aload 4, 2) := by decide +kernel
theorem dX8_staysOnPlan_23 : decode cX8_staysOnPlan 23 = .ok (.iconst 2, 1) := by decide +kernel
theorem dX8_staysOnPlan_24 : decode cX8_staysOnPlan 24 = .ok (.iaload, 1) := by decide +kernel
theorem dX8_staysOnPlan_25 : decode cX8_staysOnPlan 25 = .ok (.i2l, 1) := by decide +kernel
theorem dX8_staysOnPlan_26 : decode cX8_staysOnPlan 26 = .ok (.iload_n 2, 1) := by decide +kernel
theorem dX8_staysOnPlan_27 : decode cX8_staysOnPlan 27 = .ok (.i2l, 1) := by decide +kernel
theorem dX8_staysOnPlan_28 : decode cX8_staysOnPlan 28 = .ok (.ladd, 1) := by decide +kernel
theorem dX8_staysOnPlan_29 : decode cX8_staysOnPlan 29 = .ok (.ldc2_w 46, 3) := by decide +kernel
theorem dX8_staysOnPlan_32 : decode cX8_staysOnPlan 32 = .ok (.lcmp, 1) := by decide +kernel
theorem dX8_staysOnPlan_33 : decode cX8_staysOnPlan 33 = .ok (.ifCond .gt 35, 3) := by decide +kernel
theorem dX8_staysOnPlan_36 : decode cX8_staysOnPlan 36 = .ok (.aload 4, 2) := by decide +kernel
theorem dX8_staysOnPlan_38 : decode cX8_staysOnPlan 38 = .ok (.iconst 1, 1) := by decide +kernel
theorem dX8_staysOnPlan_39 : decode cX8_staysOnPlan 39 = .ok (.iaload, 1) := by decide +kernel
theorem dX8_staysOnPlan_40 : decode cX8_staysOnPlan 40 = .ok (.i2l, 1) := by decide +kernel
theorem dX8_staysOnPlan_41 : decode cX8_staysOnPlan 41 = .ok (.iload_n 3, 1) := by decide +kernel
theorem dX8_staysOnPlan_42 : decode cX8_staysOnPlan 42 = .ok (.i2l, 1) := by decide +kernel
theorem dX8_staysOnPlan_43 : decode cX8_staysOnPlan 43 = .ok (.ladd, 1) := by decide +kernel
theorem dX8_staysOnPlan_44 : decode cX8_staysOnPlan 44 = .ok (.lconst 0, 1) := by decide +kernel
theorem dX8_staysOnPlan_45 : decode cX8_staysOnPlan 45 = .ok (.lcmp, 1) := by decide +kernel
theorem dX8_staysOnPlan_46 : decode cX8_staysOnPlan 46 = .ok (.ifCond .lt 22, 3) := by decide +kernel
theorem dX8_staysOnPlan_49 : decode cX8_staysOnPlan 49 = .ok (.aload 4, 2) := by decide +kernel
theorem dX8_staysOnPlan_51 : decode cX8_staysOnPlan 51 = .ok (.iconst 3, 1) := by decide +kernel
theorem dX8_staysOnPlan_52 : decode cX8_staysOnPlan 52 = .ok (.iaload, 1) := by decide +kernel
theorem dX8_staysOnPlan_53 : decode cX8_staysOnPlan 53 = .ok (.i2l, 1) := by decide +kernel
theorem dX8_staysOnPlan_54 : decode cX8_staysOnPlan 54 = .ok (.iload_n 3, 1) := by decide +kernel
theorem dX8_staysOnPlan_55 : decode cX8_staysOnPlan 55 = .ok (.i2l, 1) := by decide +kernel
theorem dX8_staysOnPlan_56 : decode cX8_staysOnPlan 56 = .ok (.ladd, 1) := by decide +kernel
theorem dX8_staysOnPlan_57 : decode cX8_staysOnPlan 57 = .ok (.ldc2_w 46, 3) := by decide +kernel
theorem dX8_staysOnPlan_60 : decode cX8_staysOnPlan 60 = .ok (.lcmp, 1) := by decide +kernel
theorem dX8_staysOnPlan_61 : decode cX8_staysOnPlan 61 = .ok (.ifCond .gt 7, 3) := by decide +kernel
theorem dX8_staysOnPlan_64 : decode cX8_staysOnPlan 64 = .ok (.iconst 1, 1) := by decide +kernel
theorem dX8_staysOnPlan_65 : decode cX8_staysOnPlan 65 = .ok (.goto 4, 3) := by decide +kernel
theorem dX8_addDoor_0 : decode cX8_addDoor 0 = .ok (.aload_n 0, 1) := by decide +kernel
theorem dX8_addDoor_1 : decode cX8_addDoor 1 = .ok (.getfield 16, 3) := by decide +kernel
theorem dX8_addDoor_4 : decode cX8_addDoor 4 = .ok (.iload_n 1, 1) := by decide +kernel
theorem dX8_addDoor_5 : decode cX8_addDoor 5 = .ok (.iaload, 1) := by decide +kernel
theorem dX8_addDoor_6 : decode cX8_addDoor 6 = .ok (.bipush 6, 2) := by decide +kernel
theorem dX8_addDoor_8 : decode cX8_addDoor 8 = .ok (.if_icmp .ge 58, 3) := by decide +kernel
theorem dX8_addDoor_66 : decode cX8_addDoor 66 = .ok (.aload_n 0, 1) := by decide +kernel
theorem dX8_addDoor_67 : decode cX8_addDoor 67 = .ok (.getfield 16, 3) := by decide +kernel
theorem dX8_addDoor_70 : decode cX8_addDoor 70 = .ok (.iload_n 1, 1) := by decide +kernel
theorem dX8_addDoor_71 : decode cX8_addDoor 71 = .ok (.iaload, 1) := by decide +kernel
theorem dX8_addDoor_72 : decode cX8_addDoor 72 = .ok (.ireturn, 1) := by decide +kernel
theorem dX8_addDoor_11 : decode cX8_addDoor 11 = .ok (.iconst 3, 1) := by decide +kernel
theorem dX8_addDoor_12 : decode cX8_addDoor 12 = .ok (.aload_n 0, 1) := by decide +kernel
theorem dX8_addDoor_13 : decode cX8_addDoor 13 = .ok (.getfield 16, 3) := by decide +kernel
theorem dX8_addDoor_16 : decode cX8_addDoor 16 = .ok (.iload_n 1, 1) := by decide +kernel
theorem dX8_addDoor_17 : decode cX8_addDoor 17 = .ok (.iaload, 1) := by decide +kernel
theorem dX8_addDoor_18 : decode cX8_addDoor 18 = .ok (.imul, 1) := by decide +kernel
theorem dX8_addDoor_19 : decode cX8_addDoor 19 = .ok (.istore 5, 2) := by decide +kernel
theorem dX8_addDoor_21 : decode cX8_addDoor 21 = .ok (.aload_n 0, 1) := by decide +kernel
theorem dX8_addDoor_22 : decode cX8_addDoor 22 = .ok (.getfield 20, 3) := by decide +kernel
theorem dX8_addDoor_25 : decode cX8_addDoor 25 = .ok (.iload_n 1, 1) := by decide +kernel
theorem dX8_addDoor_26 : decode cX8_addDoor 26 = .ok (.aaload, 1) := by decide +kernel
theorem dX8_addDoor_27 : decode cX8_addDoor 27 = .ok (.iload 5, 2) := by decide +kernel
theorem dX8_addDoor_29 : decode cX8_addDoor 29 = .ok (.iload_n 2, 1) := by decide +kernel
theorem dX8_addDoor_30 : decode cX8_addDoor 30 = .ok (.iastore, 1) := by decide +kernel
theorem dX8_addDoor_31 : decode cX8_addDoor 31 = .ok (.aload_n 0, 1) := by decide +kernel
theorem dX8_addDoor_32 : decode cX8_addDoor 32 = .ok (.getfield 20, 3) := by decide +kernel
theorem dX8_addDoor_35 : decode cX8_addDoor 35 = .ok (.iload_n 1, 1) := by decide +kernel
theorem dX8_addDoor_36 : decode cX8_addDoor 36 = .ok (.aaload, 1) := by decide +kernel
theorem dX8_addDoor_37 : decode cX8_addDoor 37 = .ok (.iload 5, 2) := by decide +kernel
theorem dX8_addDoor_39 : decode cX8_addDoor 39 = .ok (.iconst 1, 1) := by decide +kernel
theorem dX8_addDoor_40 : decode cX8_addDoor 40 = .ok (.iadd, 1) := by decide +kernel
theorem dX8_addDoor_41 : decode cX8_addDoor 41 = .ok (.iload_n 3, 1) := by decide +kernel
theorem dX8_addDoor_42 : decode cX8_addDoor 42 = .ok (.iastore, 1) := by decide +kernel
theorem dX8_addDoor_43 : decode cX8_addDoor 43 = .ok (.aload_n 0, 1) := by decide +kernel
theorem dX8_addDoor_44 : decode cX8_addDoor 44 = .ok (.getfield 20, 3) := by decide +kernel
theorem dX8_addDoor_47 : decode cX8_addDoor 47 = .ok (.iload_n 1, 1) := by decide +kernel
theorem dX8_addDoor_48 : decode cX8_addDoor 48 = .ok (.aaload, 1) := by decide +kernel
theorem dX8_addDoor_49 : decode cX8_addDoor 49 = .ok (.iload 5, 2) := by decide +kernel
theorem dX8_addDoor_51 : decode cX8_addDoor 51 = .ok (.iconst 2, 1) := by decide +kernel
theorem dX8_addDoor_52 : decode cX8_addDoor 52 = .ok (.iadd, 1) := by decide +kernel
theorem dX8_addDoor_53 : decode cX8_addDoor 53 = .ok (.iload 4, 2) := by decide +kernel
theorem dX8_addDoor_55 : decode cX8_addDoor 55 = .ok (.iastore, 1) := by decide +kernel
theorem dX8_addDoor_56 : decode cX8_addDoor 56 = .ok (.aload_n 0, 1) := by decide +kernel
theorem dX8_addDoor_57 : decode cX8_addDoor 57 = .ok (.getfield 16, 3) := by decide +kernel
theorem dX8_addDoor_60 : decode cX8_addDoor 60 = .ok (.iload_n 1, 1) := by decide +kernel
theorem dX8_addDoor_61 : decode cX8_addDoor 61 = .ok (.dup2, 1) := by decide +kernel
theorem dX8_addDoor_62 : decode cX8_addDoor 62 = .ok (.iaload, 1) := by decide +kernel
theorem dX8_addDoor_63 : decode cX8_addDoor 63 = .ok (.iconst 1, 1) := by decide +kernel
theorem dX8_addDoor_64 : decode cX8_addDoor 64 = .ok (.iadd, 1) := by decide +kernel
theorem dX8_addDoor_65 : decode cX8_addDoor 65 = .ok (.iastore, 1) := by decide +kernel
theorem dX8_isDoorAt_0 : decode cX8_isDoorAt 0 = .ok (.aload_n 0, 1) := by decide +kernel
theorem dX8_isDoorAt_1 : decode cX8_isDoorAt 1 = .ok (.iload_n 1, 1) := by decide +kernel
theorem dX8_isDoorAt_2 : decode cX8_isDoorAt 2 = .ok (.iload_n 2, 1) := by decide +kernel
theorem dX8_isDoorAt_3 : decode cX8_isDoorAt 3 = .ok (.invokevirtual 52, 3) := by decide +kernel
theorem dX8_isDoorAt_6 : decode cX8_isDoorAt 6 = .ok (.iload_n 3, 1) := by decide +kernel
theorem dX8_isDoorAt_7 : decode cX8_isDoorAt 7 = .ok (.if_icmp .gt 17, 3) := by decide +kernel
theorem dX8_isDoorAt_24 : decode cX8_isDoorAt 24 = .ok (.iconst 0, 1) := by decide +kernel
theorem dX8_isDoorAt_25 : decode cX8_isDoorAt 25 = .ok (.ireturn, 1) := by decide +kernel
theorem dX8_isDoorAt_10 : decode cX8_isDoorAt 10 = .ok (.iload_n 3, 1) := by decide +kernel
theorem dX8_isDoorAt_11 : decode cX8_isDoorAt 11 = .ok (.aload_n 0, 1) := by decide +kernel
theorem dX8_isDoorAt_12 : decode cX8_isDoorAt 12 = .ok (.iload_n 1, 1) := by decide +kernel
theorem dX8_isDoorAt_13 : decode cX8_isDoorAt 13 = .ok (.iload_n 2, 1) := by decide +kernel
theorem dX8_isDoorAt_14 : decode cX8_isDoorAt 14 = .ok (.invokevirtual 55, 3) := by decide +kernel
theorem dX8_isDoorAt_17 : decode cX8_isDoorAt 17 = .ok (.if_icmp .ge 7, 3) := by decide +kernel
theorem dX8_isDoorAt_20 : decode cX8_isDoorAt 20 = .ok (.iconst 1, 1) := by decide +kernel
theorem dX8_isDoorAt_21 : decode cX8_isDoorAt 21 = .ok (.goto 4, 3) := by decide +kernel
theorem dX8_hasDoorAt_0 : decode cX8_hasDoorAt 0 = .ok (.iconst 0, 1) := by decide +kernel
theorem dX8_hasDoorAt_1 : decode cX8_hasDoorAt 1 = .ok (.istore_n 3, 1) := by decide +kernel
theorem dX8_hasDoorAt_2 : decode cX8_hasDoorAt 2 = .ok (.iload_n 3, 1) := by decide +kernel
theorem dX8_hasDoorAt_3 : decode cX8_hasDoorAt 3 = .ok (.aload_n 0, 1) := by decide +kernel
theorem dX8_hasDoorAt_4 : decode cX8_hasDoorAt 4 = .ok (.getfield 16, 3) := by decide +kernel
theorem dX8_hasDoorAt_7 : decode cX8_hasDoorAt 7 = .ok (.iload_n 1, 1) := by decide +kernel
theorem dX8_hasDoorAt_8 : decode cX8_hasDoorAt 8 = .ok (.iaload, 1) := by decide +kernel
theorem dX8_hasDoorAt_9 : decode cX8_hasDoorAt 9 = .ok (.if_icmp .ge 21, 3) := by decide +kernel
theorem dX8_hasDoorAt_12 : decode cX8_hasDoorAt 12 = .ok (.aload_n 0, 1) := by decide +kernel
theorem dX8_hasDoorAt_13 : decode cX8_hasDoorAt 13 = .ok (.iload_n 1, 1) := by decide +kernel
theorem dX8_hasDoorAt_14 : decode cX8_hasDoorAt 14 = .ok (.iload_n 3, 1) := by decide +kernel
theorem dX8_hasDoorAt_15 : decode cX8_hasDoorAt 15 = .ok (.iload_n 2, 1) := by decide +kernel
theorem dX8_hasDoorAt_16 : decode cX8_hasDoorAt 16 = .ok (.invokevirtual 48, 3) := by decide +kernel
theorem dX8_hasDoorAt_19 : decode cX8_hasDoorAt 19 = .ok (.ifCond .eq 5, 3) := by decide +kernel
theorem dX8_hasDoorAt_24 : decode cX8_hasDoorAt 24 = .ok (.iinc 3 1, 3) := by decide +kernel
theorem dX8_hasDoorAt_27 : decode cX8_hasDoorAt 27 = .ok (.goto (-25), 3) := by decide +kernel
theorem dX8_hasDoorAt_22 : decode cX8_hasDoorAt 22 = .ok (.iconst 1, 1) := by decide +kernel
theorem dX8_hasDoorAt_23 : decode cX8_hasDoorAt 23 = .ok (.ireturn, 1) := by decide +kernel
theorem dX8_hasDoorAt_30 : decode cX8_hasDoorAt 30 = .ok (.iconst 0, 1) := by decide +kernel
theorem dX8_hasDoorAt_31 : decode cX8_hasDoorAt 31 = .ok (.ireturn, 1) := by decide +kernel
theorem dX8_rateOf_0 : decode cX8_rateOf 0 = .ok (.aload_n 0, 1) := by decide +kernel
theorem dX8_rateOf_1 : decode cX8_rateOf 1 = .ok (.getfield 20, 3) := by decide +kernel
theorem dX8_rateOf_4 : decode cX8_rateOf 4 = .ok (.iload_n 1, 1) := by decide +kernel
theorem dX8_rateOf_5 : decode cX8_rateOf 5 = .ok (.aaload, 1) := by decide +kernel
theorem dX8_rateOf_6 : decode cX8_rateOf 6 = .ok (.iconst 3, 1) := by decide +kernel
theorem dX8_rateOf_7 : decode cX8_rateOf 7 = .ok (.iload_n 2, 1) := by decide +kernel
theorem dX8_rateOf_8 : decode cX8_rateOf 8 = .ok (.imul, 1) := by decide +kernel
theorem dX8_rateOf_9 : decode cX8_rateOf 9 = .ok (.iconst 2, 1) := by decide +kernel
theorem dX8_rateOf_10 : decode cX8_rateOf 10 = .ok (.iadd, 1) := by decide +kernel
theorem dX8_rateOf_11 : decode cX8_rateOf 11 = .ok (.iaload, 1) := by decide +kernel
theorem dX8_rateOf_12 : decode cX8_rateOf 12 = .ok (.ireturn, 1) := by decide +kernel
theorem dX9_addBlock_0 : decode cX9_addBlock 0 = .ok (.aload_n 0, 1) := by decide +kernel
theorem dX9_addBlock_1 : decode cX9_addBlock 1 = .ok (.getfield 60, 3) := by decide +kernel
theorem dX9_addBlock_4 : decode cX9_addBlock 4 = .ok (.bipush 40, 2) := by decide +kernel
theorem dX9_addBlock_6 : decode cX9_addBlock 6 = .ok (.if_icmp .lt 5, 3) := by decide +kernel
theorem dX9_addBlock_11 : decode cX9_addBlock 11 = .ok (.aload_n 0, 1) := by decide +kernel
theorem dX9_addBlock_12 : decode cX9_addBlock 12 = .ok (.getfield 11, 3) := by decide +kernel
theorem dX9_addBlock_15 : decode cX9_addBlock 15 = .ok (.aload_n 0, 1) := by decide +kernel
theorem dX9_addBlock_16 : decode cX9_addBlock 16 = .ok (.getfield 60, 3) := by decide +kernel
theorem dX9_addBlock_19 : decode cX9_addBlock 19 = .ok (.iload_n 1, 1) := by decide +kernel
theorem dX9_addBlock_20 : decode cX9_addBlock 20 = .ok (.iastore, 1) := by decide +kernel
theorem dX9_addBlock_21 : decode cX9_addBlock 21 = .ok (.aload_n 0, 1) := by decide +kernel
theorem dX9_addBlock_22 : decode cX9_addBlock 22 = .ok (.getfield 26, 3) := by decide +kernel
theorem dX9_addBlock_25 : decode cX9_addBlock 25 = .ok (.aload_n 0, 1) := by decide +kernel
theorem dX9_addBlock_26 : decode cX9_addBlock 26 = .ok (.getfield 60, 3) := by decide +kernel
theorem dX9_addBlock_29 : decode cX9_addBlock 29 = .ok (.aaload, 1) := by decide +kernel
theorem dX9_addBlock_30 : decode cX9_addBlock 30 = .ok (.iconst (-1), 1) := by decide +kernel
theorem dX9_addBlock_31 : decode cX9_addBlock 31 = .ok (.invokestatic 64, 3) := by decide +kernel
theorem dX9_addBlock_34 : decode cX9_addBlock 34 = .ok (.aload_n 0, 1) := by decide +kernel
theorem dX9_addBlock_35 : decode cX9_addBlock 35 = .ok (.getfield 45, 3) := by decide +kernel
theorem dX9_addBlock_38 : decode cX9_addBlock 38 = .ok (.aload_n 0, 1) := by decide +kernel
theorem dX9_addBlock_39 : decode cX9_addBlock 39 = .ok (.getfield 60, 3) := by decide +kernel
theorem dX9_addBlock_42 : decode cX9_addBlock 42 = .ok (.iconst (-1), 1) := by decide +kernel
theorem dX9_addBlock_43 : decode cX9_addBlock 43 = .ok (.iastore, 1) := by decide +kernel
theorem dX9_addBlock_44 : decode cX9_addBlock 44 = .ok (.aload_n 0, 1) := by decide +kernel
theorem dX9_addBlock_45 : decode cX9_addBlock 45 = .ok (.iconst 0, 1) := by decide +kernel
theorem dX9_addBlock_46 : decode cX9_addBlock 46 = .ok (.putfield 70, 3) := by decide +kernel
theorem dX9_addBlock_49 : decode cX9_addBlock 49 = .ok (.aload_n 0, 1) := by decide +kernel
theorem dX9_addBlock_50 : decode cX9_addBlock 50 = .ok (.dup, 1) := by decide +kernel
theorem dX9_addBlock_51 : decode cX9_addBlock 51 = .ok (.getfield 60, 3) := by decide +kernel
theorem dX9_addBlock_54 : decode cX9_addBlock 54 = .ok (.iconst 1, 1) := by decide +kernel
theorem dX9_addBlock_55 : decode cX9_addBlock 55 = .ok (.iadd, 1) := by decide +kernel
theorem dX9_addBlock_56 : decode cX9_addBlock 56 = .ok (.putfield 60, 3) := by decide +kernel
theorem dX9_addBlock_59 : decode cX9_addBlock 59 = .ok (.aload_n 0, 1) := by decide +kernel
theorem dX9_addBlock_60 : decode cX9_addBlock 60 = .ok (.getfield 60, 3) := by decide +kernel
theorem dX9_addBlock_63 : decode cX9_addBlock 63 = .ok (.iconst 1, 1) := by decide +kernel
theorem dX9_addBlock_64 : decode cX9_addBlock 64 = .ok (.isub, 1) := by decide +kernel
theorem dX9_addBlock_65 : decode cX9_addBlock 65 = .ok (.ireturn, 1) := by decide +kernel
theorem dX9_addBlock_9 : decode cX9_addBlock 9 = .ok (.iconst (-1), 1) := by decide +kernel
theorem dX9_addBlock_10 : decode cX9_addBlock 10 = .ok (.ireturn, 1) := by decide +kernel
theorem dX9_setInput_0 : decode cX9_setInput 0 = .ok (.aload_n 0, 1) := by decide +kernel
theorem dX9_setInput_1 : decode cX9_setInput 1 = .ok (.getfield 26, 3) := by decide +kernel
theorem dX9_setInput_4 : decode cX9_setInput 4 = .ok (.iload_n 1, 1) := by decide +kernel
theorem dX9_setInput_5 : decode cX9_setInput 5 = .ok (.aaload, 1) := by decide +kernel
theorem dX9_setInput_6 : decode cX9_setInput 6 = .ok (.iload_n 2, 1) := by decide +kernel
theorem dX9_setInput_7 : decode cX9_setInput 7 = .ok (.iaload, 1) := by decide +kernel
theorem dX9_setInput_8 : decode cX9_setInput 8 = .ok (.istore 4, 2) := by decide +kernel
theorem dX9_setInput_10 : decode cX9_setInput 10 = .ok (.aload_n 0, 1) := by decide +kernel
theorem dX9_setInput_11 : decode cX9_setInput 11 = .ok (.getfield 26, 3) := by decide +kernel
theorem dX9_setInput_14 : decode cX9_setInput 14 = .ok (.iload_n 1, 1) := by decide +kernel
theorem dX9_setInput_15 : decode cX9_setInput 15 = .ok (.aaload, 1) := by decide +kernel
theorem dX9_setInput_16 : decode cX9_setInput 16 = .ok (.iload_n 2, 1) := by decide +kernel
theorem dX9_setInput_17 : decode cX9_setInput 17 = .ok (.iload_n 3, 1) := by decide +kernel
theorem dX9_setInput_18 : decode cX9_setInput 18 = .ok (.iastore, 1) := by decide +kernel
theorem dX9_setInput_19 : decode cX9_setInput 19 = .ok (.aload_n 0, 1) := by decide +kernel
theorem dX9_setInput_20 : decode cX9_setInput 20 = .ok (.iconst 0, 1) := by decide +kernel
theorem dX9_setInput_21 : decode cX9_setInput 21 = .ok (.putfield 70, 3) := by decide +kernel
theorem dX9_setInput_24 : decode cX9_setInput 24 = .ok (.iload 4, 2) := by decide +kernel
theorem dX9_setInput_26 : decode cX9_setInput 26 = .ok (.ireturn, 1) := by decide +kernel
theorem dX9_mayCome_0 : decode cX9_mayCome 0 = .ok (.aload_n 0, 1) := by decide +kernel
theorem dX9_mayCome_1 : decode cX9_mayCome 1 = .ok (.getfield 11, 3) := by decide +kernel
theorem dX9_mayCome_4 : decode cX9_mayCome 4 = .ok (.iload_n 1, 1) := by decide +kernel
theorem dX9_mayCome_5 : decode cX9_mayCome 5 = .ok (.iaload, 1) := by decide +kernel
theorem dX9_mayCome_6 : decode cX9_mayCome 6 = .ok (.bipush 16, 2) := by decide +kernel
theorem dX9_mayCome_8 : decode cX9_mayCome 8 = .ok (.if_icmp .ne 5, 3) := by decide +kernel
theorem dX9_mayCome_13 : decode cX9_mayCome 13 = .ok (.iconst 0, 1) := by decide +kernel
theorem dX9_mayCome_14 : decode cX9_mayCome 14 = .ok (.istore_n 2, 1) := by decide +kernel
theorem dX9_mayCome_15 : decode cX9_mayCome 15 = .ok (.iload_n 2, 1) := by decide +kernel
theorem dX9_mayCome_16 : decode cX9_mayCome 16 = .ok (.getstatic 92, 3) := by decide +kernel
theorem dX9_mayCome_19 : decode cX9_mayCome 19 = .ok (.aload_n 0, 1) := by decide +kernel
theorem dX9_mayCome_20 : decode cX9_mayCome 20 = .ok (.getfield 11, 3) := by decide +kernel
theorem dX9_mayCome_23 : decode cX9_mayCome 23 = .ok (.iload_n 1, 1) := by decide +kernel
theorem dX9_mayCome_24 : decode cX9_mayCome 24 = .ok (.iaload, 1) := by decide +kernel
theorem dX9_mayCome_25 : decode cX9_mayCome 25 = .ok (.iaload, 1) := by decide +kernel
theorem dX9_mayCome_26 : decode cX9_mayCome 26 = .ok (.if_icmp .ge 35, 3) := by decide +kernel
theorem dX9_mayCome_29 : decode cX9_mayCome 29 = .ok (.aload_n 0, 1) := by decide +kernel
theorem dX9_mayCome_30 : decode cX9_mayCome 30 = .ok (.getfield 26, 3) := by decide +kernel
theorem dX9_mayCome_33 : decode cX9_mayCome 33 = .ok (.iload_n 1, 1) := by decide +kernel
theorem dX9_mayCome_34 : decode cX9_mayCome 34 = .ok (.aaload, 1) := by decide +kernel
theorem dX9_mayCome_35 : decode cX9_mayCome 35 = .ok (.iload_n 2, 1) := by decide +kernel
theorem dX9_mayCome_36 : decode cX9_mayCome 36 = .ok (.iaload, 1) := by decide +kernel
theorem dX9_mayCome_37 : decode cX9_mayCome 37 = .ok (.istore_n 3, 1) := by decide +kernel
theorem dX9_mayCome_38 : decode cX9_mayCome 38 = .ok (.iload_n 3, 1) := by decide +kernel
theorem dX9_mayCome_39 : decode cX9_mayCome 39 = .ok (.iconst (-1), 1) := by decide +kernel
theorem dX9_mayCome_40 : decode cX9_mayCome 40 = .ok (.if_icmp .eq 15, 3) := by decide +kernel
theorem dX9_mayCome_55 : decode cX9_mayCome 55 = .ok (.iinc 2 1, 3) := by decide +kernel
theorem dX9_mayCome_58 : decode cX9_mayCome 58 = .ok (.goto (-43), 3) := by decide +kernel
theorem dX9_mayCome_43 : decode cX9_mayCome 43 = .ok (.aload_n 0, 1) := by decide +kernel
theorem dX9_mayCome_44 : decode cX9_mayCome 44 = .ok (.getfield 54, 3) := by decide +kernel
theorem dX9_mayCome_47 : decode cX9_mayCome 47 = .ok (.iload_n 3, 1) := by decide +kernel
theorem dX9_mayCome_48 : decode cX9_mayCome 48 = .ok (.iaload, 1) := by decide +kernel
theorem dX9_mayCome_49 : decode cX9_mayCome 49 = .ok (.iconst (-1), 1) := by decide +kernel
theorem dX9_mayCome_50 : decode cX9_mayCome 50 = .ok (.if_icmp .ne 5, 3) := by decide +kernel
theorem dX9_mayCome_53 : decode cX9_mayCome 53 = .ok (.iconst 0, 1) := by decide +kernel
theorem dX9_mayCome_54 : decode cX9_mayCome 54 = .ok (.ireturn, 1) := by decide +kernel
theorem dX9_mayCome_61 : decode cX9_mayCome 61 = .ok (.iconst 1, 1) := by decide +kernel
theorem dX9_mayCome_62 : decode cX9_mayCome 62 = .ok (.ireturn, 1) := by decide +kernel
theorem dX9_mayCome_11 : decode cX9_mayCome 11 = .ok (.iconst 1, 1) := by decide +kernel
theorem dX9_mayCome_12 : decode cX9_mayCome 12 = .ok (.ireturn, 1) := by decide +kernel
theorem dX9_leastThatMayCome_0 : decode cX9_leastThatMayCome 0 = .ok (.iconst 0, 1) := by decide +kernel
theorem dX9_leastThatMayCome_1 : decode cX9_leastThatMayCome 1 = .ok (.istore_n 1, 1) := by decide +kernel
theorem dX9_leastThatMayCome_2 : decode cX9_leastThatMayCome 2 = .ok (.iload_n 1, 1) := by decide +kernel
theorem dX9_leastThatMayCome_3 : decode cX9_leastThatMayCome 3 = .ok (.aload_n 0, 1) := by decide +kernel
theorem dX9_leastThatMayCome_4 : decode cX9_leastThatMayCome 4 = .ok (.getfield 60, 3) := by decide +kernel
theorem dX9_leastThatMayCome_7 : decode cX9_leastThatMayCome 7 = .ok (.if_icmp .ge 29, 3) := by decide +kernel
theorem dX9_leastThatMayCome_10 : decode cX9_leastThatMayCome 10 = .ok (.aload_n 0, 1) := by decide +kernel
theorem dX9_leastThatMayCome_11 : decode cX9_leastThatMayCome 11 = .ok (.getfield 54, 3) := by decide +kernel
theorem dX9_leastThatMayCome_14 : decode cX9_leastThatMayCome 14 = .ok (.iload_n 1, 1) := by decide +kernel
theorem dX9_leastThatMayCome_15 : decode cX9_leastThatMayCome 15 = .ok (.iaload, 1) := by decide +kernel
theorem dX9_leastThatMayCome_16 : decode cX9_leastThatMayCome 16 = .ok (.iconst (-1), 1) := by decide +kernel
theorem dX9_leastThatMayCome_17 : decode cX9_leastThatMayCome 17 = .ok (.if_icmp .ne 13, 3) := by decide +kernel
theorem dX9_leastThatMayCome_30 : decode cX9_leastThatMayCome 30 = .ok (.iinc 1 1, 3) := by decide +kernel
theorem dX9_leastThatMayCome_33 : decode cX9_leastThatMayCome 33 = .ok (.goto (-31), 3) := by decide +kernel
theorem dX9_leastThatMayCome_20 : decode cX9_leastThatMayCome 20 = .ok (.aload_n 0, 1) := by decide +kernel
theorem dX9_leastThatMayCome_21 : decode cX9_leastThatMayCome 21 = .ok (.iload_n 1, 1) := by decide +kernel
theorem dX9_leastThatMayCome_22 : decode cX9_leastThatMayCome 22 = .ok (.invokevirtual 88, 3) := by decide +kernel
theorem dX9_leastThatMayCome_25 : decode cX9_leastThatMayCome 25 = .ok (.ifCond .eq 5, 3) := by decide +kernel
theorem dX9_leastThatMayCome_28 : decode cX9_leastThatMayCome 28 = .ok (.iload_n 1, 1) := by decide +kernel
theorem dX9_leastThatMayCome_29 : decode cX9_leastThatMayCome 29 = .ok (.ireturn, 1) := by decide +kernel
theorem dX9_leastThatMayCome_36 : decode cX9_leastThatMayCome 36 = .ok (.iconst (-1), 1) := by decide +kernel
theorem dX9_leastThatMayCome_37 : decode cX9_leastThatMayCome 37 = .ok (.ireturn, 1) := by decide +kernel
theorem dX9_place_0 : decode cX9_place 0 = .ok (.aload_n 0, 1) := by decide +kernel
theorem dX9_place_1 : decode cX9_place 1 = .ok (.getfield 54, 3) := by decide +kernel
theorem dX9_place_4 : decode cX9_place 4 = .ok (.iload_n 1, 1) := by decide +kernel
theorem dX9_place_5 : decode cX9_place 5 = .ok (.iload_n 2, 1) := by decide +kernel
theorem dX9_place_6 : decode cX9_place 6 = .ok (.iastore, 1) := by decide +kernel
theorem dX9_place_7 : decode cX9_place 7 = .ok (.aload_n 0, 1) := by decide +kernel
theorem dX9_place_8 : decode cX9_place 8 = .ok (.getfield 51, 3) := by decide +kernel
theorem dX9_place_11 : decode cX9_place 11 = .ok (.iload_n 2, 1) := by decide +kernel
theorem dX9_place_12 : decode cX9_place 12 = .ok (.iload_n 1, 1) := by decide +kernel
theorem dX9_place_13 : decode cX9_place 13 = .ok (.iastore, 1) := by decide +kernel
theorem dX9_place_14 : decode cX9_place 14 = .ok (.return_, 1) := by decide +kernel
theorem dX9_sortBlocks_0 : decode cX9_sortBlocks 0 = .ok (.aload_n 0, 1) := by decide +kernel
theorem dX9_sortBlocks_1 : decode cX9_sortBlocks 1 = .ok (.getfield 70, 3) := by decide +kernel
theorem dX9_sortBlocks_4 : decode cX9_sortBlocks 4 = .ok (.ifCond .eq 4, 3) := by decide +kernel
theorem dX9_sortBlocks_8 : decode cX9_sortBlocks 8 = .ok (.aload_n 0, 1) := by decide +kernel
theorem dX9_sortBlocks_9 : decode cX9_sortBlocks 9 = .ok (.getfield 54, 3) := by decide +kernel
theorem dX9_sortBlocks_12 : decode cX9_sortBlocks 12 = .ok (.iconst (-1), 1) := by decide +kernel
theorem dX9_sortBlocks_13 : decode cX9_sortBlocks 13 = .ok (.invokestatic 64, 3) := by decide +kernel
theorem dX9_sortBlocks_16 : decode cX9_sortBlocks 16 = .ok (.aload_n 0, 1) := by decide +kernel
theorem dX9_sortBlocks_17 : decode cX9_sortBlocks 17 = .ok (.iconst 0, 1) := by decide +kernel
theorem dX9_sortBlocks_18 : decode cX9_sortBlocks 18 = .ok (.putfield 77, 3) := by decide +kernel
theorem dX9_sortBlocks_21 : decode cX9_sortBlocks 21 = .ok (.iconst 0, 1) := by decide +kernel
theorem dX9_sortBlocks_22 : decode cX9_sortBlocks 22 = .ok (.istore_n 1, 1) := by decide +kernel
theorem dX9_sortBlocks_23 : decode cX9_sortBlocks 23 = .ok (.iload_n 1, 1) := by decide +kernel
theorem dX9_sortBlocks_24 : decode cX9_sortBlocks 24 = .ok (.aload_n 0, 1) := by decide +kernel
theorem dX9_sortBlocks_25 : decode cX9_sortBlocks 25 = .ok (.getfield 60, 3) := by decide +kernel
theorem dX9_sortBlocks_28 : decode cX9_sortBlocks 28 = .ok (.if_icmp .ge 38, 3) := by decide +kernel
theorem dX9_sortBlocks_31 : decode cX9_sortBlocks 31 = .ok (.aload_n 0, 1) := by decide +kernel
theorem dX9_sortBlocks_32 : decode cX9_sortBlocks 32 = .ok (.invokevirtual 80, 3) := by decide +kernel
theorem dX9_sortBlocks_35 : decode cX9_sortBlocks 35 = .ok (.istore_n 2, 1) := by decide +kernel
theorem dX9_sortBlocks_36 : decode cX9_sortBlocks 36 = .ok (.iload_n 2, 1) := by decide +kernel
theorem dX9_sortBlocks_37 : decode cX9_sortBlocks 37 = .ok (.iconst (-1), 1) := by decide +kernel
theorem dX9_sortBlocks_38 : decode cX9_sortBlocks 38 = .ok (.if_icmp .eq 22, 3) := by decide +kernel
theorem dX9_sortBlocks_60 : decode cX9_sortBlocks 60 = .ok (.iinc 1 1, 3) := by decide +kernel
theorem dX9_sortBlocks_63 : decode cX9_sortBlocks 63 = .ok (.goto (-40), 3) := by decide +kernel
theorem dX9_sortBlocks_41 : decode cX9_sortBlocks 41 = .ok (.aload_n 0, 1) := by decide +kernel
theorem dX9_sortBlocks_42 : decode cX9_sortBlocks 42 = .ok (.iload_n 2, 1) := by decide +kernel
theorem dX9_sortBlocks_43 : decode cX9_sortBlocks 43 = .ok (.aload_n 0, 1) := by decide +kernel
theorem dX9_sortBlocks_44 : decode cX9_sortBlocks 44 = .ok (.getfield 77, 3) := by decide +kernel
theorem dX9_sortBlocks_47 : decode cX9_sortBlocks 47 = .ok (.invokevirtual 84, 3) := by decide +kernel
theorem dX9_sortBlocks_50 : decode cX9_sortBlocks 50 = .ok (.aload_n 0, 1) := by decide +kernel
theorem dX9_sortBlocks_51 : decode cX9_sortBlocks 51 = .ok (.dup, 1) := by decide +kernel
theorem dX9_sortBlocks_52 : decode cX9_sortBlocks 52 = .ok (.getfield 77, 3) := by decide +kernel
theorem dX9_sortBlocks_55 : decode cX9_sortBlocks 55 = .ok (.iconst 1, 1) := by decide +kernel
theorem dX9_sortBlocks_56 : decode cX9_sortBlocks 56 = .ok (.iadd, 1) := by decide +kernel
theorem dX9_sortBlocks_57 : decode cX9_sortBlocks 57 = .ok (.putfield 77, 3) := by decide +kernel
theorem dX9_sortBlocks_66 : decode cX9_sortBlocks 66 = .ok (.aload_n 0, 1) := by decide +kernel
theorem dX9_sortBlocks_67 : decode cX9_sortBlocks 67 = .ok (.getfield 77, 3) := by decide +kernel
theorem dX9_sortBlocks_70 : decode cX9_sortBlocks 70 = .ok (.istore_n 1, 1) := by decide +kernel
theorem dX9_sortBlocks_71 : decode cX9_sortBlocks 71 = .ok (.iconst 0, 1) := by decide +kernel
theorem dX9_sortBlocks_72 : decode cX9_sortBlocks 72 = .ok (.istore_n 2, 1) := by decide +kernel
theorem dX9_sortBlocks_73 : decode cX9_sortBlocks 73 = .ok (.iload_n 2, 1) := by decide +kernel
theorem dX9_sortBlocks_74 : decode cX9_sortBlocks 74 = .ok (.aload_n 0, 1) := by decide +kernel
theorem dX9_sortBlocks_75 : decode cX9_sortBlocks 75 = .ok (.getfield 60, 3) := by decide +kernel
theorem dX9_sortBlocks_78 : decode cX9_sortBlocks 78 = .ok (.if_icmp .ge 28, 3) := by decide +kernel
theorem dX9_sortBlocks_81 : decode cX9_sortBlocks 81 = .ok (.aload_n 0, 1) := by decide +kernel
theorem dX9_sortBlocks_82 : decode cX9_sortBlocks 82 = .ok (.getfield 54, 3) := by decide +kernel
theorem dX9_sortBlocks_85 : decode cX9_sortBlocks 85 = .ok (.iload_n 2, 1) := by decide +kernel
theorem dX9_sortBlocks_86 : decode cX9_sortBlocks 86 = .ok (.iaload, 1) := by decide +kernel
theorem dX9_sortBlocks_87 : decode cX9_sortBlocks 87 = .ok (.iconst (-1), 1) := by decide +kernel
theorem dX9_sortBlocks_88 : decode cX9_sortBlocks 88 = .ok (.if_icmp .ne 12, 3) := by decide +kernel
theorem dX9_sortBlocks_100 : decode cX9_sortBlocks 100 = .ok (.iinc 2 1, 3) := by decide +kernel
theorem dX9_sortBlocks_103 : decode cX9_sortBlocks 103 = .ok (.goto (-30), 3) := by decide +kernel
theorem dX9_sortBlocks_91 : decode cX9_sortBlocks 91 = .ok (.aload_n 0, 1) := by decide +kernel
theorem dX9_sortBlocks_92 : decode cX9_sortBlocks 92 = .ok (.iload_n 2, 1) := by decide +kernel
theorem dX9_sortBlocks_93 : decode cX9_sortBlocks 93 = .ok (.iload_n 1, 1) := by decide +kernel
theorem dX9_sortBlocks_94 : decode cX9_sortBlocks 94 = .ok (.invokevirtual 84, 3) := by decide +kernel
theorem dX9_sortBlocks_97 : decode cX9_sortBlocks 97 = .ok (.iinc 1 1, 3) := by decide +kernel
theorem dX9_sortBlocks_106 : decode cX9_sortBlocks 106 = .ok (.aload_n 0, 1) := by decide +kernel
theorem dX9_sortBlocks_107 : decode cX9_sortBlocks 107 = .ok (.iconst 1, 1) := by decide +kernel
theorem dX9_sortBlocks_108 : decode cX9_sortBlocks 108 = .ok (.putfield 70, 3) := by decide +kernel
theorem dX9_sortBlocks_111 : decode cX9_sortBlocks 111 = .ok (.return_, 1) := by decide +kernel
theorem dX9_sortBlocks_7 : decode cX9_sortBlocks 7 = .ok (.return_, 1) := by decide +kernel
theorem dX9_blockFact_0 : decode cX9_blockFact 0 = .ok (.iload_n 2, 1) := by decide +kernel
theorem dX9_blockFact_1 : decode cX9_blockFact 1 = .ok (.tableswitch 52 0 2 #[27, 34, 43], 27) := by decide +kernel
theorem dX9_blockFact_53 : decode cX9_blockFact 53 = .ok (.aload_n 0, 1) := by decide +kernel
theorem dX9_blockFact_54 : decode cX9_blockFact 54 = .ok (.invokevirtual 74, 3) := by decide +kernel
theorem dX9_blockFact_57 : decode cX9_blockFact 57 = .ok (.aload_n 0, 1) := by decide +kernel
theorem dX9_blockFact_58 : decode cX9_blockFact 58 = .ok (.getfield 54, 3) := by decide +kernel
theorem dX9_blockFact_61 : decode cX9_blockFact 61 = .ok (.iload_n 1, 1) := by decide +kernel
theorem dX9_blockFact_62 : decode cX9_blockFact 62 = .ok (.iaload, 1) := by decide +kernel
theorem dX9_blockFact_63 : decode cX9_blockFact 63 = .ok (.ireturn, 1) := by decide +kernel
theorem dX9_blockFact_28 : decode cX9_blockFact 28 = .ok (.aload_n 0, 1) := by decide +kernel
theorem dX9_blockFact_29 : decode cX9_blockFact 29 = .ok (.getfield 29, 3) := by decide +kernel
theorem dX9_blockFact_32 : decode cX9_blockFact 32 = .ok (.iload_n 1, 1) := by decide +kernel
theorem dX9_blockFact_33 : decode cX9_blockFact 33 = .ok (.iaload, 1) := by decide +kernel
theorem dX9_blockFact_34 : decode cX9_blockFact 34 = .ok (.ireturn, 1) := by decide +kernel
theorem dX9_blockFact_35 : decode cX9_blockFact 35 = .ok (.aload_n 0, 1) := by decide +kernel
theorem dX9_blockFact_36 : decode cX9_blockFact 36 = .ok (.getfield 32, 3) := by decide +kernel
theorem dX9_blockFact_39 : decode cX9_blockFact 39 = .ok (.iload_n 1, 1) := by decide +kernel
theorem dX9_blockFact_40 : decode cX9_blockFact 40 = .ok (.aaload, 1) := by decide +kernel
theorem dX9_blockFact_41 : decode cX9_blockFact 41 = .ok (.iconst 0, 1) := by decide +kernel
theorem dX9_blockFact_42 : decode cX9_blockFact 42 = .ok (.iaload, 1) := by decide +kernel
theorem dX9_blockFact_43 : decode cX9_blockFact 43 = .ok (.ireturn, 1) := by decide +kernel
theorem dX9_blockFact_44 : decode cX9_blockFact 44 = .ok (.aload_n 0, 1) := by decide +kernel
theorem dX9_blockFact_45 : decode cX9_blockFact 45 = .ok (.getfield 32, 3) := by decide +kernel
theorem dX9_blockFact_48 : decode cX9_blockFact 48 = .ok (.iload_n 1, 1) := by decide +kernel
theorem dX9_blockFact_49 : decode cX9_blockFact 49 = .ok (.aaload, 1) := by decide +kernel
theorem dX9_blockFact_50 : decode cX9_blockFact 50 = .ok (.iconst 1, 1) := by decide +kernel
theorem dX9_blockFact_51 : decode cX9_blockFact 51 = .ok (.iaload, 1) := by decide +kernel
theorem dX9_blockFact_52 : decode cX9_blockFact 52 = .ok (.ireturn, 1) := by decide +kernel
theorem dX9_lacksInput_0 : decode cX9_lacksInput 0 = .ok (.iconst 0, 1) := by decide +kernel
theorem dX9_lacksInput_1 : decode cX9_lacksInput 1 = .ok (.istore_n 2, 1) := by decide +kernel
theorem dX9_lacksInput_2 : decode cX9_lacksInput 2 = .ok (.iload_n 2, 1) := by decide +kernel
theorem dX9_lacksInput_3 : decode cX9_lacksInput 3 = .ok (.getstatic 92, 3) := by decide +kernel
theorem dX9_lacksInput_6 : decode cX9_lacksInput 6 = .ok (.aload_n 0, 1) := by decide +kernel
theorem dX9_lacksInput_7 : decode cX9_lacksInput 7 = .ok (.getfield 11, 3) := by decide +kernel
theorem dX9_lacksInput_10 : decode cX9_lacksInput 10 = .ok (.iload_n 1, 1) := by decide +kernel
theorem dX9_lacksInput_11 : decode cX9_lacksInput 11 = .ok (.iaload, 1) := by decide +kernel
theorem dX9_lacksInput_12 : decode cX9_lacksInput 12 = .ok (.iaload, 1) := by decide +kernel
theorem dX9_lacksInput_13 : decode cX9_lacksInput 13 = .ok (.if_icmp .ge 23, 3) := by decide +kernel
theorem dX9_lacksInput_16 : decode cX9_lacksInput 16 = .ok (.aload_n 0, 1) := by decide +kernel
theorem dX9_lacksInput_17 : decode cX9_lacksInput 17 = .ok (.getfield 26, 3) := by decide +kernel
theorem dX9_lacksInput_20 : decode cX9_lacksInput 20 = .ok (.iload_n 1, 1) := by decide +kernel
theorem dX9_lacksInput_21 : decode cX9_lacksInput 21 = .ok (.aaload, 1) := by decide +kernel
theorem dX9_lacksInput_22 : decode cX9_lacksInput 22 = .ok (.iload_n 2, 1) := by decide +kernel
theorem dX9_lacksInput_23 : decode cX9_lacksInput 23 = .ok (.iaload, 1) := by decide +kernel
theorem dX9_lacksInput_24 : decode cX9_lacksInput 24 = .ok (.iconst (-1), 1) := by decide +kernel
theorem dX9_lacksInput_25 : decode cX9_lacksInput 25 = .ok (.if_icmp .ne 5, 3) := by decide +kernel
theorem dX9_lacksInput_30 : decode cX9_lacksInput 30 = .ok (.iinc 2 1, 3) := by decide +kernel
theorem dX9_lacksInput_33 : decode cX9_lacksInput 33 = .ok (.goto (-31), 3) := by decide +kernel
theorem dX9_lacksInput_28 : decode cX9_lacksInput 28 = .ok (.iconst 1, 1) := by decide +kernel
theorem dX9_lacksInput_29 : decode cX9_lacksInput 29 = .ok (.ireturn, 1) := by decide +kernel
theorem dX9_lacksInput_36 : decode cX9_lacksInput 36 = .ok (.iconst 0, 1) := by decide +kernel
theorem dX9_lacksInput_37 : decode cX9_lacksInput 37 = .ok (.ireturn, 1) := by decide +kernel
theorem zl_X6_49 : zm_F zk_E RX6 49 6 6 := ⟨RX6, TX6, 10, rfl, zk_i6, by decide, zk_b1 165 (by decide +kernel) rfl⟩
theorem zl_X6_24 : zm_F zk_E RX6 24 6 7 := ⟨RX6, TX6, 10, rfl, zk_i6, by decide, zk_b1 166 (by decide +kernel) rfl⟩
theorem zt_6_5 : zm_T zk_E RX6 6 5 .int false := ⟨RX6, TX6, 10, tyX6, rfl, tyX6_ok, nmX6, rfl, rfl, rfl⟩
theorem zl_X6_56 : zm_L zk_E RX6 56 yX6_skipSign (.code yX6_skipSign cX6_skipSign 2 (some .boolean)) 1 ∧ Cond.instanceMethod yX6_skipSign ∈ zk_E.2.2.1 ∧ Cond.selects yX6_skipSign.cls yX6_skipSign yX6_skipSign ∈ zk_E.2.2.1 := ⟨⟨zk_b4 73 (by decide +kernel) rfl, zk_b1 4 (by decide +kernel) rfl, zk_b4 70 (by decide +kernel) rfl, by decide +kernel, by decide +kernel, by decide +kernel⟩, zk_b4 72 (by decide +kernel) rfl, zk_s1 (q := (yX6_skipSign, 10)) 6 (by decide +kernel)⟩
theorem zl_X7_60 : Cond.constantLong RX7 60 (255 : Int64) ∈ zk_E.2.2.1 := zk_b7 73 (by decide +kernel) rfl
theorem zl_X7_62 : Cond.constantLong RX7 62 (97 : Int64) ∈ zk_E.2.2.1 := zk_b7 74 (by decide +kernel) rfl
theorem zl_X7_64 : Cond.constantLong RX7 64 (122 : Int64) ∈ zk_E.2.2.1 := zk_b7 75 (by decide +kernel) rfl
theorem zl_X7_66 : zm_F zk_E RX7 66 7 8 := ⟨RX7, TX7, 16, rfl, zk_i7, by decide, zk_b1 212 (by decide +kernel) rfl⟩
theorem zl_X7_35 : zm_F zk_E RX7 35 7 9 := ⟨RX7, TX7, 16, rfl, zk_i7, by decide, zk_b1 213 (by decide +kernel) rfl⟩
theorem zl_X7_69 : zm_L zk_E RX7 69 yX7_findFact (.code yX7_findFact cX7_findFact 4 (some .int)) 1 ∧ Cond.instanceMethod yX7_findFact ∈ zk_E.2.2.1 ∧ Cond.selects yX7_findFact.cls yX7_findFact yX7_findFact ∈ zk_E.2.2.1 := ⟨⟨zk_b7 85 (by decide +kernel) rfl, zk_b1 5 (by decide +kernel) rfl, zk_b7 82 (by decide +kernel) rfl, by decide +kernel, by decide +kernel, by decide +kernel⟩, zk_b7 84 (by decide +kernel) rfl, zk_s3 (q := (yX7_findFact, 16)) 6 (by decide +kernel)⟩
theorem zl_X7_73 : Cond.constantLong RX7 73 (1000000000000 : Int64) ∈ zk_E.2.2.1 := zk_b7 90 (by decide +kernel) rfl
theorem zl_X7_38 : zm_F zk_E RX7 38 7 10 := ⟨RX7, TX7, 16, rfl, zk_i7, by decide, zk_b1 214 (by decide +kernel) rfl⟩
theorem zt_7_8 : zm_T zk_E RX7 7 8 .int false := ⟨RX7, TX7, 16, tyX7, rfl, tyX7_ok, nmX7, rfl, rfl, rfl⟩
theorem zl_X7_11 : zm_F zk_E RX7 11 7 2 := ⟨RX7, TX7, 16, rfl, zk_i7, by decide, zk_b1 206 (by decide +kernel) rfl⟩
theorem zl_X7_96 : zm_F zk_E RX7 96 7 11 := ⟨RX7, TX7, 16, rfl, zk_i7, by decide, zk_b1 215 (by decide +kernel) rfl⟩
theorem zt_7_11 : zm_T zk_E RX7 7 11 .int false := ⟨RX7, TX7, 16, tyX7, rfl, tyX7_ok, nmX7, rfl, rfl, rfl⟩
theorem zl_X7_148 : Cond.constantLong RX7 148 (-1 : Int64) ∈ zk_E.2.2.1 := zk_b7 150 (by decide +kernel) rfl
theorem zl_X7_89 : zm_F zk_E RX7 89 7 12 := ⟨RX7, TX7, 16, rfl, zk_i7, by decide, zk_b1 216 (by decide +kernel) rfl⟩
theorem zt_7_12 : zm_T zk_E RX7 7 12 .int false := ⟨RX7, TX7, 16, tyX7, rfl, tyX7_ok, nmX7, rfl, rfl, rfl⟩
theorem zl_X7_152 : Cond.constantLong RX7 152 (-9223372036854775808 : Int64) ∈ zk_E.2.2.1 := zk_b7 151 (by decide +kernel) rfl
theorem zl_X7_111 : zm_F zk_E RX7 111 7 14 := ⟨RX7, TX7, 16, rfl, zk_i7, by decide, zk_b1 218 (by decide +kernel) rfl⟩
theorem zl_X7_114 : zm_F zk_E RX7 114 7 15 := ⟨RX7, TX7, 16, rfl, zk_i7, by decide, zk_b1 219 (by decide +kernel) rfl⟩
theorem zl_X7_121 : zm_L zk_E RX7 121 yX7_multiply (.code yX7_multiply cX7_multiply 8 (some .long)) 2 ∧ Cond.instanceMethod yX7_multiply ∈ zk_E.2.2.1 ∧ Cond.selects yX7_multiply.cls yX7_multiply yX7_multiply ∈ zk_E.2.2.1 := ⟨⟨zk_b7 149 (by decide +kernel) rfl, zk_b1 5 (by decide +kernel) rfl, zk_b7 146 (by decide +kernel) rfl, by decide +kernel, by decide +kernel, by decide +kernel⟩, zk_b7 148 (by decide +kernel) rfl, zk_s3 (q := (yX7_multiply, 16)) 15 (by decide +kernel)⟩
theorem zt_7_14 : zm_T zk_E RX7 7 14 .long false := ⟨RX7, TX7, 16, tyX7, rfl, tyX7_ok, nmX7, rfl, rfl, rfl⟩
theorem zl_X7_145 : zm_L zk_E RX7 145 yX7_subtract (.code yX7_subtract cX7_subtract 7 (some .long)) 2 ∧ Cond.instanceMethod yX7_subtract ∈ zk_E.2.2.1 ∧ Cond.selects yX7_subtract.cls yX7_subtract yX7_subtract ∈ zk_E.2.2.1 := ⟨⟨zk_b7 159 (by decide +kernel) rfl, zk_b1 5 (by decide +kernel) rfl, zk_b7 156 (by decide +kernel) rfl, by decide +kernel, by decide +kernel, by decide +kernel⟩, zk_b7 158 (by decide +kernel) rfl, zk_s4 (q := (yX7_subtract, 16)) 1 (by decide +kernel)⟩
theorem zt_7_15 : zm_T zk_E RX7 7 15 .long false := ⟨RX7, TX7, 16, tyX7, rfl, tyX7_ok, nmX7, rfl, rfl, rfl⟩
theorem zl_X7_142 : zm_L zk_E RX7 142 yX7_add (.code yX7_add cX7_add 7 (some .long)) 2 ∧ Cond.instanceMethod yX7_add ∈ zk_E.2.2.1 ∧ Cond.selects yX7_add.cls yX7_add yX7_add ∈ zk_E.2.2.1 := ⟨⟨zk_b7 155 (by decide +kernel) rfl, zk_b1 5 (by decide +kernel) rfl, zk_b7 152 (by decide +kernel) rfl, by decide +kernel, by decide +kernel, by decide +kernel⟩, zk_b7 154 (by decide +kernel) rfl, zk_s4 (q := (yX7_add, 16)) 0 (by decide +kernel)⟩
theorem zl_X7_154 : zm_L zk_E RX7 154 yX7_commonBelowZero (.code yX7_commonBelowZero cX7_commonBelowZero 11 (some .long)) 2 ∧ Cond.static yX7_commonBelowZero ∈ zk_E.2.2.1 := ⟨⟨zk_b7 166 (by decide +kernel) rfl, zk_b1 5 (by decide +kernel) rfl, zk_b7 164 (by decide +kernel) rfl, by decide +kernel, by decide +kernel, by decide +kernel⟩, zk_b7 165 (by decide +kernel) rfl⟩
theorem zl_X7_55 : zm_F zk_E RX7 55 7 0 := ⟨RX7, TX7, 16, rfl, zk_i7, by decide, zk_b1 202 (by decide +kernel) rfl⟩
theorem zl_X7_29 : zm_F zk_E RX7 29 7 6 := ⟨RX7, TX7, 16, rfl, zk_i7, by decide, zk_b1 210 (by decide +kernel) rfl⟩
theorem zl_X7_79 : Cond.constantLong RX7 79 (3 : Int64) ∈ zk_E.2.2.1 := zk_b7 171 (by decide +kernel) rfl
theorem zl_X8_32 : zm_F zk_E RX8 32 8 0 := ⟨RX8, TX8, 4, rfl, zk_i8, by decide, zk_b1 53 (by decide +kernel) rfl⟩
theorem zl_X8_29 : zm_L zk_E RX8 29 yJ9_max_7cf53 (.code yJ9_max_7cf53 cJ9_max_7cf53 2 (some .int)) 2 ∧ Cond.static yJ9_max_7cf53 ∈ zk_E.2.2.1 := ⟨⟨zk_b4 218 (by decide +kernel) rfl, zk_b1 25 (by decide +kernel) rfl, zk_b4 216 (by decide +kernel) rfl, by decide +kernel, by decide +kernel, by decide +kernel⟩, zk_b4 217 (by decide +kernel) rfl⟩
theorem zl_X8_23 : zm_L zk_E RX8 23 yJ9_min_7cf53 (.code yJ9_min_7cf53 cJ9_min_7cf53 2 (some .int)) 2 ∧ Cond.static yJ9_min_7cf53 ∈ zk_E.2.2.1 := ⟨⟨zk_b4 215 (by decide +kernel) rfl, zk_b1 25 (by decide +kernel) rfl, zk_b4 213 (by decide +kernel) rfl, by decide +kernel, by decide +kernel, by decide +kernel⟩, zk_b4 214 (by decide +kernel) rfl⟩
theorem zl_X8_36 : zm_L zk_E RX8 36 yX8_liesAlong (.code yX8_liesAlong cX8_liesAlong 10 (some .boolean)) 5 ∧ Cond.instanceMethod yX8_liesAlong ∈ zk_E.2.2.1 ∧ Cond.selects yX8_liesAlong.cls yX8_liesAlong yX8_liesAlong ∈ zk_E.2.2.1 := ⟨⟨zk_b4 222 (by decide +kernel) rfl, zk_b1 2 (by decide +kernel) rfl, zk_b4 219 (by decide +kernel) rfl, by decide +kernel, by decide +kernel, by decide +kernel⟩, zk_b4 221 (by decide +kernel) rfl, zk_s1 (q := (yX8_liesAlong, 4)) 13 (by decide +kernel)⟩
theorem zl_X8_40 : zm_L zk_E RX8 40 yX8_setEnds (.code yX8_setEnds cX8_setEnds 7 none) 5 ∧ Cond.instanceMethod yX8_setEnds ∈ zk_E.2.2.1 ∧ Cond.selects yX8_setEnds.cls yX8_setEnds yX8_setEnds ∈ zk_E.2.2.1 := ⟨⟨zk_b4 226 (by decide +kernel) rfl, zk_b1 2 (by decide +kernel) rfl, zk_b4 223 (by decide +kernel) rfl, by decide +kernel, by decide +kernel, by decide +kernel⟩, zk_b4 225 (by decide +kernel) rfl, zk_s1 (q := (yX8_setEnds, 4)) 14 (by decide +kernel)⟩
theorem zt_8_0 : zm_T zk_E RX8 8 0 .int false := ⟨RX8, TX8, 4, tyX8, rfl, tyX8_ok, nmX8, rfl, rfl, rfl⟩
theorem zl_X8_46 : Cond.constantLong RX8 46 (24 : Int64) ∈ zk_E.2.2.1 := zk_b5 2 (by decide +kernel) rfl
theorem zl_X8_16 : zm_F zk_E RX8 16 8 2 := ⟨RX8, TX8, 4, rfl, zk_i8, by decide, zk_b1 60 (by decide +kernel) rfl⟩
theorem zl_X8_52 : zm_L zk_E RX8 52 yX8_fromOf (.code yX8_fromOf cX8_fromOf 3 (some .int)) 2 ∧ Cond.instanceMethod yX8_fromOf ∈ zk_E.2.2.1 ∧ Cond.selects yX8_fromOf.cls yX8_fromOf yX8_fromOf ∈ zk_E.2.2.1 := ⟨⟨zk_b7 4 (by decide +kernel) rfl, zk_b1 2 (by decide +kernel) rfl, zk_b7 232 (by decide +kernel) rfl, by decide +kernel, by decide +kernel, by decide +kernel⟩, zk_b7 2 (by decide +kernel) rfl, zk_b7 3 (by decide +kernel) rfl⟩
theorem zl_X8_55 : zm_L zk_E RX8 55 yX8_toOf (.code yX8_toOf cX8_toOf 3 (some .int)) 2 ∧ Cond.instanceMethod yX8_toOf ∈ zk_E.2.2.1 ∧ Cond.selects yX8_toOf.cls yX8_toOf yX8_toOf ∈ zk_E.2.2.1 := ⟨⟨zk_b7 0 (by decide +kernel) rfl, zk_b1 2 (by decide +kernel) rfl, zk_b7 233 (by decide +kernel) rfl, by decide +kernel, by decide +kernel, by decide +kernel⟩, zk_b6 238 (by decide +kernel) rfl, zk_b6 239 (by decide +kernel) rfl⟩
theorem zl_X8_48 : zm_L zk_E RX8 48 yX8_isDoorAt (.code yX8_isDoorAt cX8_isDoorAt 4 (some .boolean)) 3 ∧ Cond.instanceMethod yX8_isDoorAt ∈ zk_E.2.2.1 ∧ Cond.selects yX8_isDoorAt.cls yX8_isDoorAt yX8_isDoorAt ∈ zk_E.2.2.1 := ⟨⟨zk_b7 231 (by decide +kernel) rfl, zk_b1 2 (by decide +kernel) rfl, zk_b7 228 (by decide +kernel) rfl, by decide +kernel, by decide +kernel, by decide +kernel⟩, zk_b7 229 (by decide +kernel) rfl, zk_b7 230 (by decide +kernel) rfl⟩
theorem zl_X9_60 : zm_F zk_E RX9 60 9 0 := ⟨RX9, TX9, 20, rfl, zk_i9, by decide, zk_b2 186 (by decide +kernel) rfl⟩
theorem zl_X9_11 : zm_F zk_E RX9 11 9 1 := ⟨RX9, TX9, 20, rfl, zk_i9, by decide, zk_b2 188 (by decide +kernel) rfl⟩
theorem zl_X9_26 : zm_F zk_E RX9 26 9 5 := ⟨RX9, TX9, 20, rfl, zk_i9, by decide, zk_b2 196 (by decide +kernel) rfl⟩
theorem zl_X9_64 : zm_L zk_E RX9 64 yJ7_fill_53178 (.code yJ7_fill_53178 cJ7_fill_53178 4 none) 2 ∧ Cond.static yJ7_fill_53178 ∈ zk_E.2.2.1 := ⟨⟨zk_b5 43 (by decide +kernel) rfl, zk_b1 26 (by decide +kernel) rfl, zk_b10 147 (by decide +kernel) rfl, by decide +kernel, by decide +kernel, by decide +kernel⟩, zk_b5 42 (by decide +kernel) rfl⟩
theorem zl_X9_45 : zm_F zk_E RX9 45 9 11 := ⟨RX9, TX9, 20, rfl, zk_i9, by decide, zk_b2 206 (by decide +kernel) rfl⟩
theorem zl_X9_70 : zm_F zk_E RX9 70 9 13 := ⟨RX9, TX9, 20, rfl, zk_i9, by decide, zk_b2 212 (by decide +kernel) rfl⟩
theorem zt_9_13 : zm_T zk_E RX9 9 13 .boolean false := ⟨RX9, TX9, 20, tyX9, rfl, tyX9_ok, nmX9, rfl, rfl, rfl⟩
theorem zt_9_0 : zm_T zk_E RX9 9 0 .int false := ⟨RX9, TX9, 20, tyX9, rfl, tyX9_ok, nmX9, rfl, rfl, rfl⟩
theorem zl_X9_92 : Cond.fieldLink RX9 92 "TowerHouse$Program" "INPUTS" "[I" ∈ zk_E.2.2.1 := zk_b10 231 (by decide +kernel) rfl
theorem zl_X9_54 : zm_F zk_E RX9 54 9 16 := ⟨RX9, TX9, 20, rfl, zk_i9, by decide, zk_b2 216 (by decide +kernel) rfl⟩
theorem zl_X9_88 : zm_L zk_E RX9 88 yX9_mayCome (.code yX9_mayCome cX9_mayCome 4 (some .boolean)) 1 ∧ Cond.instanceMethod yX9_mayCome ∈ zk_E.2.2.1 ∧ Cond.selects yX9_mayCome.cls yX9_mayCome yX9_mayCome ∈ zk_E.2.2.1 := ⟨⟨zk_b10 230 (by decide +kernel) rfl, zk_b1 9 (by decide +kernel) rfl, zk_b10 227 (by decide +kernel) rfl, by decide +kernel, by decide +kernel, by decide +kernel⟩, zk_b10 229 (by decide +kernel) rfl, zk_s7 (q := (yX9_mayCome, 20)) 14 (by decide +kernel)⟩
theorem zl_X9_51 : zm_F zk_E RX9 51 9 15 := ⟨RX9, TX9, 20, rfl, zk_i9, by decide, zk_b2 215 (by decide +kernel) rfl⟩
theorem zl_X9_77 : zm_F zk_E RX9 77 9 14 := ⟨RX9, TX9, 20, rfl, zk_i9, by decide, zk_b2 213 (by decide +kernel) rfl⟩
theorem zt_9_14 : zm_T zk_E RX9 9 14 .int false := ⟨RX9, TX9, 20, tyX9, rfl, tyX9_ok, nmX9, rfl, rfl, rfl⟩
theorem zl_X9_80 : zm_L zk_E RX9 80 yX9_leastThatMayCome (.code yX9_leastThatMayCome cX9_leastThatMayCome 2 (some .int)) 0 ∧ Cond.instanceMethod yX9_leastThatMayCome ∈ zk_E.2.2.1 ∧ Cond.selects yX9_leastThatMayCome.cls yX9_leastThatMayCome yX9_leastThatMayCome ∈ zk_E.2.2.1 := ⟨⟨zk_b10 226 (by decide +kernel) rfl, zk_b1 9 (by decide +kernel) rfl, zk_b10 223 (by decide +kernel) rfl, by decide +kernel, by decide +kernel, by decide +kernel⟩, zk_b10 225 (by decide +kernel) rfl, zk_s7 (q := (yX9_leastThatMayCome, 20)) 13 (by decide +kernel)⟩
theorem zl_X9_84 : zm_L zk_E RX9 84 yX9_place (.code yX9_place cX9_place 3 none) 2 ∧ Cond.instanceMethod yX9_place ∈ zk_E.2.2.1 ∧ Cond.selects yX9_place.cls yX9_place yX9_place ∈ zk_E.2.2.1 := ⟨⟨zk_b10 236 (by decide +kernel) rfl, zk_b1 9 (by decide +kernel) rfl, zk_b10 233 (by decide +kernel) rfl, by decide +kernel, by decide +kernel, by decide +kernel⟩, zk_b10 235 (by decide +kernel) rfl, zk_s7 (q := (yX9_place, 20)) 15 (by decide +kernel)⟩
theorem zl_X9_74 : zm_L zk_E RX9 74 yX9_sortBlocks (.code yX9_sortBlocks cX9_sortBlocks 3 none) 0 ∧ Cond.instanceMethod yX9_sortBlocks ∈ zk_E.2.2.1 ∧ Cond.selects yX9_sortBlocks.cls yX9_sortBlocks yX9_sortBlocks ∈ zk_E.2.2.1 := ⟨⟨zk_b10 222 (by decide +kernel) rfl, zk_b1 9 (by decide +kernel) rfl, zk_b11 8 (by decide +kernel) rfl, by decide +kernel, by decide +kernel, by decide +kernel⟩, zk_b10 220 (by decide +kernel) rfl, zk_b10 221 (by decide +kernel) rfl⟩
theorem zl_X9_29 : zm_F zk_E RX9 29 9 6 := ⟨RX9, TX9, 20, rfl, zk_i9, by decide, zk_b2 197 (by decide +kernel) rfl⟩
theorem zl_X9_32 : zm_F zk_E RX9 32 9 7 := ⟨RX9, TX9, 20, rfl, zk_i9, by decide, zk_b2 199 (by decide +kernel) rfl⟩
def zf_X6_isRuleName_L2 (N : Nat) : Nat → Nat → Int64 → Int32 → zm_S → Option ((Int32 × zm_S) ⊕ ((Unit) × zm_S))
  | 0, _, _, _, _ => none
  | n + 1, a0, j1, i3, S => (zg_i S a0 6 6).bind (fun v1 => if v1 ≤ i3 then some (.inr ((), S)) else (zg_r S a0 6 7).bind (fun b2 => (za_l S b2 i3).bind (fun w3 => if (lg_cmp w3 j1) = 0 then some (.inl ((1 : Int32), S)) else zf_X6_isRuleName_L2 N n a0 j1 (i3 + (1 : Int32)) S)))
set_option maxHeartbeats 4000000 in
set_option maxRecDepth 100000 in
theorem zt_X6_isRuleName_L2 {p : Program} {l : Launch} {e : Env} {R : Room} {s : State} {m : MethodId} {args : Array Value} {below : List Frame} {meth : Method} {c : Code} {V : zm_V} {mc ms d rc rs : Nat} (hX : zm_X p R s m args meth c RX6 "isRuleName" cX6_isRuleName 4 zk_E V mc ms) (hr : meth.sig.returnType = (some .boolean)) (hR : R.frames = d ∧ R.locals = 64 * d) (hd : 1 ≤ d) {N : Nat} {res : (Int32 × zm_S) ⊕ ((Unit) × zm_S)} {out : (Int32 × zm_S)} (a0 : Nat) (j1 : Int64) (hf : ∀ o, res = .inl o → o = out) (hk : ∀ (S' : zm_S), res = .inr ((), S') → zw p l e R s m args below meth c (vx_MQ below (zm_Qc zk_E V (zo_i out)) (zm_XC zk_E V zo_x) args s mc ms (fun q => V.2.2.2.1 ≤ q)) 4 zk_E V mc ms 29 [] [] S' rc rs) : ∀ (n : Nat) (i3 : Int32) (S : zm_S), zf_X6_isRuleName_L2 N n a0 j1 i3 S = some res → zw p l e R s m args below meth c (vx_MQ below (zm_Qc zk_E V (zo_i out)) (zm_XC zk_E V zo_x) args s mc ms (fun q => V.2.2.2.1 ≤ q)) 4 zk_E V mc ms 2 [(0, .ref a0), (1, .long j1), (3, .int i3)] [] S rc rs := by
  intro n
  induction n with
  | zero => intro i3 S h; cases h
  | succ n ih =>
    intro i3 S h
    rw [zf_X6_isRuleName_L2] at h
    refine zw_iload_n hX dX6_isRuleName_2 rfl ?_
    refine zw_aload_n hX dX6_isRuleName_3 rfl ?_
    obtain ⟨v1, g, h⟩ := zb_some h
    refine zw_geti hX zl_X6_49 dX6_isRuleName_4 g ?_
    refine zw_icmp_ge (tgt := 29) hX dX6_isRuleName_7 (by decide) (fun c7 => ?_) (fun c7 => ?_)
    · rw [if_pos c7] at h
      refine zw_sub (lv' := []) zs_nil ?_
      exact hk  _ (Option.some.inj h).symm
    · rw [if_neg c7] at h
      refine zw_aload_n hX dX6_isRuleName_10 rfl ?_
      obtain ⟨b2, g, h⟩ := zb_some h
      refine zw_getr hX zl_X6_24 dX6_isRuleName_11 g ?_
      refine zw_iload_n hX dX6_isRuleName_14 rfl ?_
      obtain ⟨w3, g, h⟩ := zb_some h
      refine zw_xl hX dX6_isRuleName_15 g ?_
      refine zw_lload_n hX dX6_isRuleName_16 rfl ?_
      refine zw_lcmp hX dX6_isRuleName_17 ?_
      refine zw_if_ne (tgt := 23) hX dX6_isRuleName_18 (by decide) (fun c18 => ?_) (fun c18 => ?_)
      · rw [if_neg c18] at h
        refine zw_iinc (v := (i3 + (1 : Int32))) hX dX6_isRuleName_23 rfl rfl (by decide) ?_
        refine zw_goto (tgt := 2) hX dX6_isRuleName_26 (by decide) ?_
        refine zw_sub (lv' := [(0, .ref a0), (1, .long j1), (3, .int (i3 + (1 : Int32)))]) (List.forall_mem_cons.mpr ⟨rfl, (List.forall_mem_cons.mpr ⟨rfl, (List.forall_mem_cons.mpr ⟨rfl, zs_nil⟩)⟩)⟩) ?_
        exact ih _ _ h
      · rw [if_pos c18] at h
        refine zw_iconst (v := (1 : Int32)) hX dX6_isRuleName_21 (by decide) ?_
        have hz := hf _ (Option.some.inj h).symm
        subst hz
        exact zw_iret hX hr dX6_isRuleName_22 rfl ⟨rfl, rfl⟩
def zf_X6_isRuleName (N : Nat) (a0 : Nat) (j1 : Int64) (S : zm_S) : Option (Int32 × zm_S) := (zf_X6_isRuleName_L2 N N a0 j1 (0 : Int32) S).bind (fun r => match r with | .inl o => some o | .inr (_, S4) => some ((0 : Int32), S4))
set_option maxHeartbeats 4000000 in
set_option maxRecDepth 100000 in
theorem zt_X6_isRuleName {l : Launch} {V : zm_V} {N : Nat} {S : zm_S} {out : (Int32 × zm_S)} {d : Nat} {a0 : Nat} {j1 : Int64} (hd : 1 ≤ d) (h : zf_X6_isRuleName N a0 j1 S = some out) : zm_Met l zk_E V yX6_isRuleName (.code yX6_isRuleName cX6_isRuleName 4 (some .boolean)) d [.ref a0, .long j1] S 0 0 (zo_i out) zo_x := by
  refine zm_of (by decide +kernel) (Nat.le_of_ble_eq_true rfl) ?_
  intro p e R s m args below meth c hRR hX hr hxt
  have hR : R.frames = d ∧ R.locals = 64 * d := by rw [hRR]; exact ⟨rfl, rfl⟩
  have hX : zm_X p R s m args meth c RX6 "isRuleName" cX6_isRuleName 4 zk_E V 0 0 := hX
  unfold zf_X6_isRuleName at h
  refine zw_sub (lv' := [(0, .ref a0), (1, .long j1)]) (List.forall_mem_cons.mpr ⟨rfl, (List.forall_mem_cons.mpr ⟨rfl, zs_nil⟩)⟩) ?_
  refine zw_iconst (v := (0 : Int32)) hX dX6_isRuleName_0 (by decide) ?_
  refine zw_istore_n hX dX6_isRuleName_1 (by decide) ?_
  obtain ⟨r, g, h⟩ := zb_some h
  refine zw_sub (lv' := [(0, .ref a0), (1, .long j1), (3, .int (0 : Int32))]) (List.forall_mem_cons.mpr ⟨rfl, (List.forall_mem_cons.mpr ⟨rfl, (List.forall_mem_cons.mpr ⟨rfl, zs_nil⟩)⟩)⟩) ?_
  refine zt_X6_isRuleName_L2 hX hr hR hd (res := r) (out := out) a0 j1 ?_ ?_ N _ _ g
  · intro o ho
    subst ho
    exact Option.some.inj h
  · intro  S4 hx
    subst hx
    try dsimp only at h
    refine zw_iconst (v := (0 : Int32)) hX dX6_isRuleName_29 (by decide) ?_
    obtain rfl := Option.some.inj h
    exact zw_iret hX hr dX6_isRuleName_30 rfl ⟨rfl, rfl⟩
def zf_X6_skipSign (N : Nat) (a0 : Nat) (i1 : Int32) (S : zm_S) : Option (Int32 × zm_S) := (zg_r S a0 6 2).bind (fun b1 => (zg_i S a0 6 5).bind (fun v2 => (za_x S 0 b1 v2).bind (fun v3 => if v3 = i1 then (zg_i S a0 6 5).bind (fun v4 => if v4 < (120 : Int32) then (zg_i S a0 6 5).bind (fun v5 => (zp S a0 6 5 (.int (v5 + (1 : Int32)))).bind (fun S6 => some ((1 : Int32), S6))) else some ((0 : Int32), S)) else some ((0 : Int32), S))))
set_option maxHeartbeats 4000000 in
set_option maxRecDepth 100000 in
theorem zt_X6_skipSign {l : Launch} {V : zm_V} {N : Nat} {S : zm_S} {out : (Int32 × zm_S)} {d : Nat} {a0 : Nat} {i1 : Int32} (hd : 1 ≤ d) (h : zf_X6_skipSign N a0 i1 S = some out) : zm_Met l zk_E V yX6_skipSign (.code yX6_skipSign cX6_skipSign 2 (some .boolean)) d [.ref a0, .int i1] S 0 0 (zo_i out) zo_x := by
  refine zm_of (by decide +kernel) (Nat.le_of_ble_eq_true rfl) ?_
  intro p e R s m args below meth c hRR hX hr hxt
  have hR : R.frames = d ∧ R.locals = 64 * d := by rw [hRR]; exact ⟨rfl, rfl⟩
  have hX : zm_X p R s m args meth c RX6 "skipSign" cX6_skipSign 2 zk_E V 0 0 := hX
  unfold zf_X6_skipSign at h
  refine zw_sub (lv' := [(0, .ref a0), (1, .int i1)]) (List.forall_mem_cons.mpr ⟨rfl, (List.forall_mem_cons.mpr ⟨rfl, zs_nil⟩)⟩) ?_
  refine zw_aload_n hX dX6_skipSign_0 rfl ?_
  obtain ⟨b1, g, h⟩ := zb_some h
  refine zw_getr hX zl_X6_13 dX6_skipSign_1 g ?_
  refine zw_aload_n hX dX6_skipSign_4 rfl ?_
  obtain ⟨v2, g, h⟩ := zb_some h
  refine zw_geti hX zl_X6_43 dX6_skipSign_5 g ?_
  obtain ⟨v3, g, h⟩ := zb_some h
  refine zw_xi hX dX6_skipSign_8 g ?_
  refine zw_iload_n hX dX6_skipSign_9 rfl ?_
  refine zw_icmp_ne (tgt := 22) hX dX6_skipSign_10 (by decide) (fun c10 => ?_) (fun c10 => ?_)
  · rw [if_neg c10] at h
    refine zw_iconst (v := (0 : Int32)) hX dX6_skipSign_22 (by decide) ?_
    obtain rfl := Option.some.inj h
    exact zw_iret hX hr dX6_skipSign_23 rfl ⟨rfl, rfl⟩
  · rw [if_pos c10] at h
    refine zw_aload_n hX dX6_skipSign_13 rfl ?_
    obtain ⟨v4, g, h⟩ := zb_some h
    refine zw_geti hX zl_X6_43 dX6_skipSign_14 g ?_
    refine zw_bipush (v := (120 : Int32)) hX dX6_skipSign_17 (by decide) ?_
    refine zw_icmp_lt (tgt := 24) hX dX6_skipSign_19 (by decide) (fun c19 => ?_) (fun c19 => ?_)
    · rw [if_pos c19] at h
      refine zw_aload_n hX dX6_skipSign_24 rfl ?_
      refine zw_dup hX dX6_skipSign_25 rfl ?_
      obtain ⟨v5, g, h⟩ := zb_some h
      refine zw_geti hX zl_X6_43 dX6_skipSign_26 g ?_
      refine zw_iconst (v := (1 : Int32)) hX dX6_skipSign_29 (by decide) ?_
      refine zw_iadd hX dX6_skipSign_30 ?_
      obtain ⟨S6, g, h⟩ := zb_some h
      refine zw_putv hX zl_X6_43 zt_6_5 dX6_skipSign_31 rfl rfl g ?_
      refine zw_iconst (v := (1 : Int32)) hX dX6_skipSign_34 (by decide) ?_
      obtain rfl := Option.some.inj h
      exact zw_iret hX hr dX6_skipSign_35 rfl ⟨rfl, rfl⟩
    · rw [if_neg c19] at h
      refine zw_iconst (v := (0 : Int32)) hX dX6_skipSign_22 (by decide) ?_
      obtain rfl := Option.some.inj h
      exact zw_iret hX hr dX6_skipSign_23 rfl ⟨rfl, rfl⟩
def zf_X6_skipCompareSign (N : Nat) (a0 : Nat) (S : zm_S) : Option (Int32 × zm_S) := (zi S a0 6).bind (fun _ => (zf_X6_skipSign N a0 (60 : Int32) S).bind (fun r3 => if r3.1 = 0 then (zi r3.2 a0 6).bind (fun _ => (zf_X6_skipSign N a0 (108 : Int32) r3.2).bind (fun r6 => if r6.1 = 0 then (zi r6.2 a0 6).bind (fun _ => (zf_X6_skipSign N a0 (61 : Int32) r6.2).bind (fun r9 => if r9.1 = 0 then (zi r9.2 a0 6).bind (fun _ => (zf_X6_skipSign N a0 (103 : Int32) r9.2).bind (fun r12 => if r12.1 = 0 then (zi r12.2 a0 6).bind (fun _ => (zf_X6_skipSign N a0 (62 : Int32) r12.2).bind (fun r15 => if r15.1 = 0 then some ((0 : Int32), r15.2) else some ((1 : Int32), r15.2))) else some ((1 : Int32), r12.2))) else some ((1 : Int32), r9.2))) else some ((1 : Int32), r6.2))) else some ((1 : Int32), r3.2)))
set_option maxHeartbeats 4000000 in
set_option maxRecDepth 100000 in
theorem zt_X6_skipCompareSign {l : Launch} {V : zm_V} {N : Nat} {S : zm_S} {out : (Int32 × zm_S)} {d : Nat} {a0 : Nat} (hd : 2 ≤ d) (h : zf_X6_skipCompareSign N a0 S = some out) : zm_Met l zk_E V yX6_skipCompareSign (.code yX6_skipCompareSign cX6_skipCompareSign 1 (some .boolean)) d [.ref a0] S 0 0 (zo_i out) zo_x := by
  refine zm_of (by decide +kernel) (Nat.le_of_ble_eq_true rfl) ?_
  intro p e R s m args below meth c hRR hX hr hxt
  have hR : R.frames = d ∧ R.locals = 64 * d := by rw [hRR]; exact ⟨rfl, rfl⟩
  have hX : zm_X p R s m args meth c RX6 "skipCompareSign" cX6_skipCompareSign 1 zk_E V 0 0 := hX
  unfold zf_X6_skipCompareSign at h
  refine zw_sub (lv' := [(0, .ref a0)]) (List.forall_mem_cons.mpr ⟨rfl, zs_nil⟩) ?_
  refine zw_aload_n hX dX6_skipCompareSign_0 rfl ?_
  refine zw_bipush (v := (60 : Int32)) hX dX6_skipCompareSign_1 (by decide) ?_
  obtain ⟨_, gi, h⟩ := zb_some h
  obtain ⟨r3, g, h⟩ := zb_some h
  refine zc_Vi (as := [.int (60 : Int32)]) hX gi (zt_X6_skipSign (d := d - 1) (by omega) g) zl_X6_56 rfl dX6_skipCompareSign_3 ⟨rfl, rfl, Nat.le_of_ble_eq_true rfl⟩ ⟨by omega, by omega⟩ ?_
  refine zw_if_ne (tgt := 45) hX dX6_skipCompareSign_6 (by decide) (fun c6 => ?_) (fun c6 => ?_)
  · rw [if_neg c6] at h
    refine zw_iconst (v := (1 : Int32)) hX dX6_skipCompareSign_45 (by decide) ?_
    refine zw_goto (tgt := 50) hX dX6_skipCompareSign_46 (by decide) ?_
    obtain rfl := Option.some.inj h
    exact zw_iret hX hr dX6_skipCompareSign_50 rfl ⟨rfl, rfl⟩
  · rw [if_pos c6] at h
    refine zw_aload_n hX dX6_skipCompareSign_9 rfl ?_
    refine zw_bipush (v := (108 : Int32)) hX dX6_skipCompareSign_10 (by decide) ?_
    obtain ⟨_, gi, h⟩ := zb_some h
    obtain ⟨r6, g, h⟩ := zb_some h
    refine zc_Vi (as := [.int (108 : Int32)]) hX gi (zt_X6_skipSign (d := d - 1) (by omega) g) zl_X6_56 rfl dX6_skipCompareSign_12 ⟨rfl, rfl, Nat.le_of_ble_eq_true rfl⟩ ⟨by omega, by omega⟩ ?_
    refine zw_if_ne (tgt := 45) hX dX6_skipCompareSign_15 (by decide) (fun c15 => ?_) (fun c15 => ?_)
    · rw [if_neg c15] at h
      refine zw_iconst (v := (1 : Int32)) hX dX6_skipCompareSign_45 (by decide) ?_
      refine zw_goto (tgt := 50) hX dX6_skipCompareSign_46 (by decide) ?_
      obtain rfl := Option.some.inj h
      exact zw_iret hX hr dX6_skipCompareSign_50 rfl ⟨rfl, rfl⟩
    · rw [if_pos c15] at h
      refine zw_aload_n hX dX6_skipCompareSign_18 rfl ?_
      refine zw_bipush (v := (61 : Int32)) hX dX6_skipCompareSign_19 (by decide) ?_
      obtain ⟨_, gi, h⟩ := zb_some h
      obtain ⟨r9, g, h⟩ := zb_some h
      refine zc_Vi (as := [.int (61 : Int32)]) hX gi (zt_X6_skipSign (d := d - 1) (by omega) g) zl_X6_56 rfl dX6_skipCompareSign_21 ⟨rfl, rfl, Nat.le_of_ble_eq_true rfl⟩ ⟨by omega, by omega⟩ ?_
      refine zw_if_ne (tgt := 45) hX dX6_skipCompareSign_24 (by decide) (fun c24 => ?_) (fun c24 => ?_)
      · rw [if_neg c24] at h
        refine zw_iconst (v := (1 : Int32)) hX dX6_skipCompareSign_45 (by decide) ?_
        refine zw_goto (tgt := 50) hX dX6_skipCompareSign_46 (by decide) ?_
        obtain rfl := Option.some.inj h
        exact zw_iret hX hr dX6_skipCompareSign_50 rfl ⟨rfl, rfl⟩
      · rw [if_pos c24] at h
        refine zw_aload_n hX dX6_skipCompareSign_27 rfl ?_
        refine zw_bipush (v := (103 : Int32)) hX dX6_skipCompareSign_28 (by decide) ?_
        obtain ⟨_, gi, h⟩ := zb_some h
        obtain ⟨r12, g, h⟩ := zb_some h
        refine zc_Vi (as := [.int (103 : Int32)]) hX gi (zt_X6_skipSign (d := d - 1) (by omega) g) zl_X6_56 rfl dX6_skipCompareSign_30 ⟨rfl, rfl, Nat.le_of_ble_eq_true rfl⟩ ⟨by omega, by omega⟩ ?_
        refine zw_if_ne (tgt := 45) hX dX6_skipCompareSign_33 (by decide) (fun c33 => ?_) (fun c33 => ?_)
        · rw [if_neg c33] at h
          refine zw_iconst (v := (1 : Int32)) hX dX6_skipCompareSign_45 (by decide) ?_
          refine zw_goto (tgt := 50) hX dX6_skipCompareSign_46 (by decide) ?_
          obtain rfl := Option.some.inj h
          exact zw_iret hX hr dX6_skipCompareSign_50 rfl ⟨rfl, rfl⟩
        · rw [if_pos c33] at h
          refine zw_aload_n hX dX6_skipCompareSign_36 rfl ?_
          refine zw_bipush (v := (62 : Int32)) hX dX6_skipCompareSign_37 (by decide) ?_
          obtain ⟨_, gi, h⟩ := zb_some h
          obtain ⟨r15, g, h⟩ := zb_some h
          refine zc_Vi (as := [.int (62 : Int32)]) hX gi (zt_X6_skipSign (d := d - 1) (by omega) g) zl_X6_56 rfl dX6_skipCompareSign_39 ⟨rfl, rfl, Nat.le_of_ble_eq_true rfl⟩ ⟨by omega, by omega⟩ ?_
          refine zw_if_eq (tgt := 49) hX dX6_skipCompareSign_42 (by decide) (fun c42 => ?_) (fun c42 => ?_)
          · rw [if_pos c42] at h
            refine zw_iconst (v := (0 : Int32)) hX dX6_skipCompareSign_49 (by decide) ?_
            obtain rfl := Option.some.inj h
            exact zw_iret hX hr dX6_skipCompareSign_50 rfl ⟨rfl, rfl⟩
          · rw [if_neg c42] at h
            refine zw_iconst (v := (1 : Int32)) hX dX6_skipCompareSign_45 (by decide) ?_
            refine zw_goto (tgt := 50) hX dX6_skipCompareSign_46 (by decide) ?_
            obtain rfl := Option.some.inj h
            exact zw_iret hX hr dX6_skipCompareSign_50 rfl ⟨rfl, rfl⟩
def zf_X7_isFactName_L5 (N : Nat) : Nat → Int64 → Int64 → Int32 → zm_S → Option ((Int32 × zm_S) ⊕ ((Unit) × zm_S))
  | 0, _, _, _, _ => none
  | n + 1, j0, j2, i4, S => if (8 : Int32) ≤ i4 then some (.inr ((), S)) else if (lg_cmp j2 (0 : Int64)) = 0 then some (.inr ((), S)) else if (lg_cmp (j2 &&& (255 : Int64)) (97 : Int64)) < 0 then some (.inl ((0 : Int32), S)) else if (lg_cmp (j2 &&& (255 : Int64)) (122 : Int64)) ≤ 0 then zf_X7_isFactName_L5 N n j0 (((j2).toUInt64 >>> (((8 : Int32)).toInt64.toUInt64 &&& Int64.toUInt64 63)).toInt64) (i4 + (1 : Int32)) S else some (.inl ((0 : Int32), S))
set_option maxHeartbeats 4000000 in
set_option maxRecDepth 100000 in
theorem zt_X7_isFactName_L5 {p : Program} {l : Launch} {e : Env} {R : Room} {s : State} {m : MethodId} {args : Array Value} {below : List Frame} {meth : Method} {c : Code} {V : zm_V} {mc ms d rc rs : Nat} (hX : zm_X p R s m args meth c RX7 "isFactName" cX7_isFactName 7 zk_E V mc ms) (hr : meth.sig.returnType = (some .boolean)) (hR : R.frames = d ∧ R.locals = 64 * d) (hd : 1 ≤ d) {N : Nat} {res : (Int32 × zm_S) ⊕ ((Unit) × zm_S)} {out : (Int32 × zm_S)} (j0 : Int64) (hf : ∀ o, res = .inl o → o = out) (hk : ∀ (S' : zm_S), res = .inr ((), S') → zw p l e R s m args below meth c (vx_MQ below (zm_Qc zk_E V (zo_i out)) (zm_XC zk_E V zo_x) args s mc ms (fun q => V.2.2.2.1 ≤ q)) 7 zk_E V mc ms 56 [(0, .long j0)] [] S' rc rs) : ∀ (n : Nat) (j2 : Int64) (i4 : Int32) (S : zm_S), zf_X7_isFactName_L5 N n j0 j2 i4 S = some res → zw p l e R s m args below meth c (vx_MQ below (zm_Qc zk_E V (zo_i out)) (zm_XC zk_E V zo_x) args s mc ms (fun q => V.2.2.2.1 ≤ q)) 7 zk_E V mc ms 5 [(0, .long j0), (2, .long j2), (4, .int i4)] [] S rc rs := by
  intro n
  induction n with
  | zero => intro j2 i4 S h; cases h
  | succ n ih =>
    intro j2 i4 S h
    rw [zf_X7_isFactName_L5] at h
    refine zw_iload hX dX7_isFactName_5 rfl ?_
    refine zw_bipush (v := (8 : Int32)) hX dX7_isFactName_7 (by decide) ?_
    refine zw_icmp_ge (tgt := 56) hX dX7_isFactName_9 (by decide) (fun c9 => ?_) (fun c9 => ?_)
    · rw [if_pos c9] at h
      refine zw_sub (lv' := [(0, .long j0)]) (List.forall_mem_cons.mpr ⟨rfl, zs_nil⟩) ?_
      exact hk  _ (Option.some.inj h).symm
    · rw [if_neg c9] at h
      refine zw_lload_n hX dX7_isFactName_12 rfl ?_
      refine zw_lconst (v := (0 : Int64)) hX dX7_isFactName_13 (by decide) ?_
      refine zw_lcmp hX dX7_isFactName_14 ?_
      refine zw_if_eq (tgt := 56) hX dX7_isFactName_15 (by decide) (fun c15 => ?_) (fun c15 => ?_)
      · rw [if_pos c15] at h
        refine zw_sub (lv' := [(0, .long j0)]) (List.forall_mem_cons.mpr ⟨rfl, zs_nil⟩) ?_
        exact hk  _ (Option.some.inj h).symm
      · rw [if_neg c15] at h
        refine zw_lload_n hX dX7_isFactName_18 rfl ?_
        refine zw_ldc2 (v := (255 : Int64)) hX dX7_isFactName_19 zl_X7_60 ?_
        refine zw_land hX dX7_isFactName_22 ?_
        refine zw_lstore hX dX7_isFactName_23 (by decide) ?_
        refine zw_lload hX dX7_isFactName_25 rfl ?_
        refine zw_ldc2 (v := (97 : Int64)) hX dX7_isFactName_27 zl_X7_62 ?_
        refine zw_lcmp hX dX7_isFactName_30 ?_
        refine zw_if_lt (tgt := 43) hX dX7_isFactName_31 (by decide) (fun c31 => ?_) (fun c31 => ?_)
        · rw [if_pos c31] at h
          refine zw_iconst (v := (0 : Int32)) hX dX7_isFactName_43 (by decide) ?_
          have hz := hf _ (Option.some.inj h).symm
          subst hz
          exact zw_iret hX hr dX7_isFactName_44 rfl ⟨rfl, rfl⟩
        · rw [if_neg c31] at h
          refine zw_lload hX dX7_isFactName_34 rfl ?_
          refine zw_ldc2 (v := (122 : Int64)) hX dX7_isFactName_36 zl_X7_64 ?_
          refine zw_lcmp hX dX7_isFactName_39 ?_
          refine zw_if_le (tgt := 45) hX dX7_isFactName_40 (by decide) (fun c40 => ?_) (fun c40 => ?_)
          · rw [if_pos c40] at h
            refine zw_lload_n hX dX7_isFactName_45 rfl ?_
            refine zw_bipush (v := (8 : Int32)) hX dX7_isFactName_46 (by decide) ?_
            refine zw_lushr hX dX7_isFactName_48 ?_
            refine zw_lstore_n hX dX7_isFactName_49 (by decide) ?_
            refine zw_iinc (v := (i4 + (1 : Int32))) hX dX7_isFactName_50 rfl rfl (by decide) ?_
            refine zw_goto (tgt := 5) hX dX7_isFactName_53 (by decide) ?_
            refine zw_sub (lv' := [(0, .long j0), (2, .long ((j2).toUInt64 >>> (((8 : Int32)).toInt64.toUInt64 &&& Int64.toUInt64 63)).toInt64), (4, .int (i4 + (1 : Int32)))]) (List.forall_mem_cons.mpr ⟨rfl, (List.forall_mem_cons.mpr ⟨rfl, (List.forall_mem_cons.mpr ⟨rfl, zs_nil⟩)⟩)⟩) ?_
            exact ih _ _ _ h
          · rw [if_neg c40] at h
            refine zw_iconst (v := (0 : Int32)) hX dX7_isFactName_43 (by decide) ?_
            have hz := hf _ (Option.some.inj h).symm
            subst hz
            exact zw_iret hX hr dX7_isFactName_44 rfl ⟨rfl, rfl⟩
def zf_X7_isFactName_J56 (N : Nat) (j0 : Int64) (S : zm_S) : Option (Int32 × zm_S) := if (lg_cmp j0 (0 : Int64)) = 0 then some ((0 : Int32), S) else some ((1 : Int32), S)
set_option maxHeartbeats 4000000 in
set_option maxRecDepth 100000 in
theorem zt_X7_isFactName_J56 {p : Program} {l : Launch} {e : Env} {R : Room} {s : State} {m : MethodId} {args : Array Value} {below : List Frame} {meth : Method} {c : Code} {V : zm_V} {mc ms d rc rs : Nat} (hX : zm_X p R s m args meth c RX7 "isFactName" cX7_isFactName 7 zk_E V mc ms) (hr : meth.sig.returnType = (some .boolean)) (hR : R.frames = d ∧ R.locals = 64 * d) (hd : 1 ≤ d) {N : Nat} {j0 : Int64} {out : (Int32 × zm_S)} {S : zm_S} (h : zf_X7_isFactName_J56 N j0 S = some out) : zw p l e R s m args below meth c (vx_MQ below (zm_Qc zk_E V (zo_i out)) (zm_XC zk_E V zo_x) args s mc ms (fun q => V.2.2.2.1 ≤ q)) 7 zk_E V mc ms 56 [(0, .long j0)] [] S rc rs := by
  unfold zf_X7_isFactName_J56 at h
  refine zw_lload_n hX dX7_isFactName_56 rfl ?_
  refine zw_lconst (v := (0 : Int64)) hX dX7_isFactName_57 (by decide) ?_
  refine zw_lcmp hX dX7_isFactName_58 ?_
  refine zw_if_eq (tgt := 66) hX dX7_isFactName_59 (by decide) (fun c59 => ?_) (fun c59 => ?_)
  · rw [if_pos c59] at h
    refine zw_iconst (v := (0 : Int32)) hX dX7_isFactName_66 (by decide) ?_
    obtain rfl := Option.some.inj h
    exact zw_iret hX hr dX7_isFactName_67 rfl ⟨rfl, rfl⟩
  · rw [if_neg c59] at h
    refine zw_iconst (v := (1 : Int32)) hX dX7_isFactName_62 (by decide) ?_
    refine zw_goto (tgt := 67) hX dX7_isFactName_63 (by decide) ?_
    obtain rfl := Option.some.inj h
    exact zw_iret hX hr dX7_isFactName_67 rfl ⟨rfl, rfl⟩
def zf_X7_isFactName (N : Nat) (j0 : Int64) (S : zm_S) : Option (Int32 × zm_S) := (zf_X7_isFactName_L5 N N j0 j0 (0 : Int32) S).bind (fun r => match r with | .inl o => some o | .inr (_, S1) => zf_X7_isFactName_J56 N j0 S1)
set_option maxHeartbeats 4000000 in
set_option maxRecDepth 100000 in
theorem zt_X7_isFactName {l : Launch} {V : zm_V} {N : Nat} {S : zm_S} {out : (Int32 × zm_S)} {d : Nat} {j0 : Int64} (hd : 1 ≤ d) (h : zf_X7_isFactName N j0 S = some out) : zm_Met l zk_E V yX7_isFactName (.code yX7_isFactName cX7_isFactName 7 (some .boolean)) d [.long j0] S 0 0 (zo_i out) zo_x := by
  refine zm_of (by decide +kernel) (Nat.le_of_ble_eq_true rfl) ?_
  intro p e R s m args below meth c hRR hX hr hxt
  have hR : R.frames = d ∧ R.locals = 64 * d := by rw [hRR]; exact ⟨rfl, rfl⟩
  have hX : zm_X p R s m args meth c RX7 "isFactName" cX7_isFactName 7 zk_E V 0 0 := hX
  unfold zf_X7_isFactName at h
  refine zw_sub (lv' := [(0, .long j0)]) (List.forall_mem_cons.mpr ⟨rfl, zs_nil⟩) ?_
  refine zw_lload_n hX dX7_isFactName_0 rfl ?_
  refine zw_lstore_n hX dX7_isFactName_1 (by decide) ?_
  refine zw_iconst (v := (0 : Int32)) hX dX7_isFactName_2 (by decide) ?_
  refine zw_istore hX dX7_isFactName_3 (by decide) ?_
  obtain ⟨r, g, h⟩ := zb_some h
  refine zw_sub (lv' := [(0, .long j0), (2, .long j0), (4, .int (0 : Int32))]) (List.forall_mem_cons.mpr ⟨rfl, (List.forall_mem_cons.mpr ⟨rfl, (List.forall_mem_cons.mpr ⟨rfl, zs_nil⟩)⟩)⟩) ?_
  refine zt_X7_isFactName_L5 hX hr hR hd (res := r) (out := out) j0 ?_ ?_ N _ _ _ g
  · intro o ho
    subst ho
    exact Option.some.inj h
  · intro  S1 hx
    subst hx
    try dsimp only at h
    refine zw_sub (lv' := [(0, .long j0)]) (List.forall_mem_cons.mpr ⟨rfl, zs_nil⟩) ?_
    exact zt_X7_isFactName_J56 hX hr hR hd h
def zf_X7_findFact_L2 (N : Nat) : Nat → Nat → Int64 → Int32 → zm_S → Option ((Int32 × zm_S) ⊕ ((Unit) × zm_S))
  | 0, _, _, _, _ => none
  | n + 1, a0, j1, i3, S => (zg_i S a0 7 8).bind (fun v1 => if v1 ≤ i3 then some (.inr ((), S)) else (zg_r S a0 7 9).bind (fun b2 => (za_l S b2 i3).bind (fun w3 => if (lg_cmp w3 j1) = 0 then some (.inl (i3, S)) else zf_X7_findFact_L2 N n a0 j1 (i3 + (1 : Int32)) S)))
set_option maxHeartbeats 4000000 in
set_option maxRecDepth 100000 in
theorem zt_X7_findFact_L2 {p : Program} {l : Launch} {e : Env} {R : Room} {s : State} {m : MethodId} {args : Array Value} {below : List Frame} {meth : Method} {c : Code} {V : zm_V} {mc ms d rc rs : Nat} (hX : zm_X p R s m args meth c RX7 "findFact" cX7_findFact 4 zk_E V mc ms) (hr : meth.sig.returnType = (some .int)) (hR : R.frames = d ∧ R.locals = 64 * d) (hd : 1 ≤ d) {N : Nat} {res : (Int32 × zm_S) ⊕ ((Unit) × zm_S)} {out : (Int32 × zm_S)} (a0 : Nat) (j1 : Int64) (hf : ∀ o, res = .inl o → o = out) (hk : ∀ (S' : zm_S), res = .inr ((), S') → zw p l e R s m args below meth c (vx_MQ below (zm_Qc zk_E V (zo_i out)) (zm_XC zk_E V zo_x) args s mc ms (fun q => V.2.2.2.1 ≤ q)) 4 zk_E V mc ms 29 [] [] S' rc rs) : ∀ (n : Nat) (i3 : Int32) (S : zm_S), zf_X7_findFact_L2 N n a0 j1 i3 S = some res → zw p l e R s m args below meth c (vx_MQ below (zm_Qc zk_E V (zo_i out)) (zm_XC zk_E V zo_x) args s mc ms (fun q => V.2.2.2.1 ≤ q)) 4 zk_E V mc ms 2 [(0, .ref a0), (1, .long j1), (3, .int i3)] [] S rc rs := by
  intro n
  induction n with
  | zero => intro i3 S h; cases h
  | succ n ih =>
    intro i3 S h
    rw [zf_X7_findFact_L2] at h
    refine zw_iload_n hX dX7_findFact_2 rfl ?_
    refine zw_aload_n hX dX7_findFact_3 rfl ?_
    obtain ⟨v1, g, h⟩ := zb_some h
    refine zw_geti hX zl_X7_66 dX7_findFact_4 g ?_
    refine zw_icmp_ge (tgt := 29) hX dX7_findFact_7 (by decide) (fun c7 => ?_) (fun c7 => ?_)
    · rw [if_pos c7] at h
      refine zw_sub (lv' := []) zs_nil ?_
      exact hk  _ (Option.some.inj h).symm
    · rw [if_neg c7] at h
      refine zw_aload_n hX dX7_findFact_10 rfl ?_
      obtain ⟨b2, g, h⟩ := zb_some h
      refine zw_getr hX zl_X7_35 dX7_findFact_11 g ?_
      refine zw_iload_n hX dX7_findFact_14 rfl ?_
      obtain ⟨w3, g, h⟩ := zb_some h
      refine zw_xl hX dX7_findFact_15 g ?_
      refine zw_lload_n hX dX7_findFact_16 rfl ?_
      refine zw_lcmp hX dX7_findFact_17 ?_
      refine zw_if_ne (tgt := 23) hX dX7_findFact_18 (by decide) (fun c18 => ?_) (fun c18 => ?_)
      · rw [if_neg c18] at h
        refine zw_iinc (v := (i3 + (1 : Int32))) hX dX7_findFact_23 rfl rfl (by decide) ?_
        refine zw_goto (tgt := 2) hX dX7_findFact_26 (by decide) ?_
        refine zw_sub (lv' := [(0, .ref a0), (1, .long j1), (3, .int (i3 + (1 : Int32)))]) (List.forall_mem_cons.mpr ⟨rfl, (List.forall_mem_cons.mpr ⟨rfl, (List.forall_mem_cons.mpr ⟨rfl, zs_nil⟩)⟩)⟩) ?_
        exact ih _ _ h
      · rw [if_pos c18] at h
        refine zw_iload_n hX dX7_findFact_21 rfl ?_
        have hz := hf _ (Option.some.inj h).symm
        subst hz
        exact zw_iret hX hr dX7_findFact_22 rfl ⟨rfl, rfl⟩
def zf_X7_findFact (N : Nat) (a0 : Nat) (j1 : Int64) (S : zm_S) : Option (Int32 × zm_S) := (zf_X7_findFact_L2 N N a0 j1 (0 : Int32) S).bind (fun r => match r with | .inl o => some o | .inr (_, S4) => some ((-1 : Int32), S4))
set_option maxHeartbeats 4000000 in
set_option maxRecDepth 100000 in
theorem zt_X7_findFact {l : Launch} {V : zm_V} {N : Nat} {S : zm_S} {out : (Int32 × zm_S)} {d : Nat} {a0 : Nat} {j1 : Int64} (hd : 1 ≤ d) (h : zf_X7_findFact N a0 j1 S = some out) : zm_Met l zk_E V yX7_findFact (.code yX7_findFact cX7_findFact 4 (some .int)) d [.ref a0, .long j1] S 0 0 (zo_i out) zo_x := by
  refine zm_of (by decide +kernel) (Nat.le_of_ble_eq_true rfl) ?_
  intro p e R s m args below meth c hRR hX hr hxt
  have hR : R.frames = d ∧ R.locals = 64 * d := by rw [hRR]; exact ⟨rfl, rfl⟩
  have hX : zm_X p R s m args meth c RX7 "findFact" cX7_findFact 4 zk_E V 0 0 := hX
  unfold zf_X7_findFact at h
  refine zw_sub (lv' := [(0, .ref a0), (1, .long j1)]) (List.forall_mem_cons.mpr ⟨rfl, (List.forall_mem_cons.mpr ⟨rfl, zs_nil⟩)⟩) ?_
  refine zw_iconst (v := (0 : Int32)) hX dX7_findFact_0 (by decide) ?_
  refine zw_istore_n hX dX7_findFact_1 (by decide) ?_
  obtain ⟨r, g, h⟩ := zb_some h
  refine zw_sub (lv' := [(0, .ref a0), (1, .long j1), (3, .int (0 : Int32))]) (List.forall_mem_cons.mpr ⟨rfl, (List.forall_mem_cons.mpr ⟨rfl, (List.forall_mem_cons.mpr ⟨rfl, zs_nil⟩)⟩)⟩) ?_
  refine zt_X7_findFact_L2 hX hr hR hd (res := r) (out := out) a0 j1 ?_ ?_ N _ _ g
  · intro o ho
    subst ho
    exact Option.some.inj h
  · intro  S4 hx
    subst hx
    try dsimp only at h
    refine zw_iconst (v := (-1 : Int32)) hX dX7_findFact_29 (by decide) ?_
    obtain rfl := Option.some.inj h
    exact zw_iret hX hr dX7_findFact_30 rfl ⟨rfl, rfl⟩
def zf_X7_hasRoomForFact (N : Nat) (a0 : Nat) (j1 : Int64) (S : zm_S) : Option (Int32 × zm_S) := (zg_i S a0 7 8).bind (fun v1 => if v1 < (40 : Int32) then some ((1 : Int32), S) else (zi S a0 7).bind (fun _ => (zf_X7_findFact N a0 j1 S).bind (fun r4 => if r4.1 = (-1 : Int32) then some ((0 : Int32), r4.2) else some ((1 : Int32), r4.2))))
set_option maxHeartbeats 4000000 in
set_option maxRecDepth 100000 in
theorem zt_X7_hasRoomForFact {l : Launch} {V : zm_V} {N : Nat} {S : zm_S} {out : (Int32 × zm_S)} {d : Nat} {a0 : Nat} {j1 : Int64} (hd : 2 ≤ d) (h : zf_X7_hasRoomForFact N a0 j1 S = some out) : zm_Met l zk_E V yX7_hasRoomForFact (.code yX7_hasRoomForFact cX7_hasRoomForFact 3 (some .boolean)) d [.ref a0, .long j1] S 0 0 (zo_i out) zo_x := by
  refine zm_of (by decide +kernel) (Nat.le_of_ble_eq_true rfl) ?_
  intro p e R s m args below meth c hRR hX hr hxt
  have hR : R.frames = d ∧ R.locals = 64 * d := by rw [hRR]; exact ⟨rfl, rfl⟩
  have hX : zm_X p R s m args meth c RX7 "hasRoomForFact" cX7_hasRoomForFact 3 zk_E V 0 0 := hX
  unfold zf_X7_hasRoomForFact at h
  refine zw_sub (lv' := [(0, .ref a0), (1, .long j1)]) (List.forall_mem_cons.mpr ⟨rfl, (List.forall_mem_cons.mpr ⟨rfl, zs_nil⟩)⟩) ?_
  refine zw_aload_n hX dX7_hasRoomForFact_0 rfl ?_
  obtain ⟨v1, g, h⟩ := zb_some h
  refine zw_geti hX zl_X7_66 dX7_hasRoomForFact_1 g ?_
  refine zw_bipush (v := (40 : Int32)) hX dX7_hasRoomForFact_4 (by decide) ?_
  refine zw_icmp_lt (tgt := 18) hX dX7_hasRoomForFact_6 (by decide) (fun c6 => ?_) (fun c6 => ?_)
  · rw [if_pos c6] at h
    refine zw_iconst (v := (1 : Int32)) hX dX7_hasRoomForFact_18 (by decide) ?_
    refine zw_goto (tgt := 23) hX dX7_hasRoomForFact_19 (by decide) ?_
    obtain rfl := Option.some.inj h
    exact zw_iret hX hr dX7_hasRoomForFact_23 rfl ⟨rfl, rfl⟩
  · rw [if_neg c6] at h
    refine zw_aload_n hX dX7_hasRoomForFact_9 rfl ?_
    refine zw_lload_n hX dX7_hasRoomForFact_10 rfl ?_
    obtain ⟨_, gi, h⟩ := zb_some h
    obtain ⟨r4, g, h⟩ := zb_some h
    refine zc_Vi (as := [.long j1]) hX gi (zt_X7_findFact (d := d - 1) (by omega) g) zl_X7_69 rfl dX7_hasRoomForFact_11 ⟨rfl, rfl, Nat.le_of_ble_eq_true rfl⟩ ⟨by omega, by omega⟩ ?_
    refine zw_iconst (v := (-1 : Int32)) hX dX7_hasRoomForFact_14 (by decide) ?_
    refine zw_icmp_eq (tgt := 22) hX dX7_hasRoomForFact_15 (by decide) (fun c15 => ?_) (fun c15 => ?_)
    · rw [if_pos c15] at h
      refine zw_iconst (v := (0 : Int32)) hX dX7_hasRoomForFact_22 (by decide) ?_
      obtain rfl := Option.some.inj h
      exact zw_iret hX hr dX7_hasRoomForFact_23 rfl ⟨rfl, rfl⟩
    · rw [if_neg c15] at h
      refine zw_iconst (v := (1 : Int32)) hX dX7_hasRoomForFact_18 (by decide) ?_
      refine zw_goto (tgt := 23) hX dX7_hasRoomForFact_19 (by decide) ?_
      obtain rfl := Option.some.inj h
      exact zw_iret hX hr dX7_hasRoomForFact_23 rfl ⟨rfl, rfl⟩
def zf_X7_setFact (N : Nat) (a0 : Nat) (j1 : Int64) (i3 : Int32) (S : zm_S) : Option (Int64 × zm_S) := (zi S a0 7).bind (fun _ => (zf_X7_findFact N a0 j1 S).bind (fun r3 => if r3.1 = (-1 : Int32) then (zg_i r3.2 a0 7 8).bind (fun v4 => if (40 : Int32) ≤ v4 then some ((1000000000000 : Int64), r3.2) else (zg_r r3.2 a0 7 9).bind (fun b5 => (zg_i r3.2 a0 7 8).bind (fun v6 => (zs_l r3.2 b5 v6 j1).bind (fun S7 => (zg_r S7 a0 7 10).bind (fun b8 => (zg_i S7 a0 7 8).bind (fun v9 => (zs_i S7 b8 v9 i3).bind (fun S10 => (zg_i S10 a0 7 8).bind (fun v11 => (zp S10 a0 7 8 (.int (v11 + (1 : Int32)))).bind (fun S12 => some ((1000000000000 : Int64), S12)))))))))) else (zg_r r3.2 a0 7 10).bind (fun b13 => (za_x r3.2 0 b13 r3.1).bind (fun v14 => (zg_r r3.2 a0 7 10).bind (fun b15 => (zs_i r3.2 b15 r3.1 i3).bind (fun S16 => some ((v14).toInt64, S16)))))))
set_option maxHeartbeats 4000000 in
set_option maxRecDepth 100000 in
theorem zt_X7_setFact {l : Launch} {V : zm_V} {N : Nat} {S : zm_S} {out : (Int64 × zm_S)} {d : Nat} {a0 : Nat} {j1 : Int64} {i3 : Int32} (hd : 2 ≤ d) (h : zf_X7_setFact N a0 j1 i3 S = some out) : zm_Met l zk_E V yX7_setFact (.code yX7_setFact cX7_setFact 7 (some .long)) d [.ref a0, .long j1, .int i3] S 0 0 (zo_l out) zo_x := by
  refine zm_of (by decide +kernel) (Nat.le_of_ble_eq_true rfl) ?_
  intro p e R s m args below meth c hRR hX hr hxt
  have hR : R.frames = d ∧ R.locals = 64 * d := by rw [hRR]; exact ⟨rfl, rfl⟩
  have hX : zm_X p R s m args meth c RX7 "setFact" cX7_setFact 7 zk_E V 0 0 := hX
  unfold zf_X7_setFact at h
  refine zw_sub (lv' := [(0, .ref a0), (1, .long j1), (3, .int i3)]) (List.forall_mem_cons.mpr ⟨rfl, (List.forall_mem_cons.mpr ⟨rfl, (List.forall_mem_cons.mpr ⟨rfl, zs_nil⟩)⟩)⟩) ?_
  refine zw_aload_n hX dX7_setFact_0 rfl ?_
  refine zw_lload_n hX dX7_setFact_1 rfl ?_
  obtain ⟨_, gi, h⟩ := zb_some h
  obtain ⟨r3, g, h⟩ := zb_some h
  refine zc_Vi (as := [.long j1]) hX gi (zt_X7_findFact (d := d - 1) (by omega) g) zl_X7_69 rfl dX7_setFact_2 ⟨rfl, rfl, Nat.le_of_ble_eq_true rfl⟩ ⟨by omega, by omega⟩ ?_
  refine zw_istore hX dX7_setFact_5 (by decide) ?_
  refine zw_iload hX dX7_setFact_7 rfl ?_
  refine zw_iconst (v := (-1 : Int32)) hX dX7_setFact_9 (by decide) ?_
  refine zw_icmp_eq (tgt := 34) hX dX7_setFact_10 (by decide) (fun c10 => ?_) (fun c10 => ?_)
  · rw [if_pos c10] at h
    refine zw_aload_n hX dX7_setFact_34 rfl ?_
    obtain ⟨v4, g, h⟩ := zb_some h
    refine zw_geti hX zl_X7_66 dX7_setFact_35 g ?_
    refine zw_bipush (v := (40 : Int32)) hX dX7_setFact_38 (by decide) ?_
    refine zw_icmp_ge (tgt := 73) hX dX7_setFact_40 (by decide) (fun c40 => ?_) (fun c40 => ?_)
    · rw [if_pos c40] at h
      refine zw_ldc2 (v := (1000000000000 : Int64)) hX dX7_setFact_73 zl_X7_73 ?_
      obtain rfl := Option.some.inj h
      exact zw_lret hX hr dX7_setFact_76 ⟨rfl, rfl⟩
    · rw [if_neg c40] at h
      refine zw_aload_n hX dX7_setFact_43 rfl ?_
      obtain ⟨b5, g, h⟩ := zb_some h
      refine zw_getr hX zl_X7_35 dX7_setFact_44 g ?_
      refine zw_aload_n hX dX7_setFact_47 rfl ?_
      obtain ⟨v6, g, h⟩ := zb_some h
      refine zw_geti hX zl_X7_66 dX7_setFact_48 g ?_
      refine zw_lload_n hX dX7_setFact_51 rfl ?_
      obtain ⟨S7, g, h⟩ := zb_some h
      refine zw_sl hX dX7_setFact_52 g ?_
      refine zw_aload_n hX dX7_setFact_53 rfl ?_
      obtain ⟨b8, g, h⟩ := zb_some h
      refine zw_getr hX zl_X7_38 dX7_setFact_54 g ?_
      refine zw_aload_n hX dX7_setFact_57 rfl ?_
      obtain ⟨v9, g, h⟩ := zb_some h
      refine zw_geti hX zl_X7_66 dX7_setFact_58 g ?_
      refine zw_iload_n hX dX7_setFact_61 rfl ?_
      obtain ⟨S10, g, h⟩ := zb_some h
      refine zw_si hX dX7_setFact_62 g ?_
      refine zw_aload_n hX dX7_setFact_63 rfl ?_
      refine zw_dup hX dX7_setFact_64 rfl ?_
      obtain ⟨v11, g, h⟩ := zb_some h
      refine zw_geti hX zl_X7_66 dX7_setFact_65 g ?_
      refine zw_iconst (v := (1 : Int32)) hX dX7_setFact_68 (by decide) ?_
      refine zw_iadd hX dX7_setFact_69 ?_
      obtain ⟨S12, g, h⟩ := zb_some h
      refine zw_putv hX zl_X7_66 zt_7_8 dX7_setFact_70 rfl rfl g ?_
      refine zw_ldc2 (v := (1000000000000 : Int64)) hX dX7_setFact_73 zl_X7_73 ?_
      obtain rfl := Option.some.inj h
      exact zw_lret hX hr dX7_setFact_76 ⟨rfl, rfl⟩
  · rw [if_neg c10] at h
    refine zw_aload_n hX dX7_setFact_13 rfl ?_
    obtain ⟨b13, g, h⟩ := zb_some h
    refine zw_getr hX zl_X7_38 dX7_setFact_14 g ?_
    refine zw_iload hX dX7_setFact_17 rfl ?_
    obtain ⟨v14, g, h⟩ := zb_some h
    refine zw_xi hX dX7_setFact_19 g ?_
    refine zw_i2l hX dX7_setFact_20 ?_
    refine zw_lstore hX dX7_setFact_21 (by decide) ?_
    refine zw_aload_n hX dX7_setFact_23 rfl ?_
    obtain ⟨b15, g, h⟩ := zb_some h
    refine zw_getr hX zl_X7_38 dX7_setFact_24 g ?_
    refine zw_iload hX dX7_setFact_27 rfl ?_
    refine zw_iload_n hX dX7_setFact_29 rfl ?_
    obtain ⟨S16, g, h⟩ := zb_some h
    refine zw_si hX dX7_setFact_30 g ?_
    refine zw_lload hX dX7_setFact_31 rfl ?_
    obtain rfl := Option.some.inj h
    exact zw_lret hX hr dX7_setFact_33 ⟨rfl, rfl⟩
def zf_J7_fill_d0a16_L6 (N : Nat) : Nat → Nat → Int64 → Int32 → Int32 → zm_S → Option ((Unit × zm_S) ⊕ ((Unit) × zm_S))
  | 0, _, _, _, _, _ => none
  | n + 1, a0, j1, i3, i4, S => if i4 ≤ i3 then some (.inr ((), S)) else (zs_l S a0 i3 j1).bind (fun S2 => zf_J7_fill_d0a16_L6 N n a0 j1 (i3 + (1 : Int32)) i4 S2)
set_option maxHeartbeats 4000000 in
set_option maxRecDepth 100000 in
theorem zt_J7_fill_d0a16_L6 {p : Program} {l : Launch} {e : Env} {R : Room} {s : State} {m : MethodId} {args : Array Value} {below : List Frame} {meth : Method} {c : Code} {V : zm_V} {mc ms d rc rs : Nat} (hX : zm_X p R s m args meth c RJ7 "fill" cJ7_fill_d0a16 5 zk_E V mc ms) (hr : meth.sig.returnType = none) (hR : R.frames = d ∧ R.locals = 64 * d) (hd : 1 ≤ d) {N : Nat} {res : (Unit × zm_S) ⊕ ((Unit) × zm_S)} {out : (Unit × zm_S)} (a0 : Nat) (j1 : Int64) (i4 : Int32) (hf : ∀ o, res = .inl o → o = out) (hk : ∀ (S' : zm_S), res = .inr ((), S') → zw p l e R s m args below meth c (vx_MQ below (zm_Qc zk_E V (zo_v out)) (zm_XC zk_E V zo_x) args s mc ms (fun q => V.2.2.2.1 ≤ q)) 5 zk_E V mc ms 22 [] [] S' rc rs) : ∀ (n : Nat) (i3 : Int32) (S : zm_S), zf_J7_fill_d0a16_L6 N n a0 j1 i3 i4 S = some res → zw p l e R s m args below meth c (vx_MQ below (zm_Qc zk_E V (zo_v out)) (zm_XC zk_E V zo_x) args s mc ms (fun q => V.2.2.2.1 ≤ q)) 5 zk_E V mc ms 6 [(0, .ref a0), (1, .long j1), (3, .int i3), (4, .int i4)] [] S rc rs := by
  intro n
  induction n with
  | zero => intro i3 S h; cases h
  | succ n ih =>
    intro i3 S h
    rw [zf_J7_fill_d0a16_L6] at h
    refine zw_iload_n hX dJ7_fill_d0a16_6 rfl ?_
    refine zw_iload hX dJ7_fill_d0a16_7 rfl ?_
    refine zw_icmp_ge (tgt := 22) hX dJ7_fill_d0a16_9 (by decide) (fun c9 => ?_) (fun c9 => ?_)
    · rw [if_pos c9] at h
      refine zw_sub (lv' := []) zs_nil ?_
      exact hk  _ (Option.some.inj h).symm
    · rw [if_neg c9] at h
      refine zw_aload_n hX dJ7_fill_d0a16_12 rfl ?_
      refine zw_iload_n hX dJ7_fill_d0a16_13 rfl ?_
      refine zw_lload_n hX dJ7_fill_d0a16_14 rfl ?_
      obtain ⟨S2, g, h⟩ := zb_some h
      refine zw_sl hX dJ7_fill_d0a16_15 g ?_
      refine zw_iinc (v := (i3 + (1 : Int32))) hX dJ7_fill_d0a16_16 rfl rfl (by decide) ?_
      refine zw_goto (tgt := 6) hX dJ7_fill_d0a16_19 (by decide) ?_
      refine zw_sub (lv' := [(0, .ref a0), (1, .long j1), (3, .int (i3 + (1 : Int32))), (4, .int i4)]) (List.forall_mem_cons.mpr ⟨rfl, (List.forall_mem_cons.mpr ⟨rfl, (List.forall_mem_cons.mpr ⟨rfl, (List.forall_mem_cons.mpr ⟨rfl, zs_nil⟩)⟩)⟩)⟩) ?_
      exact ih _ _ h
def zf_J7_fill_d0a16 (N : Nat) (a0 : Nat) (j1 : Int64) (S : zm_S) : Option (Unit × zm_S) := (za_n S a0).bind (fun v1 => (zf_J7_fill_d0a16_L6 N N a0 j1 (0 : Int32) v1 S).bind (fun r => match r with | .inl o => some o | .inr (_, S3) => some ((), S3)))
set_option maxHeartbeats 4000000 in
set_option maxRecDepth 100000 in
theorem zt_J7_fill_d0a16 {l : Launch} {V : zm_V} {N : Nat} {S : zm_S} {out : (Unit × zm_S)} {d : Nat} {a0 : Nat} {j1 : Int64} (hd : 1 ≤ d) (h : zf_J7_fill_d0a16 N a0 j1 S = some out) : zm_Met l zk_E V yJ7_fill_d0a16 (.code yJ7_fill_d0a16 cJ7_fill_d0a16 5 none) d [.ref a0, .long j1] S 0 0 (zo_v out) zo_x := by
  refine zm_of (by decide +kernel) (Nat.le_of_ble_eq_true rfl) ?_
  intro p e R s m args below meth c hRR hX hr hxt
  have hR : R.frames = d ∧ R.locals = 64 * d := by rw [hRR]; exact ⟨rfl, rfl⟩
  have hX : zm_X p R s m args meth c RJ7 "fill" cJ7_fill_d0a16 5 zk_E V 0 0 := hX
  unfold zf_J7_fill_d0a16 at h
  refine zw_sub (lv' := [(0, .ref a0), (1, .long j1)]) (List.forall_mem_cons.mpr ⟨rfl, (List.forall_mem_cons.mpr ⟨rfl, zs_nil⟩)⟩) ?_
  refine zw_iconst (v := (0 : Int32)) hX dJ7_fill_d0a16_0 (by decide) ?_
  refine zw_istore_n hX dJ7_fill_d0a16_1 (by decide) ?_
  refine zw_aload_n hX dJ7_fill_d0a16_2 rfl ?_
  obtain ⟨v1, g, h⟩ := zb_some h
  refine zw_len hX dJ7_fill_d0a16_3 g ?_
  refine zw_istore hX dJ7_fill_d0a16_4 (by decide) ?_
  obtain ⟨r, g, h⟩ := zb_some h
  refine zw_sub (lv' := [(0, .ref a0), (1, .long j1), (3, .int (0 : Int32)), (4, .int v1)]) (List.forall_mem_cons.mpr ⟨rfl, (List.forall_mem_cons.mpr ⟨rfl, (List.forall_mem_cons.mpr ⟨rfl, (List.forall_mem_cons.mpr ⟨rfl, zs_nil⟩)⟩)⟩)⟩) ?_
  refine zt_J7_fill_d0a16_L6 hX hr hR hd (res := r) (out := out) a0 j1 v1 ?_ ?_ N _ _ g
  · intro o ho
    subst ho
    exact Option.some.inj h
  · intro  S3 hx
    subst hx
    try dsimp only at h
    obtain rfl := Option.some.inj h
    exact zw_vret hX hr dJ7_fill_d0a16_22 ⟨rfl, rfl⟩
def zf_X7_takeWord (N : Nat) (a0 : Nat) (S : zm_S) : Option (Int32 × zm_S) := (zg_r S a0 7 2).bind (fun b1 => (zg_i S a0 7 11).bind (fun v2 => (za_x S 0 b1 v2).bind (fun v3 => (zg_i S a0 7 11).bind (fun v4 => if (120 : Int32) ≤ v4 then some (v3, S) else (zg_i S a0 7 11).bind (fun v5 => (zp S a0 7 11 (.int (v5 + (1 : Int32)))).bind (fun S6 => some (v3, S6)))))))
set_option maxHeartbeats 4000000 in
set_option maxRecDepth 100000 in
theorem zt_X7_takeWord {l : Launch} {V : zm_V} {N : Nat} {S : zm_S} {out : (Int32 × zm_S)} {d : Nat} {a0 : Nat} (hd : 1 ≤ d) (h : zf_X7_takeWord N a0 S = some out) : zm_Met l zk_E V yX7_takeWord (.code yX7_takeWord cX7_takeWord 2 (some .int)) d [.ref a0] S 0 0 (zo_i out) zo_x := by
  refine zm_of (by decide +kernel) (Nat.le_of_ble_eq_true rfl) ?_
  intro p e R s m args below meth c hRR hX hr hxt
  have hR : R.frames = d ∧ R.locals = 64 * d := by rw [hRR]; exact ⟨rfl, rfl⟩
  have hX : zm_X p R s m args meth c RX7 "takeWord" cX7_takeWord 2 zk_E V 0 0 := hX
  unfold zf_X7_takeWord at h
  refine zw_sub (lv' := [(0, .ref a0)]) (List.forall_mem_cons.mpr ⟨rfl, zs_nil⟩) ?_
  refine zw_aload_n hX dX7_takeWord_0 rfl ?_
  obtain ⟨b1, g, h⟩ := zb_some h
  refine zw_getr hX zl_X7_11 dX7_takeWord_1 g ?_
  refine zw_aload_n hX dX7_takeWord_4 rfl ?_
  obtain ⟨v2, g, h⟩ := zb_some h
  refine zw_geti hX zl_X7_96 dX7_takeWord_5 g ?_
  obtain ⟨v3, g, h⟩ := zb_some h
  refine zw_xi hX dX7_takeWord_8 g ?_
  refine zw_istore_n hX dX7_takeWord_9 (by decide) ?_
  refine zw_aload_n hX dX7_takeWord_10 rfl ?_
  obtain ⟨v4, g, h⟩ := zb_some h
  refine zw_geti hX zl_X7_96 dX7_takeWord_11 g ?_
  refine zw_bipush (v := (120 : Int32)) hX dX7_takeWord_14 (by decide) ?_
  refine zw_icmp_ge (tgt := 29) hX dX7_takeWord_16 (by decide) (fun c16 => ?_) (fun c16 => ?_)
  · rw [if_pos c16] at h
    refine zw_iload_n hX dX7_takeWord_29 rfl ?_
    obtain rfl := Option.some.inj h
    exact zw_iret hX hr dX7_takeWord_30 rfl ⟨rfl, rfl⟩
  · rw [if_neg c16] at h
    refine zw_aload_n hX dX7_takeWord_19 rfl ?_
    refine zw_dup hX dX7_takeWord_20 rfl ?_
    obtain ⟨v5, g, h⟩ := zb_some h
    refine zw_geti hX zl_X7_96 dX7_takeWord_21 g ?_
    refine zw_iconst (v := (1 : Int32)) hX dX7_takeWord_24 (by decide) ?_
    refine zw_iadd hX dX7_takeWord_25 ?_
    obtain ⟨S6, g, h⟩ := zb_some h
    refine zw_putv hX zl_X7_96 zt_7_11 dX7_takeWord_26 rfl rfl g ?_
    refine zw_iload_n hX dX7_takeWord_29 rfl ?_
    obtain rfl := Option.some.inj h
    exact zw_iret hX hr dX7_takeWord_30 rfl ⟨rfl, rfl⟩
def zf_X7_isSign (N : Nat) (a0 : Nat) (i1 : Int32) (i2 : Int32) (S : zm_S) : Option (Int32 × zm_S) := (zg_r S a0 7 2).bind (fun b1 => (zg_i S a0 7 11).bind (fun v2 => (za_x S 0 b1 v2).bind (fun v3 => if v3 = i1 then some ((1 : Int32), S) else (zg_r S a0 7 2).bind (fun b4 => (zg_i S a0 7 11).bind (fun v5 => (za_x S 0 b4 v5).bind (fun v6 => if v6 = i2 then some ((1 : Int32), S) else some ((0 : Int32), S)))))))
set_option maxHeartbeats 4000000 in
set_option maxRecDepth 100000 in
theorem zt_X7_isSign {l : Launch} {V : zm_V} {N : Nat} {S : zm_S} {out : (Int32 × zm_S)} {d : Nat} {a0 : Nat} {i1 : Int32} {i2 : Int32} (hd : 1 ≤ d) (h : zf_X7_isSign N a0 i1 i2 S = some out) : zm_Met l zk_E V yX7_isSign (.code yX7_isSign cX7_isSign 3 (some .boolean)) d [.ref a0, .int i1, .int i2] S 0 0 (zo_i out) zo_x := by
  refine zm_of (by decide +kernel) (Nat.le_of_ble_eq_true rfl) ?_
  intro p e R s m args below meth c hRR hX hr hxt
  have hR : R.frames = d ∧ R.locals = 64 * d := by rw [hRR]; exact ⟨rfl, rfl⟩
  have hX : zm_X p R s m args meth c RX7 "isSign" cX7_isSign 3 zk_E V 0 0 := hX
  unfold zf_X7_isSign at h
  refine zw_sub (lv' := [(0, .ref a0), (1, .int i1), (2, .int i2)]) (List.forall_mem_cons.mpr ⟨rfl, (List.forall_mem_cons.mpr ⟨rfl, (List.forall_mem_cons.mpr ⟨rfl, zs_nil⟩)⟩)⟩) ?_
  refine zw_aload_n hX dX7_isSign_0 rfl ?_
  obtain ⟨b1, g, h⟩ := zb_some h
  refine zw_getr hX zl_X7_11 dX7_isSign_1 g ?_
  refine zw_aload_n hX dX7_isSign_4 rfl ?_
  obtain ⟨v2, g, h⟩ := zb_some h
  refine zw_geti hX zl_X7_96 dX7_isSign_5 g ?_
  obtain ⟨v3, g, h⟩ := zb_some h
  refine zw_xi hX dX7_isSign_8 g ?_
  refine zw_iload_n hX dX7_isSign_9 rfl ?_
  refine zw_icmp_eq (tgt := 26) hX dX7_isSign_10 (by decide) (fun c10 => ?_) (fun c10 => ?_)
  · rw [if_pos c10] at h
    refine zw_iconst (v := (1 : Int32)) hX dX7_isSign_26 (by decide) ?_
    refine zw_goto (tgt := 31) hX dX7_isSign_27 (by decide) ?_
    obtain rfl := Option.some.inj h
    exact zw_iret hX hr dX7_isSign_31 rfl ⟨rfl, rfl⟩
  · rw [if_neg c10] at h
    refine zw_aload_n hX dX7_isSign_13 rfl ?_
    obtain ⟨b4, g, h⟩ := zb_some h
    refine zw_getr hX zl_X7_11 dX7_isSign_14 g ?_
    refine zw_aload_n hX dX7_isSign_17 rfl ?_
    obtain ⟨v5, g, h⟩ := zb_some h
    refine zw_geti hX zl_X7_96 dX7_isSign_18 g ?_
    obtain ⟨v6, g, h⟩ := zb_some h
    refine zw_xi hX dX7_isSign_21 g ?_
    refine zw_iload_n hX dX7_isSign_22 rfl ?_
    refine zw_icmp_ne (tgt := 30) hX dX7_isSign_23 (by decide) (fun c23 => ?_) (fun c23 => ?_)
    · rw [if_neg c23] at h
      refine zw_iconst (v := (0 : Int32)) hX dX7_isSign_30 (by decide) ?_
      obtain rfl := Option.some.inj h
      exact zw_iret hX hr dX7_isSign_31 rfl ⟨rfl, rfl⟩
    · rw [if_pos c23] at h
      refine zw_iconst (v := (1 : Int32)) hX dX7_isSign_26 (by decide) ?_
      refine zw_goto (tgt := 31) hX dX7_isSign_27 (by decide) ?_
      obtain rfl := Option.some.inj h
      exact zw_iret hX hr dX7_isSign_31 rfl ⟨rfl, rfl⟩
def zf_X7_multiply_J72 (N : Nat) (a0 : Nat) (j5 : Int64) (S : zm_S) : Option (Int64 × zm_S) := (zp S a0 7 12 (.int (2 : Int32))).bind (fun S1 => some (j5, S1))
set_option maxHeartbeats 4000000 in
set_option maxRecDepth 100000 in
theorem zt_X7_multiply_J72 {p : Program} {l : Launch} {e : Env} {R : Room} {s : State} {m : MethodId} {args : Array Value} {below : List Frame} {meth : Method} {c : Code} {V : zm_V} {mc ms d rc rs : Nat} (hX : zm_X p R s m args meth c RX7 "multiply" cX7_multiply 8 zk_E V mc ms) (hr : meth.sig.returnType = (some .long)) (hR : R.frames = d ∧ R.locals = 64 * d) (hd : 1 ≤ d) {N : Nat} {a0 : Nat} {j5 : Int64} {out : (Int64 × zm_S)} {S : zm_S} (h : zf_X7_multiply_J72 N a0 j5 S = some out) : zw p l e R s m args below meth c (vx_MQ below (zm_Qc zk_E V (zo_l out)) (zm_XC zk_E V zo_x) args s mc ms (fun q => V.2.2.2.1 ≤ q)) 8 zk_E V mc ms 72 [(0, .ref a0), (5, .long j5)] [] S rc rs := by
  unfold zf_X7_multiply_J72 at h
  refine zw_aload_n hX dX7_multiply_72 rfl ?_
  refine zw_iconst (v := (2 : Int32)) hX dX7_multiply_73 (by decide) ?_
  obtain ⟨S1, g, h⟩ := zb_some h
  refine zw_putv hX zl_X7_89 zt_7_12 dX7_multiply_74 rfl rfl g ?_
  refine zw_lload hX dX7_multiply_77 rfl ?_
  obtain rfl := Option.some.inj h
  exact zw_lret hX hr dX7_multiply_79 ⟨rfl, rfl⟩
def zf_X7_multiply_J56 (N : Nat) (a0 : Nat) (j1 : Int64) (j3 : Int64) (j5 : Int64) (t0 : Int32) (S : zm_S) : Option (Int64 × zm_S) := if t0 = 0 then if j3 = 0 then none else if (lg_cmp (j5 / j3) j1) = 0 then some (j5, S) else zf_X7_multiply_J72 N a0 j5 S else zf_X7_multiply_J72 N a0 j5 S
set_option maxHeartbeats 4000000 in
set_option maxRecDepth 100000 in
theorem zt_X7_multiply_J56 {p : Program} {l : Launch} {e : Env} {R : Room} {s : State} {m : MethodId} {args : Array Value} {below : List Frame} {meth : Method} {c : Code} {V : zm_V} {mc ms d rc rs : Nat} (hX : zm_X p R s m args meth c RX7 "multiply" cX7_multiply 8 zk_E V mc ms) (hr : meth.sig.returnType = (some .long)) (hR : R.frames = d ∧ R.locals = 64 * d) (hd : 1 ≤ d) {N : Nat} {a0 : Nat} {j1 : Int64} {j3 : Int64} {j5 : Int64} {t0 : Int32} {out : (Int64 × zm_S)} {S : zm_S} (h : zf_X7_multiply_J56 N a0 j1 j3 j5 t0 S = some out) : zw p l e R s m args below meth c (vx_MQ below (zm_Qc zk_E V (zo_l out)) (zm_XC zk_E V zo_x) args s mc ms (fun q => V.2.2.2.1 ≤ q)) 8 zk_E V mc ms 56 [(0, .ref a0), (1, .long j1), (3, .long j3), (5, .long j5)] [.int t0] S rc rs := by
  unfold zf_X7_multiply_J56 at h
  refine zw_istore hX dX7_multiply_56 (by decide) ?_
  refine zw_iload hX dX7_multiply_58 rfl ?_
  refine zw_if_ne (tgt := 72) hX dX7_multiply_60 (by decide) (fun c60 => ?_) (fun c60 => ?_)
  · rw [if_neg c60] at h
    refine zw_sub (lv' := [(0, .ref a0), (5, .long j5)]) (List.forall_mem_cons.mpr ⟨rfl, (List.forall_mem_cons.mpr ⟨rfl, zs_nil⟩)⟩) ?_
    exact zt_X7_multiply_J72 hX hr hR hd h
  · rw [if_pos c60] at h
    refine zw_lload hX dX7_multiply_63 rfl ?_
    refine zw_lload_n hX dX7_multiply_65 rfl ?_
    by_cases c0 : j3 = 0
    · rw [if_pos c0] at h
      cases h
    rw [if_neg c0] at h
    refine zw_ldiv hX dX7_multiply_66 c0 ?_
    refine zw_lload_n hX dX7_multiply_67 rfl ?_
    refine zw_lcmp hX dX7_multiply_68 ?_
    refine zw_if_eq (tgt := 77) hX dX7_multiply_69 (by decide) (fun c69 => ?_) (fun c69 => ?_)
    · rw [if_pos c69] at h
      refine zw_lload hX dX7_multiply_77 rfl ?_
      obtain rfl := Option.some.inj h
      exact zw_lret hX hr dX7_multiply_79 ⟨rfl, rfl⟩
    · rw [if_neg c69] at h
      refine zw_sub (lv' := [(0, .ref a0), (5, .long j5)]) (List.forall_mem_cons.mpr ⟨rfl, (List.forall_mem_cons.mpr ⟨rfl, zs_nil⟩)⟩) ?_
      exact zt_X7_multiply_J72 hX hr hR hd h
def zf_X7_multiply_J55 (N : Nat) (a0 : Nat) (j1 : Int64) (j3 : Int64) (j5 : Int64) (S : zm_S) : Option (Int64 × zm_S) := zf_X7_multiply_J56 N a0 j1 j3 j5 (0 : Int32) S
set_option maxHeartbeats 4000000 in
set_option maxRecDepth 100000 in
theorem zt_X7_multiply_J55 {p : Program} {l : Launch} {e : Env} {R : Room} {s : State} {m : MethodId} {args : Array Value} {below : List Frame} {meth : Method} {c : Code} {V : zm_V} {mc ms d rc rs : Nat} (hX : zm_X p R s m args meth c RX7 "multiply" cX7_multiply 8 zk_E V mc ms) (hr : meth.sig.returnType = (some .long)) (hR : R.frames = d ∧ R.locals = 64 * d) (hd : 1 ≤ d) {N : Nat} {a0 : Nat} {j1 : Int64} {j3 : Int64} {j5 : Int64} {out : (Int64 × zm_S)} {S : zm_S} (h : zf_X7_multiply_J55 N a0 j1 j3 j5 S = some out) : zw p l e R s m args below meth c (vx_MQ below (zm_Qc zk_E V (zo_l out)) (zm_XC zk_E V zo_x) args s mc ms (fun q => V.2.2.2.1 ≤ q)) 8 zk_E V mc ms 55 [(0, .ref a0), (1, .long j1), (3, .long j3), (5, .long j5)] [] S rc rs := by
  unfold zf_X7_multiply_J55 at h
  refine zw_iconst (v := (0 : Int32)) hX dX7_multiply_55 (by decide) ?_
  refine zw_sub (lv' := [(0, .ref a0), (1, .long j1), (3, .long j3), (5, .long j5)]) (List.forall_mem_cons.mpr ⟨rfl, (List.forall_mem_cons.mpr ⟨rfl, (List.forall_mem_cons.mpr ⟨rfl, (List.forall_mem_cons.mpr ⟨rfl, zs_nil⟩)⟩)⟩)⟩) ?_
  exact zt_X7_multiply_J56 hX hr hR hd h
def zf_X7_multiply_J51 (N : Nat) (a0 : Nat) (j1 : Int64) (j3 : Int64) (j5 : Int64) (S : zm_S) : Option (Int64 × zm_S) := zf_X7_multiply_J56 N a0 j1 j3 j5 (1 : Int32) S
set_option maxHeartbeats 4000000 in
set_option maxRecDepth 100000 in
theorem zt_X7_multiply_J51 {p : Program} {l : Launch} {e : Env} {R : Room} {s : State} {m : MethodId} {args : Array Value} {below : List Frame} {meth : Method} {c : Code} {V : zm_V} {mc ms d rc rs : Nat} (hX : zm_X p R s m args meth c RX7 "multiply" cX7_multiply 8 zk_E V mc ms) (hr : meth.sig.returnType = (some .long)) (hR : R.frames = d ∧ R.locals = 64 * d) (hd : 1 ≤ d) {N : Nat} {a0 : Nat} {j1 : Int64} {j3 : Int64} {j5 : Int64} {out : (Int64 × zm_S)} {S : zm_S} (h : zf_X7_multiply_J51 N a0 j1 j3 j5 S = some out) : zw p l e R s m args below meth c (vx_MQ below (zm_Qc zk_E V (zo_l out)) (zm_XC zk_E V zo_x) args s mc ms (fun q => V.2.2.2.1 ≤ q)) 8 zk_E V mc ms 51 [(0, .ref a0), (1, .long j1), (3, .long j3), (5, .long j5)] [] S rc rs := by
  unfold zf_X7_multiply_J51 at h
  refine zw_iconst (v := (1 : Int32)) hX dX7_multiply_51 (by decide) ?_
  refine zw_goto (tgt := 56) hX dX7_multiply_52 (by decide) ?_
  refine zw_sub (lv' := [(0, .ref a0), (1, .long j1), (3, .long j3), (5, .long j5)]) (List.forall_mem_cons.mpr ⟨rfl, (List.forall_mem_cons.mpr ⟨rfl, (List.forall_mem_cons.mpr ⟨rfl, (List.forall_mem_cons.mpr ⟨rfl, zs_nil⟩)⟩)⟩)⟩) ?_
  exact zt_X7_multiply_J56 hX hr hR hd h
def zf_X7_multiply_J35 (N : Nat) (a0 : Nat) (j1 : Int64) (j3 : Int64) (j5 : Int64) (S : zm_S) : Option (Int64 × zm_S) := if (lg_cmp j3 (-1 : Int64)) = 0 then if (lg_cmp j1 (-9223372036854775808 : Int64)) = 0 then zf_X7_multiply_J51 N a0 j1 j3 j5 S else zf_X7_multiply_J55 N a0 j1 j3 j5 S else zf_X7_multiply_J55 N a0 j1 j3 j5 S
set_option maxHeartbeats 4000000 in
set_option maxRecDepth 100000 in
theorem zt_X7_multiply_J35 {p : Program} {l : Launch} {e : Env} {R : Room} {s : State} {m : MethodId} {args : Array Value} {below : List Frame} {meth : Method} {c : Code} {V : zm_V} {mc ms d rc rs : Nat} (hX : zm_X p R s m args meth c RX7 "multiply" cX7_multiply 8 zk_E V mc ms) (hr : meth.sig.returnType = (some .long)) (hR : R.frames = d ∧ R.locals = 64 * d) (hd : 1 ≤ d) {N : Nat} {a0 : Nat} {j1 : Int64} {j3 : Int64} {j5 : Int64} {out : (Int64 × zm_S)} {S : zm_S} (h : zf_X7_multiply_J35 N a0 j1 j3 j5 S = some out) : zw p l e R s m args below meth c (vx_MQ below (zm_Qc zk_E V (zo_l out)) (zm_XC zk_E V zo_x) args s mc ms (fun q => V.2.2.2.1 ≤ q)) 8 zk_E V mc ms 35 [(0, .ref a0), (1, .long j1), (3, .long j3), (5, .long j5)] [] S rc rs := by
  unfold zf_X7_multiply_J35 at h
  refine zw_lload_n hX dX7_multiply_35 rfl ?_
  refine zw_ldc2 (v := (-1 : Int64)) hX dX7_multiply_36 zl_X7_148 ?_
  refine zw_lcmp hX dX7_multiply_39 ?_
  refine zw_if_ne (tgt := 55) hX dX7_multiply_40 (by decide) (fun c40 => ?_) (fun c40 => ?_)
  · rw [if_neg c40] at h
    refine zw_sub (lv' := [(0, .ref a0), (1, .long j1), (3, .long j3), (5, .long j5)]) (List.forall_mem_cons.mpr ⟨rfl, (List.forall_mem_cons.mpr ⟨rfl, (List.forall_mem_cons.mpr ⟨rfl, (List.forall_mem_cons.mpr ⟨rfl, zs_nil⟩)⟩)⟩)⟩) ?_
    exact zt_X7_multiply_J55 hX hr hR hd h
  · rw [if_pos c40] at h
    refine zw_lload_n hX dX7_multiply_43 rfl ?_
    refine zw_ldc2 (v := (-9223372036854775808 : Int64)) hX dX7_multiply_44 zl_X7_152 ?_
    refine zw_lcmp hX dX7_multiply_47 ?_
    refine zw_if_ne (tgt := 55) hX dX7_multiply_48 (by decide) (fun c48 => ?_) (fun c48 => ?_)
    · rw [if_neg c48] at h
      refine zw_sub (lv' := [(0, .ref a0), (1, .long j1), (3, .long j3), (5, .long j5)]) (List.forall_mem_cons.mpr ⟨rfl, (List.forall_mem_cons.mpr ⟨rfl, (List.forall_mem_cons.mpr ⟨rfl, (List.forall_mem_cons.mpr ⟨rfl, zs_nil⟩)⟩)⟩)⟩) ?_
      exact zt_X7_multiply_J55 hX hr hR hd h
    · rw [if_pos c48] at h
      refine zw_sub (lv' := [(0, .ref a0), (1, .long j1), (3, .long j3), (5, .long j5)]) (List.forall_mem_cons.mpr ⟨rfl, (List.forall_mem_cons.mpr ⟨rfl, (List.forall_mem_cons.mpr ⟨rfl, (List.forall_mem_cons.mpr ⟨rfl, zs_nil⟩)⟩)⟩)⟩) ?_
      exact zt_X7_multiply_J51 hX hr hR hd h
def zf_X7_multiply (N : Nat) (a0 : Nat) (j1 : Int64) (j3 : Int64) (S : zm_S) : Option (Int64 × zm_S) := if (lg_cmp j1 (0 : Int64)) = 0 then some ((0 : Int64), S) else if (lg_cmp j3 (0 : Int64)) = 0 then some ((0 : Int64), S) else if (lg_cmp j1 (-1 : Int64)) = 0 then if (lg_cmp j3 (-9223372036854775808 : Int64)) = 0 then zf_X7_multiply_J51 N a0 j1 j3 (j1 * j3) S else zf_X7_multiply_J35 N a0 j1 j3 (j1 * j3) S else zf_X7_multiply_J35 N a0 j1 j3 (j1 * j3) S
set_option maxHeartbeats 4000000 in
set_option maxRecDepth 100000 in
theorem zt_X7_multiply {l : Launch} {V : zm_V} {N : Nat} {S : zm_S} {out : (Int64 × zm_S)} {d : Nat} {a0 : Nat} {j1 : Int64} {j3 : Int64} (hd : 1 ≤ d) (h : zf_X7_multiply N a0 j1 j3 S = some out) : zm_Met l zk_E V yX7_multiply (.code yX7_multiply cX7_multiply 8 (some .long)) d [.ref a0, .long j1, .long j3] S 0 0 (zo_l out) zo_x := by
  refine zm_of (by decide +kernel) (Nat.le_of_ble_eq_true rfl) ?_
  intro p e R s m args below meth c hRR hX hr hxt
  have hR : R.frames = d ∧ R.locals = 64 * d := by rw [hRR]; exact ⟨rfl, rfl⟩
  have hX : zm_X p R s m args meth c RX7 "multiply" cX7_multiply 8 zk_E V 0 0 := hX
  unfold zf_X7_multiply at h
  refine zw_sub (lv' := [(0, .ref a0), (1, .long j1), (3, .long j3)]) (List.forall_mem_cons.mpr ⟨rfl, (List.forall_mem_cons.mpr ⟨rfl, (List.forall_mem_cons.mpr ⟨rfl, zs_nil⟩)⟩)⟩) ?_
  refine zw_lload_n hX dX7_multiply_0 rfl ?_
  refine zw_lconst (v := (0 : Int64)) hX dX7_multiply_1 (by decide) ?_
  refine zw_lcmp hX dX7_multiply_2 ?_
  refine zw_if_eq (tgt := 12) hX dX7_multiply_3 (by decide) (fun c3 => ?_) (fun c3 => ?_)
  · rw [if_pos c3] at h
    refine zw_lconst (v := (0 : Int64)) hX dX7_multiply_12 (by decide) ?_
    obtain rfl := Option.some.inj h
    exact zw_lret hX hr dX7_multiply_13 ⟨rfl, rfl⟩
  · rw [if_neg c3] at h
    refine zw_lload_n hX dX7_multiply_6 rfl ?_
    refine zw_lconst (v := (0 : Int64)) hX dX7_multiply_7 (by decide) ?_
    refine zw_lcmp hX dX7_multiply_8 ?_
    refine zw_if_ne (tgt := 14) hX dX7_multiply_9 (by decide) (fun c9 => ?_) (fun c9 => ?_)
    · rw [if_neg c9] at h
      refine zw_lload_n hX dX7_multiply_14 rfl ?_
      refine zw_lload_n hX dX7_multiply_15 rfl ?_
      refine zw_lmul hX dX7_multiply_16 ?_
      refine zw_lstore hX dX7_multiply_17 (by decide) ?_
      refine zw_lload_n hX dX7_multiply_19 rfl ?_
      refine zw_ldc2 (v := (-1 : Int64)) hX dX7_multiply_20 zl_X7_148 ?_
      refine zw_lcmp hX dX7_multiply_23 ?_
      refine zw_if_ne (tgt := 35) hX dX7_multiply_24 (by decide) (fun c24 => ?_) (fun c24 => ?_)
      · rw [if_neg c24] at h
        refine zw_sub (lv' := [(0, .ref a0), (1, .long j1), (3, .long j3), (5, .long (j1 * j3))]) (List.forall_mem_cons.mpr ⟨rfl, (List.forall_mem_cons.mpr ⟨rfl, (List.forall_mem_cons.mpr ⟨rfl, (List.forall_mem_cons.mpr ⟨rfl, zs_nil⟩)⟩)⟩)⟩) ?_
        exact zt_X7_multiply_J35 hX hr hR hd h
      · rw [if_pos c24] at h
        refine zw_lload_n hX dX7_multiply_27 rfl ?_
        refine zw_ldc2 (v := (-9223372036854775808 : Int64)) hX dX7_multiply_28 zl_X7_152 ?_
        refine zw_lcmp hX dX7_multiply_31 ?_
        refine zw_if_eq (tgt := 51) hX dX7_multiply_32 (by decide) (fun c32 => ?_) (fun c32 => ?_)
        · rw [if_pos c32] at h
          refine zw_sub (lv' := [(0, .ref a0), (1, .long j1), (3, .long j3), (5, .long (j1 * j3))]) (List.forall_mem_cons.mpr ⟨rfl, (List.forall_mem_cons.mpr ⟨rfl, (List.forall_mem_cons.mpr ⟨rfl, (List.forall_mem_cons.mpr ⟨rfl, zs_nil⟩)⟩)⟩)⟩) ?_
          exact zt_X7_multiply_J51 hX hr hR hd h
        · rw [if_neg c32] at h
          refine zw_sub (lv' := [(0, .ref a0), (1, .long j1), (3, .long j3), (5, .long (j1 * j3))]) (List.forall_mem_cons.mpr ⟨rfl, (List.forall_mem_cons.mpr ⟨rfl, (List.forall_mem_cons.mpr ⟨rfl, (List.forall_mem_cons.mpr ⟨rfl, zs_nil⟩)⟩)⟩)⟩) ?_
          exact zt_X7_multiply_J35 hX hr hR hd h
    · rw [if_pos c9] at h
      refine zw_lconst (v := (0 : Int64)) hX dX7_multiply_12 (by decide) ?_
      obtain rfl := Option.some.inj h
      exact zw_lret hX hr dX7_multiply_13 ⟨rfl, rfl⟩
def zf_X7_add (N : Nat) (a0 : Nat) (j1 : Int64) (j3 : Int64) (S : zm_S) : Option (Int64 × zm_S) := if 0 ≤ (lg_cmp ((j1 ^^^ (j1 + j3)) &&& (j3 ^^^ (j1 + j3))) (0 : Int64)) then some ((j1 + j3), S) else (zp S a0 7 12 (.int (2 : Int32))).bind (fun S1 => some ((j1 + j3), S1))
set_option maxHeartbeats 4000000 in
set_option maxRecDepth 100000 in
theorem zt_X7_add {l : Launch} {V : zm_V} {N : Nat} {S : zm_S} {out : (Int64 × zm_S)} {d : Nat} {a0 : Nat} {j1 : Int64} {j3 : Int64} (hd : 1 ≤ d) (h : zf_X7_add N a0 j1 j3 S = some out) : zm_Met l zk_E V yX7_add (.code yX7_add cX7_add 7 (some .long)) d [.ref a0, .long j1, .long j3] S 0 0 (zo_l out) zo_x := by
  refine zm_of (by decide +kernel) (Nat.le_of_ble_eq_true rfl) ?_
  intro p e R s m args below meth c hRR hX hr hxt
  have hR : R.frames = d ∧ R.locals = 64 * d := by rw [hRR]; exact ⟨rfl, rfl⟩
  have hX : zm_X p R s m args meth c RX7 "add" cX7_add 7 zk_E V 0 0 := hX
  unfold zf_X7_add at h
  refine zw_sub (lv' := [(0, .ref a0), (1, .long j1), (3, .long j3)]) (List.forall_mem_cons.mpr ⟨rfl, (List.forall_mem_cons.mpr ⟨rfl, (List.forall_mem_cons.mpr ⟨rfl, zs_nil⟩)⟩)⟩) ?_
  refine zw_lload_n hX dX7_add_0 rfl ?_
  refine zw_lload_n hX dX7_add_1 rfl ?_
  refine zw_ladd hX dX7_add_2 ?_
  refine zw_lstore hX dX7_add_3 (by decide) ?_
  refine zw_lload_n hX dX7_add_5 rfl ?_
  refine zw_lload hX dX7_add_6 rfl ?_
  refine zw_lxor hX dX7_add_8 ?_
  refine zw_lload_n hX dX7_add_9 rfl ?_
  refine zw_lload hX dX7_add_10 rfl ?_
  refine zw_lxor hX dX7_add_12 ?_
  refine zw_land hX dX7_add_13 ?_
  refine zw_lconst (v := (0 : Int64)) hX dX7_add_14 (by decide) ?_
  refine zw_lcmp hX dX7_add_15 ?_
  refine zw_if_ge (tgt := 24) hX dX7_add_16 (by decide) (fun c16 => ?_) (fun c16 => ?_)
  · rw [if_pos c16] at h
    refine zw_lload hX dX7_add_24 rfl ?_
    obtain rfl := Option.some.inj h
    exact zw_lret hX hr dX7_add_26 ⟨rfl, rfl⟩
  · rw [if_neg c16] at h
    refine zw_aload_n hX dX7_add_19 rfl ?_
    refine zw_iconst (v := (2 : Int32)) hX dX7_add_20 (by decide) ?_
    obtain ⟨S1, g, h⟩ := zb_some h
    refine zw_putv hX zl_X7_89 zt_7_12 dX7_add_21 rfl rfl g ?_
    refine zw_lload hX dX7_add_24 rfl ?_
    obtain rfl := Option.some.inj h
    exact zw_lret hX hr dX7_add_26 ⟨rfl, rfl⟩
def zf_X7_subtract (N : Nat) (a0 : Nat) (j1 : Int64) (j3 : Int64) (S : zm_S) : Option (Int64 × zm_S) := if 0 ≤ (lg_cmp ((j1 ^^^ j3) &&& (j1 ^^^ (j1 - j3))) (0 : Int64)) then some ((j1 - j3), S) else (zp S a0 7 12 (.int (2 : Int32))).bind (fun S1 => some ((j1 - j3), S1))
set_option maxHeartbeats 4000000 in
set_option maxRecDepth 100000 in
theorem zt_X7_subtract {l : Launch} {V : zm_V} {N : Nat} {S : zm_S} {out : (Int64 × zm_S)} {d : Nat} {a0 : Nat} {j1 : Int64} {j3 : Int64} (hd : 1 ≤ d) (h : zf_X7_subtract N a0 j1 j3 S = some out) : zm_Met l zk_E V yX7_subtract (.code yX7_subtract cX7_subtract 7 (some .long)) d [.ref a0, .long j1, .long j3] S 0 0 (zo_l out) zo_x := by
  refine zm_of (by decide +kernel) (Nat.le_of_ble_eq_true rfl) ?_
  intro p e R s m args below meth c hRR hX hr hxt
  have hR : R.frames = d ∧ R.locals = 64 * d := by rw [hRR]; exact ⟨rfl, rfl⟩
  have hX : zm_X p R s m args meth c RX7 "subtract" cX7_subtract 7 zk_E V 0 0 := hX
  unfold zf_X7_subtract at h
  refine zw_sub (lv' := [(0, .ref a0), (1, .long j1), (3, .long j3)]) (List.forall_mem_cons.mpr ⟨rfl, (List.forall_mem_cons.mpr ⟨rfl, (List.forall_mem_cons.mpr ⟨rfl, zs_nil⟩)⟩)⟩) ?_
  refine zw_lload_n hX dX7_subtract_0 rfl ?_
  refine zw_lload_n hX dX7_subtract_1 rfl ?_
  refine zw_lsub hX dX7_subtract_2 ?_
  refine zw_lstore hX dX7_subtract_3 (by decide) ?_
  refine zw_lload_n hX dX7_subtract_5 rfl ?_
  refine zw_lload_n hX dX7_subtract_6 rfl ?_
  refine zw_lxor hX dX7_subtract_7 ?_
  refine zw_lload_n hX dX7_subtract_8 rfl ?_
  refine zw_lload hX dX7_subtract_9 rfl ?_
  refine zw_lxor hX dX7_subtract_11 ?_
  refine zw_land hX dX7_subtract_12 ?_
  refine zw_lconst (v := (0 : Int64)) hX dX7_subtract_13 (by decide) ?_
  refine zw_lcmp hX dX7_subtract_14 ?_
  refine zw_if_ge (tgt := 23) hX dX7_subtract_15 (by decide) (fun c15 => ?_) (fun c15 => ?_)
  · rw [if_pos c15] at h
    refine zw_lload hX dX7_subtract_23 rfl ?_
    obtain rfl := Option.some.inj h
    exact zw_lret hX hr dX7_subtract_25 ⟨rfl, rfl⟩
  · rw [if_neg c15] at h
    refine zw_aload_n hX dX7_subtract_18 rfl ?_
    refine zw_iconst (v := (2 : Int32)) hX dX7_subtract_19 (by decide) ?_
    obtain ⟨S1, g, h⟩ := zb_some h
    refine zw_putv hX zl_X7_89 zt_7_12 dX7_subtract_20 rfl rfl g ?_
    refine zw_lload hX dX7_subtract_23 rfl ?_
    obtain rfl := Option.some.inj h
    exact zw_lret hX hr dX7_subtract_25 ⟨rfl, rfl⟩
def zf_X7_combine_J139 (N : Nat) (a0 : Nat) (j4 : Int64) (j8 : Int64) (t0 : Nat) (t1 : Int64) (S : zm_S) : Option (Unit × zm_S) := (zp S t0 7 14 (.long t1)).bind (fun S15 => (zi S15 a0 7).bind (fun _ => (zf_X7_multiply N a0 j4 j8 S15).bind (fun r18 => (zp r18.2 a0 7 15 (.long r18.1)).bind (fun S19 => some ((), S19)))))
set_option maxHeartbeats 4000000 in
set_option maxRecDepth 100000 in
theorem zt_X7_combine_J139 {p : Program} {l : Launch} {e : Env} {R : Room} {s : State} {m : MethodId} {args : Array Value} {below : List Frame} {meth : Method} {c : Code} {V : zm_V} {mc ms d rc rs : Nat} (hX : zm_X p R s m args meth c RX7 "combine" cX7_combine 12 zk_E V mc ms) (hr : meth.sig.returnType = none) (hR : R.frames = d ∧ R.locals = 64 * d) (hd : 2 ≤ d) {N : Nat} {a0 : Nat} {j4 : Int64} {j8 : Int64} {t0 : Nat} {t1 : Int64} {out : (Unit × zm_S)} {S : zm_S} (h : zf_X7_combine_J139 N a0 j4 j8 t0 t1 S = some out) : zw p l e R s m args below meth c (vx_MQ below (zm_Qc zk_E V (zo_v out)) (zm_XC zk_E V zo_x) args s mc ms (fun q => V.2.2.2.1 ≤ q)) 12 zk_E V mc ms 139 [(0, .ref a0), (4, .long j4), (8, .long j8)] [.long t1, .ref t0] S rc rs := by
  unfold zf_X7_combine_J139 at h
  obtain ⟨S15, g, h⟩ := zb_some h
  refine zw_putv hX zl_X7_111 zt_7_14 dX7_combine_139 rfl rfl g ?_
  refine zw_aload_n hX dX7_combine_142 rfl ?_
  refine zw_aload_n hX dX7_combine_143 rfl ?_
  refine zw_lload hX dX7_combine_144 rfl ?_
  refine zw_lload hX dX7_combine_146 rfl ?_
  obtain ⟨_, gi, h⟩ := zb_some h
  obtain ⟨r18, g, h⟩ := zb_some h
  refine zc_Vl (as := [.long j4, .long j8]) hX gi (zt_X7_multiply (d := d - 1) (by omega) g) zl_X7_121 rfl dX7_combine_148 ⟨rfl, rfl, Nat.le_of_ble_eq_true rfl⟩ ⟨by omega, by omega⟩ ?_
  obtain ⟨S19, g, h⟩ := zb_some h
  refine zw_putv hX zl_X7_114 zt_7_15 dX7_combine_151 rfl rfl g ?_
  obtain rfl := Option.some.inj h
  exact zw_vret hX hr dX7_combine_154 ⟨rfl, rfl⟩
def zf_X7_combine (N : Nat) (a0 : Nat) (i1 : Int32) (j2 : Int64) (j4 : Int64) (S : zm_S) : Option (Unit × zm_S) := (zg_l S a0 7 14).bind (fun w1 => (zg_l S a0 7 15).bind (fun w2 => (zg_i S a0 7 12).bind (fun v3 => if v3 = 0 then if i1 = (42 : Int32) then (zi S a0 7).bind (fun _ => (zf_X7_multiply N a0 j2 w1 S).bind (fun r33 => (zp r33.2 a0 7 14 (.long r33.1)).bind (fun S34 => (zi S34 a0 7).bind (fun _ => (zf_X7_multiply N a0 j4 w2 S34).bind (fun r37 => (zp r37.2 a0 7 15 (.long r37.1)).bind (fun S38 => some ((), S38))))))) else (zi S a0 7).bind (fun _ => (zf_X7_multiply N a0 j2 w2 S).bind (fun r6 => (zp r6.2 a0 7 14 (.long r6.1)).bind (fun S7 => if i1 = (47 : Int32) then (zi S7 a0 7).bind (fun _ => (zf_X7_multiply N a0 j4 w1 S7).bind (fun r26 => (zp r26.2 a0 7 15 (.long r26.1)).bind (fun S27 => if (lg_cmp w1 (0 : Int64)) = 0 then (zp S27 a0 7 12 (.int (3 : Int32))).bind (fun S30 => some ((), S30)) else (zg_i S27 a0 7 12).bind (fun v28 => (zp S27 a0 7 12 (.int v28)).bind (fun S29 => some ((), S29)))))) else (zi S7 a0 7).bind (fun _ => (zf_X7_multiply N a0 w1 j4 S7).bind (fun r10 => if i1 = (43 : Int32) then (zg_l r10.2 a0 7 14).bind (fun w20 => (zi r10.2 a0 7).bind (fun _ => (zf_X7_add N a0 w20 r10.1 r10.2).bind (fun r23 => zf_X7_combine_J139 N a0 j4 w2 a0 r23.1 r23.2))) else (zg_l r10.2 a0 7 14).bind (fun w11 => (zi r10.2 a0 7).bind (fun _ => (zf_X7_subtract N a0 w11 r10.1 r10.2).bind (fun r14 => zf_X7_combine_J139 N a0 j4 w2 a0 r14.1 r14.2)))))))) else some ((), S))))
set_option maxHeartbeats 4000000 in
set_option maxRecDepth 100000 in
theorem zt_X7_combine {l : Launch} {V : zm_V} {N : Nat} {S : zm_S} {out : (Unit × zm_S)} {d : Nat} {a0 : Nat} {i1 : Int32} {j2 : Int64} {j4 : Int64} (hd : 2 ≤ d) (h : zf_X7_combine N a0 i1 j2 j4 S = some out) : zm_Met l zk_E V yX7_combine (.code yX7_combine cX7_combine 12 none) d [.ref a0, .int i1, .long j2, .long j4] S 0 0 (zo_v out) zo_x := by
  refine zm_of (by decide +kernel) (Nat.le_of_ble_eq_true rfl) ?_
  intro p e R s m args below meth c hRR hX hr hxt
  have hR : R.frames = d ∧ R.locals = 64 * d := by rw [hRR]; exact ⟨rfl, rfl⟩
  have hX : zm_X p R s m args meth c RX7 "combine" cX7_combine 12 zk_E V 0 0 := hX
  unfold zf_X7_combine at h
  refine zw_sub (lv' := [(0, .ref a0), (1, .int i1), (2, .long j2), (4, .long j4)]) (List.forall_mem_cons.mpr ⟨rfl, (List.forall_mem_cons.mpr ⟨rfl, (List.forall_mem_cons.mpr ⟨rfl, (List.forall_mem_cons.mpr ⟨rfl, zs_nil⟩)⟩)⟩)⟩) ?_
  refine zw_aload_n hX dX7_combine_0 rfl ?_
  obtain ⟨w1, g, h⟩ := zb_some h
  refine zw_getl hX zl_X7_111 dX7_combine_1 g ?_
  refine zw_lstore hX dX7_combine_4 (by decide) ?_
  refine zw_aload_n hX dX7_combine_6 rfl ?_
  obtain ⟨w2, g, h⟩ := zb_some h
  refine zw_getl hX zl_X7_114 dX7_combine_7 g ?_
  refine zw_lstore hX dX7_combine_10 (by decide) ?_
  refine zw_aload_n hX dX7_combine_12 rfl ?_
  obtain ⟨v3, g, h⟩ := zb_some h
  refine zw_geti hX zl_X7_89 dX7_combine_13 g ?_
  refine zw_if_eq (tgt := 20) hX dX7_combine_16 (by decide) (fun c16 => ?_) (fun c16 => ?_)
  · rw [if_pos c16] at h
    refine zw_iload_n hX dX7_combine_20 rfl ?_
    refine zw_bipush (v := (42 : Int32)) hX dX7_combine_21 (by decide) ?_
    refine zw_icmp_ne (tgt := 50) hX dX7_combine_23 (by decide) (fun c23 => ?_) (fun c23 => ?_)
    · rw [if_neg c23] at h
      refine zw_aload_n hX dX7_combine_50 rfl ?_
      refine zw_aload_n hX dX7_combine_51 rfl ?_
      refine zw_lload_n hX dX7_combine_52 rfl ?_
      refine zw_lload hX dX7_combine_53 rfl ?_
      obtain ⟨_, gi, h⟩ := zb_some h
      obtain ⟨r6, g, h⟩ := zb_some h
      refine zc_Vl (as := [.long j2, .long w2]) hX gi (zt_X7_multiply (d := d - 1) (by omega) g) zl_X7_121 rfl dX7_combine_55 ⟨rfl, rfl, Nat.le_of_ble_eq_true rfl⟩ ⟨by omega, by omega⟩ ?_
      obtain ⟨S7, g, h⟩ := zb_some h
      refine zw_putv hX zl_X7_111 zt_7_14 dX7_combine_58 rfl rfl g ?_
      refine zw_iload_n hX dX7_combine_61 rfl ?_
      refine zw_bipush (v := (47 : Int32)) hX dX7_combine_62 (by decide) ?_
      refine zw_icmp_ne (tgt := 99) hX dX7_combine_64 (by decide) (fun c64 => ?_) (fun c64 => ?_)
      · rw [if_neg c64] at h
        refine zw_aload_n hX dX7_combine_99 rfl ?_
        refine zw_lload hX dX7_combine_100 rfl ?_
        refine zw_lload hX dX7_combine_102 rfl ?_
        obtain ⟨_, gi, h⟩ := zb_some h
        obtain ⟨r10, g, h⟩ := zb_some h
        refine zc_Vl (as := [.long w1, .long j4]) hX gi (zt_X7_multiply (d := d - 1) (by omega) g) zl_X7_121 rfl dX7_combine_104 ⟨rfl, rfl, Nat.le_of_ble_eq_true rfl⟩ ⟨by omega, by omega⟩ ?_
        refine zw_lstore hX dX7_combine_107 (by decide) ?_
        refine zw_aload_n hX dX7_combine_109 rfl ?_
        refine zw_iload_n hX dX7_combine_110 rfl ?_
        refine zw_bipush (v := (43 : Int32)) hX dX7_combine_111 (by decide) ?_
        refine zw_icmp_ne (tgt := 129) hX dX7_combine_113 (by decide) (fun c113 => ?_) (fun c113 => ?_)
        · rw [if_neg c113] at h
          refine zw_aload_n hX dX7_combine_129 rfl ?_
          refine zw_aload_n hX dX7_combine_130 rfl ?_
          obtain ⟨w11, g, h⟩ := zb_some h
          refine zw_getl hX zl_X7_111 dX7_combine_131 g ?_
          refine zw_lload hX dX7_combine_134 rfl ?_
          obtain ⟨_, gi, h⟩ := zb_some h
          obtain ⟨r14, g, h⟩ := zb_some h
          refine zc_Vl (as := [.long w11, .long r10.1]) hX gi (zt_X7_subtract (d := d - 1) (by omega) g) zl_X7_145 rfl dX7_combine_136 ⟨rfl, rfl, Nat.le_of_ble_eq_true rfl⟩ ⟨by omega, by omega⟩ ?_
          refine zw_sub (lv' := [(0, .ref a0), (4, .long j4), (8, .long w2)]) (List.forall_mem_cons.mpr ⟨rfl, (List.forall_mem_cons.mpr ⟨rfl, (List.forall_mem_cons.mpr ⟨rfl, zs_nil⟩)⟩)⟩) ?_
          exact zt_X7_combine_J139 hX hr hR hd h
        · rw [if_pos c113] at h
          refine zw_aload_n hX dX7_combine_116 rfl ?_
          refine zw_aload_n hX dX7_combine_117 rfl ?_
          obtain ⟨w20, g, h⟩ := zb_some h
          refine zw_getl hX zl_X7_111 dX7_combine_118 g ?_
          refine zw_lload hX dX7_combine_121 rfl ?_
          obtain ⟨_, gi, h⟩ := zb_some h
          obtain ⟨r23, g, h⟩ := zb_some h
          refine zc_Vl (as := [.long w20, .long r10.1]) hX gi (zt_X7_add (d := d - 1) (by omega) g) zl_X7_142 rfl dX7_combine_123 ⟨rfl, rfl, Nat.le_of_ble_eq_true rfl⟩ ⟨by omega, by omega⟩ ?_
          refine zw_goto (tgt := 139) hX dX7_combine_126 (by decide) ?_
          refine zw_sub (lv' := [(0, .ref a0), (4, .long j4), (8, .long w2)]) (List.forall_mem_cons.mpr ⟨rfl, (List.forall_mem_cons.mpr ⟨rfl, (List.forall_mem_cons.mpr ⟨rfl, zs_nil⟩)⟩)⟩) ?_
          exact zt_X7_combine_J139 hX hr hR hd h
      · rw [if_pos c64] at h
        refine zw_aload_n hX dX7_combine_67 rfl ?_
        refine zw_aload_n hX dX7_combine_68 rfl ?_
        refine zw_lload hX dX7_combine_69 rfl ?_
        refine zw_lload hX dX7_combine_71 rfl ?_
        obtain ⟨_, gi, h⟩ := zb_some h
        obtain ⟨r26, g, h⟩ := zb_some h
        refine zc_Vl (as := [.long j4, .long w1]) hX gi (zt_X7_multiply (d := d - 1) (by omega) g) zl_X7_121 rfl dX7_combine_73 ⟨rfl, rfl, Nat.le_of_ble_eq_true rfl⟩ ⟨by omega, by omega⟩ ?_
        obtain ⟨S27, g, h⟩ := zb_some h
        refine zw_putv hX zl_X7_114 zt_7_15 dX7_combine_76 rfl rfl g ?_
        refine zw_aload_n hX dX7_combine_79 rfl ?_
        refine zw_lload hX dX7_combine_80 rfl ?_
        refine zw_lconst (v := (0 : Int64)) hX dX7_combine_82 (by decide) ?_
        refine zw_lcmp hX dX7_combine_83 ?_
        refine zw_if_ne (tgt := 91) hX dX7_combine_84 (by decide) (fun c84 => ?_) (fun c84 => ?_)
        · rw [if_neg c84] at h
          refine zw_aload_n hX dX7_combine_91 rfl ?_
          obtain ⟨v28, g, h⟩ := zb_some h
          refine zw_geti hX zl_X7_89 dX7_combine_92 g ?_
          obtain ⟨S29, g, h⟩ := zb_some h
          refine zw_putv hX zl_X7_89 zt_7_12 dX7_combine_95 rfl rfl g ?_
          obtain rfl := Option.some.inj h
          exact zw_vret hX hr dX7_combine_98 ⟨rfl, rfl⟩
        · rw [if_pos c84] at h
          refine zw_iconst (v := (3 : Int32)) hX dX7_combine_87 (by decide) ?_
          refine zw_goto (tgt := 95) hX dX7_combine_88 (by decide) ?_
          obtain ⟨S30, g, h⟩ := zb_some h
          refine zw_putv hX zl_X7_89 zt_7_12 dX7_combine_95 rfl rfl g ?_
          obtain rfl := Option.some.inj h
          exact zw_vret hX hr dX7_combine_98 ⟨rfl, rfl⟩
    · rw [if_pos c23] at h
      refine zw_aload_n hX dX7_combine_26 rfl ?_
      refine zw_aload_n hX dX7_combine_27 rfl ?_
      refine zw_lload_n hX dX7_combine_28 rfl ?_
      refine zw_lload hX dX7_combine_29 rfl ?_
      obtain ⟨_, gi, h⟩ := zb_some h
      obtain ⟨r33, g, h⟩ := zb_some h
      refine zc_Vl (as := [.long j2, .long w1]) hX gi (zt_X7_multiply (d := d - 1) (by omega) g) zl_X7_121 rfl dX7_combine_31 ⟨rfl, rfl, Nat.le_of_ble_eq_true rfl⟩ ⟨by omega, by omega⟩ ?_
      obtain ⟨S34, g, h⟩ := zb_some h
      refine zw_putv hX zl_X7_111 zt_7_14 dX7_combine_34 rfl rfl g ?_
      refine zw_aload_n hX dX7_combine_37 rfl ?_
      refine zw_aload_n hX dX7_combine_38 rfl ?_
      refine zw_lload hX dX7_combine_39 rfl ?_
      refine zw_lload hX dX7_combine_41 rfl ?_
      obtain ⟨_, gi, h⟩ := zb_some h
      obtain ⟨r37, g, h⟩ := zb_some h
      refine zc_Vl (as := [.long j4, .long w2]) hX gi (zt_X7_multiply (d := d - 1) (by omega) g) zl_X7_121 rfl dX7_combine_43 ⟨rfl, rfl, Nat.le_of_ble_eq_true rfl⟩ ⟨by omega, by omega⟩ ?_
      obtain ⟨S38, g, h⟩ := zb_some h
      refine zw_putv hX zl_X7_114 zt_7_15 dX7_combine_46 rfl rfl g ?_
      obtain rfl := Option.some.inj h
      exact zw_vret hX hr dX7_combine_49 ⟨rfl, rfl⟩
  · rw [if_neg c16] at h
    obtain rfl := Option.some.inj h
    exact zw_vret hX hr dX7_combine_19 ⟨rfl, rfl⟩
def zf_X7_commonBelowZero_L31 (N : Nat) : Nat → Int64 → Int64 → Int32 → zm_S → Option ((Int64 × zm_S) ⊕ ((Int64) × zm_S))
  | 0, _, _, _, _ => none
  | n + 1, j4, j6, i8, S => if (100 : Int32) ≤ i8 then some (.inr (j4, S)) else if (lg_cmp j6 (0 : Int64)) = 0 then some (.inr (j4, S)) else if j6 = 0 then none else zf_X7_commonBelowZero_L31 N n j6 (j4 - j4 / j6 * j6) (i8 + (1 : Int32)) S
set_option maxHeartbeats 4000000 in
set_option maxRecDepth 100000 in
theorem zt_X7_commonBelowZero_L31 {p : Program} {l : Launch} {e : Env} {R : Room} {s : State} {m : MethodId} {args : Array Value} {below : List Frame} {meth : Method} {c : Code} {V : zm_V} {mc ms d rc rs : Nat} (hX : zm_X p R s m args meth c RX7 "commonBelowZero" cX7_commonBelowZero 11 zk_E V mc ms) (hr : meth.sig.returnType = (some .long)) (hR : R.frames = d ∧ R.locals = 64 * d) (hd : 1 ≤ d) {N : Nat} {res : (Int64 × zm_S) ⊕ ((Int64) × zm_S)} {out : (Int64 × zm_S)}  (hf : ∀ o, res = .inl o → o = out) (hk : ∀ (x4 : Int64) (S' : zm_S), res = .inr (x4, S') → zw p l e R s m args below meth c (vx_MQ below (zm_Qc zk_E V (zo_l out)) (zm_XC zk_E V zo_x) args s mc ms (fun q => V.2.2.2.1 ≤ q)) 11 zk_E V mc ms 66 [(4, .long x4)] [] S' rc rs) : ∀ (n : Nat) (j4 : Int64) (j6 : Int64) (i8 : Int32) (S : zm_S), zf_X7_commonBelowZero_L31 N n j4 j6 i8 S = some res → zw p l e R s m args below meth c (vx_MQ below (zm_Qc zk_E V (zo_l out)) (zm_XC zk_E V zo_x) args s mc ms (fun q => V.2.2.2.1 ≤ q)) 11 zk_E V mc ms 31 [(4, .long j4), (6, .long j6), (8, .int i8)] [] S rc rs := by
  intro n
  induction n with
  | zero => intro j4 j6 i8 S h; cases h
  | succ n ih =>
    intro j4 j6 i8 S h
    rw [zf_X7_commonBelowZero_L31] at h
    refine zw_iload hX dX7_commonBelowZero_31 rfl ?_
    refine zw_bipush (v := (100 : Int32)) hX dX7_commonBelowZero_33 (by decide) ?_
    refine zw_icmp_ge (tgt := 66) hX dX7_commonBelowZero_35 (by decide) (fun c35 => ?_) (fun c35 => ?_)
    · rw [if_pos c35] at h
      refine zw_sub (lv' := [(4, .long j4)]) (List.forall_mem_cons.mpr ⟨rfl, zs_nil⟩) ?_
      exact hk _ _ (Option.some.inj h).symm
    · rw [if_neg c35] at h
      refine zw_lload hX dX7_commonBelowZero_38 rfl ?_
      refine zw_lconst (v := (0 : Int64)) hX dX7_commonBelowZero_40 (by decide) ?_
      refine zw_lcmp hX dX7_commonBelowZero_41 ?_
      refine zw_if_eq (tgt := 66) hX dX7_commonBelowZero_42 (by decide) (fun c42 => ?_) (fun c42 => ?_)
      · rw [if_pos c42] at h
        refine zw_sub (lv' := [(4, .long j4)]) (List.forall_mem_cons.mpr ⟨rfl, zs_nil⟩) ?_
        exact hk _ _ (Option.some.inj h).symm
      · rw [if_neg c42] at h
        refine zw_lload hX dX7_commonBelowZero_45 rfl ?_
        refine zw_lload hX dX7_commonBelowZero_47 rfl ?_
        by_cases c0 : j6 = 0
        · rw [if_pos c0] at h
          cases h
        rw [if_neg c0] at h
        refine zw_lrem hX dX7_commonBelowZero_49 c0 ?_
        refine zw_lstore hX dX7_commonBelowZero_50 (by decide) ?_
        refine zw_lload hX dX7_commonBelowZero_52 rfl ?_
        refine zw_lstore hX dX7_commonBelowZero_54 (by decide) ?_
        refine zw_lload hX dX7_commonBelowZero_56 rfl ?_
        refine zw_lstore hX dX7_commonBelowZero_58 (by decide) ?_
        refine zw_iinc (v := (i8 + (1 : Int32))) hX dX7_commonBelowZero_60 rfl rfl (by decide) ?_
        refine zw_goto (tgt := 31) hX dX7_commonBelowZero_63 (by decide) ?_
        refine zw_sub (lv' := [(4, .long j6), (6, .long (j4 - j4 / j6 * j6)), (8, .int (i8 + (1 : Int32)))]) (List.forall_mem_cons.mpr ⟨rfl, (List.forall_mem_cons.mpr ⟨rfl, (List.forall_mem_cons.mpr ⟨rfl, zs_nil⟩)⟩)⟩) ?_
        exact ih _ _ _ _ h
def zf_X7_commonBelowZero_J26 (N : Nat) (j4 : Int64) (t0 : Int64) (S : zm_S) : Option (Int64 × zm_S) := (zf_X7_commonBelowZero_L31 N N j4 t0 (0 : Int32) S).bind (fun r => match r with | .inl o => some o | .inr (w2, S1) => some (w2, S1))
set_option maxHeartbeats 4000000 in
set_option maxRecDepth 100000 in
theorem zt_X7_commonBelowZero_J26 {p : Program} {l : Launch} {e : Env} {R : Room} {s : State} {m : MethodId} {args : Array Value} {below : List Frame} {meth : Method} {c : Code} {V : zm_V} {mc ms d rc rs : Nat} (hX : zm_X p R s m args meth c RX7 "commonBelowZero" cX7_commonBelowZero 11 zk_E V mc ms) (hr : meth.sig.returnType = (some .long)) (hR : R.frames = d ∧ R.locals = 64 * d) (hd : 1 ≤ d) {N : Nat} {j4 : Int64} {t0 : Int64} {out : (Int64 × zm_S)} {S : zm_S} (h : zf_X7_commonBelowZero_J26 N j4 t0 S = some out) : zw p l e R s m args below meth c (vx_MQ below (zm_Qc zk_E V (zo_l out)) (zm_XC zk_E V zo_x) args s mc ms (fun q => V.2.2.2.1 ≤ q)) 11 zk_E V mc ms 26 [(4, .long j4)] [.long t0] S rc rs := by
  unfold zf_X7_commonBelowZero_J26 at h
  refine zw_lstore hX dX7_commonBelowZero_26 (by decide) ?_
  refine zw_iconst (v := (0 : Int32)) hX dX7_commonBelowZero_28 (by decide) ?_
  refine zw_istore hX dX7_commonBelowZero_29 (by decide) ?_
  obtain ⟨r, g, h⟩ := zb_some h
  refine zw_sub (lv' := [(4, .long j4), (6, .long t0), (8, .int (0 : Int32))]) (List.forall_mem_cons.mpr ⟨rfl, (List.forall_mem_cons.mpr ⟨rfl, (List.forall_mem_cons.mpr ⟨rfl, zs_nil⟩)⟩)⟩) ?_
  refine zt_X7_commonBelowZero_L31 hX hr hR hd (res := r) (out := out)  ?_ ?_ N _ _ _ _ g
  · intro o ho
    subst ho
    exact Option.some.inj h
  · intro w2 S1 hx
    subst hx
    try dsimp only at h
    refine zw_lload hX dX7_commonBelowZero_66 rfl ?_
    obtain rfl := Option.some.inj h
    exact zw_lret hX hr dX7_commonBelowZero_68 ⟨rfl, rfl⟩
def zf_X7_commonBelowZero_J12 (N : Nat) (j2 : Int64) (t0 : Int64) (S : zm_S) : Option (Int64 × zm_S) := if (lg_cmp j2 (0 : Int64)) ≤ 0 then zf_X7_commonBelowZero_J26 N t0 j2 S else zf_X7_commonBelowZero_J26 N t0 (-j2) S
set_option maxHeartbeats 4000000 in
set_option maxRecDepth 100000 in
theorem zt_X7_commonBelowZero_J12 {p : Program} {l : Launch} {e : Env} {R : Room} {s : State} {m : MethodId} {args : Array Value} {below : List Frame} {meth : Method} {c : Code} {V : zm_V} {mc ms d rc rs : Nat} (hX : zm_X p R s m args meth c RX7 "commonBelowZero" cX7_commonBelowZero 11 zk_E V mc ms) (hr : meth.sig.returnType = (some .long)) (hR : R.frames = d ∧ R.locals = 64 * d) (hd : 1 ≤ d) {N : Nat} {j2 : Int64} {t0 : Int64} {out : (Int64 × zm_S)} {S : zm_S} (h : zf_X7_commonBelowZero_J12 N j2 t0 S = some out) : zw p l e R s m args below meth c (vx_MQ below (zm_Qc zk_E V (zo_l out)) (zm_XC zk_E V zo_x) args s mc ms (fun q => V.2.2.2.1 ≤ q)) 11 zk_E V mc ms 12 [(2, .long j2)] [.long t0] S rc rs := by
  unfold zf_X7_commonBelowZero_J12 at h
  refine zw_lstore hX dX7_commonBelowZero_12 (by decide) ?_
  refine zw_lload_n hX dX7_commonBelowZero_14 rfl ?_
  refine zw_lconst (v := (0 : Int64)) hX dX7_commonBelowZero_15 (by decide) ?_
  refine zw_lcmp hX dX7_commonBelowZero_16 ?_
  refine zw_if_le (tgt := 25) hX dX7_commonBelowZero_17 (by decide) (fun c17 => ?_) (fun c17 => ?_)
  · rw [if_pos c17] at h
    refine zw_lload_n hX dX7_commonBelowZero_25 rfl ?_
    refine zw_sub (lv' := [(4, .long t0)]) (List.forall_mem_cons.mpr ⟨rfl, zs_nil⟩) ?_
    exact zt_X7_commonBelowZero_J26 hX hr hR hd h
  · rw [if_neg c17] at h
    refine zw_lload_n hX dX7_commonBelowZero_20 rfl ?_
    refine zw_lneg hX dX7_commonBelowZero_21 ?_
    refine zw_goto (tgt := 26) hX dX7_commonBelowZero_22 (by decide) ?_
    refine zw_sub (lv' := [(4, .long t0)]) (List.forall_mem_cons.mpr ⟨rfl, zs_nil⟩) ?_
    exact zt_X7_commonBelowZero_J26 hX hr hR hd h
def zf_X7_commonBelowZero (N : Nat) (j0 : Int64) (j2 : Int64) (S : zm_S) : Option (Int64 × zm_S) := if (lg_cmp j0 (0 : Int64)) ≤ 0 then zf_X7_commonBelowZero_J12 N j2 j0 S else zf_X7_commonBelowZero_J12 N j2 (-j0) S
set_option maxHeartbeats 4000000 in
set_option maxRecDepth 100000 in
theorem zt_X7_commonBelowZero {l : Launch} {V : zm_V} {N : Nat} {S : zm_S} {out : (Int64 × zm_S)} {d : Nat} {j0 : Int64} {j2 : Int64} (hd : 1 ≤ d) (h : zf_X7_commonBelowZero N j0 j2 S = some out) : zm_Met l zk_E V yX7_commonBelowZero (.code yX7_commonBelowZero cX7_commonBelowZero 11 (some .long)) d [.long j0, .long j2] S 0 0 (zo_l out) zo_x := by
  refine zm_of (by decide +kernel) (Nat.le_of_ble_eq_true rfl) ?_
  intro p e R s m args below meth c hRR hX hr hxt
  have hR : R.frames = d ∧ R.locals = 64 * d := by rw [hRR]; exact ⟨rfl, rfl⟩
  have hX : zm_X p R s m args meth c RX7 "commonBelowZero" cX7_commonBelowZero 11 zk_E V 0 0 := hX
  unfold zf_X7_commonBelowZero at h
  refine zw_sub (lv' := [(0, .long j0), (2, .long j2)]) (List.forall_mem_cons.mpr ⟨rfl, (List.forall_mem_cons.mpr ⟨rfl, zs_nil⟩)⟩) ?_
  refine zw_lload_n hX dX7_commonBelowZero_0 rfl ?_
  refine zw_lconst (v := (0 : Int64)) hX dX7_commonBelowZero_1 (by decide) ?_
  refine zw_lcmp hX dX7_commonBelowZero_2 ?_
  refine zw_if_le (tgt := 11) hX dX7_commonBelowZero_3 (by decide) (fun c3 => ?_) (fun c3 => ?_)
  · rw [if_pos c3] at h
    refine zw_lload_n hX dX7_commonBelowZero_11 rfl ?_
    refine zw_sub (lv' := [(2, .long j2)]) (List.forall_mem_cons.mpr ⟨rfl, zs_nil⟩) ?_
    exact zt_X7_commonBelowZero_J12 hX hr hR hd h
  · rw [if_neg c3] at h
    refine zw_lload_n hX dX7_commonBelowZero_6 rfl ?_
    refine zw_lneg hX dX7_commonBelowZero_7 ?_
    refine zw_goto (tgt := 12) hX dX7_commonBelowZero_8 (by decide) ?_
    refine zw_sub (lv' := [(2, .long j2)]) (List.forall_mem_cons.mpr ⟨rfl, zs_nil⟩) ?_
    exact zt_X7_commonBelowZero_J12 hX hr hR hd h
def zf_X7_takeOutCommon_J81 (N : Nat) (a0 : Nat) (S : zm_S) : Option (Unit × zm_S) := (zp S a0 7 12 (.int (2 : Int32))).bind (fun S9 => some ((), S9))
set_option maxHeartbeats 4000000 in
set_option maxRecDepth 100000 in
theorem zt_X7_takeOutCommon_J81 {p : Program} {l : Launch} {e : Env} {R : Room} {s : State} {m : MethodId} {args : Array Value} {below : List Frame} {meth : Method} {c : Code} {V : zm_V} {mc ms d rc rs : Nat} (hX : zm_X p R s m args meth c RX7 "takeOutCommon" cX7_takeOutCommon 3 zk_E V mc ms) (hr : meth.sig.returnType = none) (hR : R.frames = d ∧ R.locals = 64 * d) (hd : 2 ≤ d) {N : Nat} {a0 : Nat} {out : (Unit × zm_S)} {S : zm_S} (h : zf_X7_takeOutCommon_J81 N a0 S = some out) : zw p l e R s m args below meth c (vx_MQ below (zm_Qc zk_E V (zo_v out)) (zm_XC zk_E V zo_x) args s mc ms (fun q => V.2.2.2.1 ≤ q)) 3 zk_E V mc ms 81 [(0, .ref a0)] [] S rc rs := by
  unfold zf_X7_takeOutCommon_J81 at h
  refine zw_aload_n hX dX7_takeOutCommon_81 rfl ?_
  refine zw_iconst (v := (2 : Int32)) hX dX7_takeOutCommon_82 (by decide) ?_
  obtain ⟨S9, g, h⟩ := zb_some h
  refine zw_putv hX zl_X7_89 zt_7_12 dX7_takeOutCommon_83 rfl rfl g ?_
  obtain rfl := Option.some.inj h
  exact zw_vret hX hr dX7_takeOutCommon_86 ⟨rfl, rfl⟩
def zf_X7_takeOutCommon_J50 (N : Nat) (a0 : Nat) (S : zm_S) : Option (Unit × zm_S) := (zg_l S a0 7 15).bind (fun w7 => if 0 ≤ (lg_cmp w7 (0 : Int64)) then some ((), S) else (zg_l S a0 7 14).bind (fun w8 => if (lg_cmp w8 (-9223372036854775808 : Int64)) = 0 then zf_X7_takeOutCommon_J81 N a0 S else (zg_l S a0 7 15).bind (fun w10 => if (lg_cmp w10 (-9223372036854775808 : Int64)) = 0 then zf_X7_takeOutCommon_J81 N a0 S else (zg_l S a0 7 14).bind (fun w11 => (zp S a0 7 14 (.long (-w11))).bind (fun S12 => (zg_l S12 a0 7 15).bind (fun w13 => (zp S12 a0 7 15 (.long (-w13))).bind (fun S14 => some ((), S14))))))))
set_option maxHeartbeats 4000000 in
set_option maxRecDepth 100000 in
theorem zt_X7_takeOutCommon_J50 {p : Program} {l : Launch} {e : Env} {R : Room} {s : State} {m : MethodId} {args : Array Value} {below : List Frame} {meth : Method} {c : Code} {V : zm_V} {mc ms d rc rs : Nat} (hX : zm_X p R s m args meth c RX7 "takeOutCommon" cX7_takeOutCommon 3 zk_E V mc ms) (hr : meth.sig.returnType = none) (hR : R.frames = d ∧ R.locals = 64 * d) (hd : 2 ≤ d) {N : Nat} {a0 : Nat} {out : (Unit × zm_S)} {S : zm_S} (h : zf_X7_takeOutCommon_J50 N a0 S = some out) : zw p l e R s m args below meth c (vx_MQ below (zm_Qc zk_E V (zo_v out)) (zm_XC zk_E V zo_x) args s mc ms (fun q => V.2.2.2.1 ≤ q)) 3 zk_E V mc ms 50 [(0, .ref a0)] [] S rc rs := by
  unfold zf_X7_takeOutCommon_J50 at h
  refine zw_aload_n hX dX7_takeOutCommon_50 rfl ?_
  obtain ⟨w7, g, h⟩ := zb_some h
  refine zw_getl hX zl_X7_114 dX7_takeOutCommon_51 g ?_
  refine zw_lconst (v := (0 : Int64)) hX dX7_takeOutCommon_54 (by decide) ?_
  refine zw_lcmp hX dX7_takeOutCommon_55 ?_
  refine zw_if_ge (tgt := 105) hX dX7_takeOutCommon_56 (by decide) (fun c56 => ?_) (fun c56 => ?_)
  · rw [if_pos c56] at h
    obtain rfl := Option.some.inj h
    exact zw_vret hX hr dX7_takeOutCommon_105 ⟨rfl, rfl⟩
  · rw [if_neg c56] at h
    refine zw_aload_n hX dX7_takeOutCommon_59 rfl ?_
    obtain ⟨w8, g, h⟩ := zb_some h
    refine zw_getl hX zl_X7_111 dX7_takeOutCommon_60 g ?_
    refine zw_ldc2 (v := (-9223372036854775808 : Int64)) hX dX7_takeOutCommon_63 zl_X7_152 ?_
    refine zw_lcmp hX dX7_takeOutCommon_66 ?_
    refine zw_if_eq (tgt := 81) hX dX7_takeOutCommon_67 (by decide) (fun c67 => ?_) (fun c67 => ?_)
    · rw [if_pos c67] at h
      refine zw_sub (lv' := [(0, .ref a0)]) (List.forall_mem_cons.mpr ⟨rfl, zs_nil⟩) ?_
      exact zt_X7_takeOutCommon_J81 hX hr hR hd h
    · rw [if_neg c67] at h
      refine zw_aload_n hX dX7_takeOutCommon_70 rfl ?_
      obtain ⟨w10, g, h⟩ := zb_some h
      refine zw_getl hX zl_X7_114 dX7_takeOutCommon_71 g ?_
      refine zw_ldc2 (v := (-9223372036854775808 : Int64)) hX dX7_takeOutCommon_74 zl_X7_152 ?_
      refine zw_lcmp hX dX7_takeOutCommon_77 ?_
      refine zw_if_ne (tgt := 87) hX dX7_takeOutCommon_78 (by decide) (fun c78 => ?_) (fun c78 => ?_)
      · rw [if_neg c78] at h
        refine zw_aload_n hX dX7_takeOutCommon_87 rfl ?_
        refine zw_aload_n hX dX7_takeOutCommon_88 rfl ?_
        obtain ⟨w11, g, h⟩ := zb_some h
        refine zw_getl hX zl_X7_111 dX7_takeOutCommon_89 g ?_
        refine zw_lneg hX dX7_takeOutCommon_92 ?_
        obtain ⟨S12, g, h⟩ := zb_some h
        refine zw_putv hX zl_X7_111 zt_7_14 dX7_takeOutCommon_93 rfl rfl g ?_
        refine zw_aload_n hX dX7_takeOutCommon_96 rfl ?_
        refine zw_aload_n hX dX7_takeOutCommon_97 rfl ?_
        obtain ⟨w13, g, h⟩ := zb_some h
        refine zw_getl hX zl_X7_114 dX7_takeOutCommon_98 g ?_
        refine zw_lneg hX dX7_takeOutCommon_101 ?_
        obtain ⟨S14, g, h⟩ := zb_some h
        refine zw_putv hX zl_X7_114 zt_7_15 dX7_takeOutCommon_102 rfl rfl g ?_
        obtain rfl := Option.some.inj h
        exact zw_vret hX hr dX7_takeOutCommon_105 ⟨rfl, rfl⟩
      · rw [if_pos c78] at h
        refine zw_sub (lv' := [(0, .ref a0)]) (List.forall_mem_cons.mpr ⟨rfl, zs_nil⟩) ?_
        exact zt_X7_takeOutCommon_J81 hX hr hR hd h
def zf_X7_takeOutCommon (N : Nat) (a0 : Nat) (S : zm_S) : Option (Unit × zm_S) := (zg_i S a0 7 12).bind (fun v1 => if v1 = 0 then (zg_l S a0 7 14).bind (fun w2 => (zg_l S a0 7 15).bind (fun w3 => (zf_X7_commonBelowZero N w2 w3 S).bind (fun r6 => if 0 ≤ (lg_cmp r6.1 (-1 : Int64)) then zf_X7_takeOutCommon_J50 N a0 r6.2 else (zg_l r6.2 a0 7 14).bind (fun w15 => if r6.1 = 0 then none else (zp r6.2 a0 7 14 (.long (-(w15 / r6.1)))).bind (fun S16 => (zg_l S16 a0 7 15).bind (fun w17 => if r6.1 = 0 then none else (zp S16 a0 7 15 (.long (-(w17 / r6.1)))).bind (fun S18 => zf_X7_takeOutCommon_J50 N a0 S18))))))) else some ((), S))
set_option maxHeartbeats 4000000 in
set_option maxRecDepth 100000 in
theorem zt_X7_takeOutCommon {l : Launch} {V : zm_V} {N : Nat} {S : zm_S} {out : (Unit × zm_S)} {d : Nat} {a0 : Nat} (hd : 2 ≤ d) (h : zf_X7_takeOutCommon N a0 S = some out) : zm_Met l zk_E V yX7_takeOutCommon (.code yX7_takeOutCommon cX7_takeOutCommon 3 none) d [.ref a0] S 0 0 (zo_v out) zo_x := by
  refine zm_of (by decide +kernel) (Nat.le_of_ble_eq_true rfl) ?_
  intro p e R s m args below meth c hRR hX hr hxt
  have hR : R.frames = d ∧ R.locals = 64 * d := by rw [hRR]; exact ⟨rfl, rfl⟩
  have hX : zm_X p R s m args meth c RX7 "takeOutCommon" cX7_takeOutCommon 3 zk_E V 0 0 := hX
  unfold zf_X7_takeOutCommon at h
  refine zw_sub (lv' := [(0, .ref a0)]) (List.forall_mem_cons.mpr ⟨rfl, zs_nil⟩) ?_
  refine zw_aload_n hX dX7_takeOutCommon_0 rfl ?_
  obtain ⟨v1, g, h⟩ := zb_some h
  refine zw_geti hX zl_X7_89 dX7_takeOutCommon_1 g ?_
  refine zw_if_eq (tgt := 8) hX dX7_takeOutCommon_4 (by decide) (fun c4 => ?_) (fun c4 => ?_)
  · rw [if_pos c4] at h
    refine zw_aload_n hX dX7_takeOutCommon_8 rfl ?_
    obtain ⟨w2, g, h⟩ := zb_some h
    refine zw_getl hX zl_X7_111 dX7_takeOutCommon_9 g ?_
    refine zw_aload_n hX dX7_takeOutCommon_12 rfl ?_
    obtain ⟨w3, g, h⟩ := zb_some h
    refine zw_getl hX zl_X7_114 dX7_takeOutCommon_13 g ?_
    obtain ⟨r6, g, h⟩ := zb_some h
    refine zc_Sl (as := [.long w2, .long w3]) hX (zt_X7_commonBelowZero (d := d - 1) (by omega) g) zl_X7_154 dX7_takeOutCommon_16 ⟨rfl, rfl, Nat.le_of_ble_eq_true rfl⟩ ⟨by omega, by omega⟩ ?_
    refine zw_lstore_n hX dX7_takeOutCommon_19 (by decide) ?_
    refine zw_lload_n hX dX7_takeOutCommon_20 rfl ?_
    refine zw_ldc2 (v := (-1 : Int64)) hX dX7_takeOutCommon_21 zl_X7_148 ?_
    refine zw_lcmp hX dX7_takeOutCommon_24 ?_
    refine zw_if_ge (tgt := 50) hX dX7_takeOutCommon_25 (by decide) (fun c25 => ?_) (fun c25 => ?_)
    · rw [if_pos c25] at h
      refine zw_sub (lv' := [(0, .ref a0)]) (List.forall_mem_cons.mpr ⟨rfl, zs_nil⟩) ?_
      exact zt_X7_takeOutCommon_J50 hX hr hR hd h
    · rw [if_neg c25] at h
      refine zw_aload_n hX dX7_takeOutCommon_28 rfl ?_
      refine zw_aload_n hX dX7_takeOutCommon_29 rfl ?_
      obtain ⟨w15, g, h⟩ := zb_some h
      refine zw_getl hX zl_X7_111 dX7_takeOutCommon_30 g ?_
      refine zw_lload_n hX dX7_takeOutCommon_33 rfl ?_
      by_cases c0 : r6.1 = 0
      · rw [if_pos c0] at h
        cases h
      rw [if_neg c0] at h
      refine zw_ldiv hX dX7_takeOutCommon_34 c0 ?_
      refine zw_lneg hX dX7_takeOutCommon_35 ?_
      obtain ⟨S16, g, h⟩ := zb_some h
      refine zw_putv hX zl_X7_111 zt_7_14 dX7_takeOutCommon_36 rfl rfl g ?_
      refine zw_aload_n hX dX7_takeOutCommon_39 rfl ?_
      refine zw_aload_n hX dX7_takeOutCommon_40 rfl ?_
      obtain ⟨w17, g, h⟩ := zb_some h
      refine zw_getl hX zl_X7_114 dX7_takeOutCommon_41 g ?_
      refine zw_lload_n hX dX7_takeOutCommon_44 rfl ?_
      by_cases c0 : r6.1 = 0
      · rw [if_pos c0] at h
        cases h
      rw [if_neg c0] at h
      refine zw_ldiv hX dX7_takeOutCommon_45 c0 ?_
      refine zw_lneg hX dX7_takeOutCommon_46 ?_
      obtain ⟨S18, g, h⟩ := zb_some h
      refine zw_putv hX zl_X7_114 zt_7_15 dX7_takeOutCommon_47 rfl rfl g ?_
      refine zw_sub (lv' := [(0, .ref a0)]) (List.forall_mem_cons.mpr ⟨rfl, zs_nil⟩) ?_
      exact zt_X7_takeOutCommon_J50 hX hr hR hd h
  · rw [if_neg c4] at h
    obtain rfl := Option.some.inj h
    exact zw_vret hX hr dX7_takeOutCommon_7 ⟨rfl, rfl⟩
def zf_X7_compareWith (N : Nat) (a0 : Nat) (i1 : Int32) (j2 : Int64) (j4 : Int64) (S : zm_S) : Option (Int32 × zm_S) := (zg_l S a0 7 15).bind (fun w1 => (zi S a0 7).bind (fun _ => (zf_X7_multiply N a0 j2 w1 S).bind (fun r4 => (zg_l r4.2 a0 7 14).bind (fun w5 => (zi r4.2 a0 7).bind (fun _ => (zf_X7_multiply N a0 w5 j4 r4.2).bind (fun r8 => (zg_i r8.2 a0 7 12).bind (fun v9 => if v9 = 0 then if (i1).toInt = 60 then if 0 ≤ (lg_cmp r4.1 r8.1) then some ((0 : Int32), r8.2) else some ((1 : Int32), r8.2) else if (i1).toInt = 61 then if (lg_cmp r4.1 r8.1) = 0 then some ((1 : Int32), r8.2) else some ((0 : Int32), r8.2) else if (i1).toInt = 103 then if (lg_cmp r4.1 r8.1) < 0 then some ((0 : Int32), r8.2) else some ((1 : Int32), r8.2) else if (i1).toInt = 108 then if 0 < (lg_cmp r4.1 r8.1) then some ((0 : Int32), r8.2) else some ((1 : Int32), r8.2) else if (lg_cmp r4.1 r8.1) ≤ 0 then some ((0 : Int32), r8.2) else some ((1 : Int32), r8.2) else some ((0 : Int32), r8.2))))))))
set_option maxHeartbeats 4000000 in
set_option maxRecDepth 100000 in
theorem zt_X7_compareWith {l : Launch} {V : zm_V} {N : Nat} {S : zm_S} {out : (Int32 × zm_S)} {d : Nat} {a0 : Nat} {i1 : Int32} {j2 : Int64} {j4 : Int64} (hd : 2 ≤ d) (h : zf_X7_compareWith N a0 i1 j2 j4 S = some out) : zm_Met l zk_E V yX7_compareWith (.code yX7_compareWith cX7_compareWith 10 (some .boolean)) d [.ref a0, .int i1, .long j2, .long j4] S 0 0 (zo_i out) zo_x := by
  refine zm_of (by decide +kernel) (Nat.le_of_ble_eq_true rfl) ?_
  intro p e R s m args below meth c hRR hX hr hxt
  have hR : R.frames = d ∧ R.locals = 64 * d := by rw [hRR]; exact ⟨rfl, rfl⟩
  have hX : zm_X p R s m args meth c RX7 "compareWith" cX7_compareWith 10 zk_E V 0 0 := hX
  unfold zf_X7_compareWith at h
  refine zw_sub (lv' := [(0, .ref a0), (1, .int i1), (2, .long j2), (4, .long j4)]) (List.forall_mem_cons.mpr ⟨rfl, (List.forall_mem_cons.mpr ⟨rfl, (List.forall_mem_cons.mpr ⟨rfl, (List.forall_mem_cons.mpr ⟨rfl, zs_nil⟩)⟩)⟩)⟩) ?_
  refine zw_aload_n hX dX7_compareWith_0 rfl ?_
  refine zw_lload_n hX dX7_compareWith_1 rfl ?_
  refine zw_aload_n hX dX7_compareWith_2 rfl ?_
  obtain ⟨w1, g, h⟩ := zb_some h
  refine zw_getl hX zl_X7_114 dX7_compareWith_3 g ?_
  obtain ⟨_, gi, h⟩ := zb_some h
  obtain ⟨r4, g, h⟩ := zb_some h
  refine zc_Vl (as := [.long j2, .long w1]) hX gi (zt_X7_multiply (d := d - 1) (by omega) g) zl_X7_121 rfl dX7_compareWith_6 ⟨rfl, rfl, Nat.le_of_ble_eq_true rfl⟩ ⟨by omega, by omega⟩ ?_
  refine zw_lstore hX dX7_compareWith_9 (by decide) ?_
  refine zw_aload_n hX dX7_compareWith_11 rfl ?_
  refine zw_aload_n hX dX7_compareWith_12 rfl ?_
  obtain ⟨w5, g, h⟩ := zb_some h
  refine zw_getl hX zl_X7_111 dX7_compareWith_13 g ?_
  refine zw_lload hX dX7_compareWith_16 rfl ?_
  obtain ⟨_, gi, h⟩ := zb_some h
  obtain ⟨r8, g, h⟩ := zb_some h
  refine zc_Vl (as := [.long w5, .long j4]) hX gi (zt_X7_multiply (d := d - 1) (by omega) g) zl_X7_121 rfl dX7_compareWith_18 ⟨rfl, rfl, Nat.le_of_ble_eq_true rfl⟩ ⟨by omega, by omega⟩ ?_
  refine zw_lstore hX dX7_compareWith_21 (by decide) ?_
  refine zw_aload_n hX dX7_compareWith_23 rfl ?_
  obtain ⟨v9, g, h⟩ := zb_some h
  refine zw_geti hX zl_X7_89 dX7_compareWith_24 g ?_
  refine zw_if_eq (tgt := 32) hX dX7_compareWith_27 (by decide) (fun c27 => ?_) (fun c27 => ?_)
  · rw [if_pos c27] at h
    refine zw_iload_n hX dX7_compareWith_32 rfl ?_
    by_cases c33_0 : (i1).toInt = 60
    · rw [if_pos c33_0] at h
      refine zw_lookup (off := 43) (tgt := 76) hX dX7_compareWith_33 (by decide) (by rw [c33_0]; decide) (by decide) ?_
      refine zw_lload hX dX7_compareWith_76 rfl ?_
      refine zw_lload hX dX7_compareWith_78 rfl ?_
      refine zw_lcmp hX dX7_compareWith_80 ?_
      refine zw_if_ge (tgt := 88) hX dX7_compareWith_81 (by decide) (fun c81 => ?_) (fun c81 => ?_)
      · rw [if_pos c81] at h
        refine zw_iconst (v := (0 : Int32)) hX dX7_compareWith_88 (by decide) ?_
        obtain rfl := Option.some.inj h
        exact zw_iret hX hr dX7_compareWith_89 rfl ⟨rfl, rfl⟩
      · rw [if_neg c81] at h
        refine zw_iconst (v := (1 : Int32)) hX dX7_compareWith_84 (by decide) ?_
        refine zw_goto (tgt := 89) hX dX7_compareWith_85 (by decide) ?_
        obtain rfl := Option.some.inj h
        exact zw_iret hX hr dX7_compareWith_89 rfl ⟨rfl, rfl⟩
    rw [if_neg c33_0] at h
    by_cases c33_1 : (i1).toInt = 61
    · rw [if_pos c33_1] at h
      refine zw_lookup (off := 71) (tgt := 104) hX dX7_compareWith_33 (by decide) (by rw [c33_1]; decide) (by decide) ?_
      refine zw_lload hX dX7_compareWith_104 rfl ?_
      refine zw_lload hX dX7_compareWith_106 rfl ?_
      refine zw_lcmp hX dX7_compareWith_108 ?_
      refine zw_if_ne (tgt := 116) hX dX7_compareWith_109 (by decide) (fun c109 => ?_) (fun c109 => ?_)
      · rw [if_neg c109] at h
        refine zw_iconst (v := (0 : Int32)) hX dX7_compareWith_116 (by decide) ?_
        obtain rfl := Option.some.inj h
        exact zw_iret hX hr dX7_compareWith_117 rfl ⟨rfl, rfl⟩
      · rw [if_pos c109] at h
        refine zw_iconst (v := (1 : Int32)) hX dX7_compareWith_112 (by decide) ?_
        refine zw_goto (tgt := 117) hX dX7_compareWith_113 (by decide) ?_
        obtain rfl := Option.some.inj h
        exact zw_iret hX hr dX7_compareWith_117 rfl ⟨rfl, rfl⟩
    rw [if_neg c33_1] at h
    by_cases c33_2 : (i1).toInt = 103
    · rw [if_pos c33_2] at h
      refine zw_lookup (off := 85) (tgt := 118) hX dX7_compareWith_33 (by decide) (by rw [c33_2]; decide) (by decide) ?_
      refine zw_lload hX dX7_compareWith_118 rfl ?_
      refine zw_lload hX dX7_compareWith_120 rfl ?_
      refine zw_lcmp hX dX7_compareWith_122 ?_
      refine zw_if_lt (tgt := 130) hX dX7_compareWith_123 (by decide) (fun c123 => ?_) (fun c123 => ?_)
      · rw [if_pos c123] at h
        refine zw_iconst (v := (0 : Int32)) hX dX7_compareWith_130 (by decide) ?_
        obtain rfl := Option.some.inj h
        exact zw_iret hX hr dX7_compareWith_131 rfl ⟨rfl, rfl⟩
      · rw [if_neg c123] at h
        refine zw_iconst (v := (1 : Int32)) hX dX7_compareWith_126 (by decide) ?_
        refine zw_goto (tgt := 131) hX dX7_compareWith_127 (by decide) ?_
        obtain rfl := Option.some.inj h
        exact zw_iret hX hr dX7_compareWith_131 rfl ⟨rfl, rfl⟩
    rw [if_neg c33_2] at h
    by_cases c33_3 : (i1).toInt = 108
    · rw [if_pos c33_3] at h
      refine zw_lookup (off := 57) (tgt := 90) hX dX7_compareWith_33 (by decide) (by rw [c33_3]; decide) (by decide) ?_
      refine zw_lload hX dX7_compareWith_90 rfl ?_
      refine zw_lload hX dX7_compareWith_92 rfl ?_
      refine zw_lcmp hX dX7_compareWith_94 ?_
      refine zw_if_gt (tgt := 102) hX dX7_compareWith_95 (by decide) (fun c95 => ?_) (fun c95 => ?_)
      · rw [if_pos c95] at h
        refine zw_iconst (v := (0 : Int32)) hX dX7_compareWith_102 (by decide) ?_
        obtain rfl := Option.some.inj h
        exact zw_iret hX hr dX7_compareWith_103 rfl ⟨rfl, rfl⟩
      · rw [if_neg c95] at h
        refine zw_iconst (v := (1 : Int32)) hX dX7_compareWith_98 (by decide) ?_
        refine zw_goto (tgt := 103) hX dX7_compareWith_99 (by decide) ?_
        obtain rfl := Option.some.inj h
        exact zw_iret hX hr dX7_compareWith_103 rfl ⟨rfl, rfl⟩
    rw [if_neg c33_3] at h
    refine zw_lookup (off := 99) (tgt := 132) hX dX7_compareWith_33 (by decide) (by simp [Op.lookupswitch.offset, c33_0, c33_1, c33_2, c33_3]) (by decide) ?_
    refine zw_lload hX dX7_compareWith_132 rfl ?_
    refine zw_lload hX dX7_compareWith_134 rfl ?_
    refine zw_lcmp hX dX7_compareWith_136 ?_
    refine zw_if_le (tgt := 144) hX dX7_compareWith_137 (by decide) (fun c137 => ?_) (fun c137 => ?_)
    · rw [if_pos c137] at h
      refine zw_iconst (v := (0 : Int32)) hX dX7_compareWith_144 (by decide) ?_
      obtain rfl := Option.some.inj h
      exact zw_iret hX hr dX7_compareWith_145 rfl ⟨rfl, rfl⟩
    · rw [if_neg c137] at h
      refine zw_iconst (v := (1 : Int32)) hX dX7_compareWith_140 (by decide) ?_
      refine zw_goto (tgt := 145) hX dX7_compareWith_141 (by decide) ?_
      obtain rfl := Option.some.inj h
      exact zw_iret hX hr dX7_compareWith_145 rfl ⟨rfl, rfl⟩
  · rw [if_neg c27] at h
    refine zw_iconst (v := (0 : Int32)) hX dX7_compareWith_30 (by decide) ?_
    obtain rfl := Option.some.inj h
    exact zw_iret hX hr dX7_compareWith_31 rfl ⟨rfl, rfl⟩
def zf_X7_countBroken_J31 (N : Nat) (k : Nat → Int32 → Int32 → zm_S → Option ((Int32 × zm_S) ⊕ ((Int32) × zm_S))) (a0 : Nat) (i2 : Int32) (t0 : Int32) (t1 : Int32) (S : zm_S) : Option ((Int32 × zm_S) ⊕ ((Int32) × zm_S)) := k a0 (t0 + t1) (i2 + (1 : Int32)) S
set_option maxHeartbeats 4000000 in
set_option maxRecDepth 100000 in
theorem zt_X7_countBroken_J31 {p : Program} {l : Launch} {e : Env} {R : Room} {s : State} {m : MethodId} {args : Array Value} {below : List Frame} {meth : Method} {c : Code} {V : zm_V} {mc ms d rc rs : Nat} (hX : zm_X p R s m args meth c RX7 "countBroken" cX7_countBroken 3 zk_E V mc ms) (hr : meth.sig.returnType = (some .int)) (hR : R.frames = d ∧ R.locals = 64 * d) (hd : 1 ≤ d) {N : Nat} {k : Nat → Int32 → Int32 → zm_S → Option ((Int32 × zm_S) ⊕ ((Int32) × zm_S))} {a0 : Nat} {i2 : Int32} {t0 : Int32} {t1 : Int32} {res : (Int32 × zm_S) ⊕ ((Int32) × zm_S)} {out : (Int32 × zm_S)}   (hf : ∀ o, res = .inl o → o = out) (hk : ∀ (x1 : Int32) (S' : zm_S), res = .inr (x1, S') → zw p l e R s m args below meth c (vx_MQ below (zm_Qc zk_E V (zo_i out)) (zm_XC zk_E V zo_x) args s mc ms (fun q => V.2.2.2.1 ≤ q)) 3 zk_E V mc ms 39 [(1, .int x1)] [] S' rc rs) (hrec : ∀ (i1' : Int32) (i2' : Int32) (S : zm_S), k a0 i1' i2' S = some res → zw p l e R s m args below meth c (vx_MQ below (zm_Qc zk_E V (zo_i out)) (zm_XC zk_E V zo_x) args s mc ms (fun q => V.2.2.2.1 ≤ q)) 3 zk_E V mc ms 4 [(0, .ref a0), (1, .int i1'), (2, .int i2')] [] S rc rs) {S : zm_S} (h : zf_X7_countBroken_J31 N k a0 i2 t0 t1 S = some res) : zw p l e R s m args below meth c (vx_MQ below (zm_Qc zk_E V (zo_i out)) (zm_XC zk_E V zo_x) args s mc ms (fun q => V.2.2.2.1 ≤ q)) 3 zk_E V mc ms 31 [(0, .ref a0), (2, .int i2)] [.int t1, .int t0] S rc rs := by
  unfold zf_X7_countBroken_J31 at h
  refine zw_iadd hX dX7_countBroken_31 ?_
  refine zw_istore_n hX dX7_countBroken_32 (by decide) ?_
  refine zw_iinc (v := (i2 + (1 : Int32))) hX dX7_countBroken_33 rfl rfl (by decide) ?_
  refine zw_goto (tgt := 4) hX dX7_countBroken_36 (by decide) ?_
  refine zw_sub (lv' := [(0, .ref a0), (1, .int (t0 + t1)), (2, .int (i2 + (1 : Int32)))]) (List.forall_mem_cons.mpr ⟨rfl, (List.forall_mem_cons.mpr ⟨rfl, (List.forall_mem_cons.mpr ⟨rfl, zs_nil⟩)⟩)⟩) ?_
  exact hrec _ _ _ h
def zf_X7_countBroken_L4 (N : Nat) : Nat → Nat → Int32 → Int32 → zm_S → Option ((Int32 × zm_S) ⊕ ((Int32) × zm_S))
  | 0, _, _, _, _ => none
  | n + 1, a0, i1, i2, S => (zg_i S a0 7 0).bind (fun v1 => if v1 ≤ i2 then some (.inr (i1, S)) else (zg_r S a0 7 6).bind (fun b2 => (za_r S b2 i2).bind (fun b3 => (za_l S b3 (0 : Int32)).bind (fun w4 => if (lg_cmp w4 (1 : Int64)) = 0 then zf_X7_countBroken_J31 N (zf_X7_countBroken_L4 N n) a0 i2 i1 (1 : Int32) S else zf_X7_countBroken_J31 N (zf_X7_countBroken_L4 N n) a0 i2 i1 (0 : Int32) S))))
set_option maxHeartbeats 4000000 in
set_option maxRecDepth 100000 in
theorem zt_X7_countBroken_L4 {p : Program} {l : Launch} {e : Env} {R : Room} {s : State} {m : MethodId} {args : Array Value} {below : List Frame} {meth : Method} {c : Code} {V : zm_V} {mc ms d rc rs : Nat} (hX : zm_X p R s m args meth c RX7 "countBroken" cX7_countBroken 3 zk_E V mc ms) (hr : meth.sig.returnType = (some .int)) (hR : R.frames = d ∧ R.locals = 64 * d) (hd : 1 ≤ d) {N : Nat} {res : (Int32 × zm_S) ⊕ ((Int32) × zm_S)} {out : (Int32 × zm_S)} (a0 : Nat) (hf : ∀ o, res = .inl o → o = out) (hk : ∀ (x1 : Int32) (S' : zm_S), res = .inr (x1, S') → zw p l e R s m args below meth c (vx_MQ below (zm_Qc zk_E V (zo_i out)) (zm_XC zk_E V zo_x) args s mc ms (fun q => V.2.2.2.1 ≤ q)) 3 zk_E V mc ms 39 [(1, .int x1)] [] S' rc rs) : ∀ (n : Nat) (i1 : Int32) (i2 : Int32) (S : zm_S), zf_X7_countBroken_L4 N n a0 i1 i2 S = some res → zw p l e R s m args below meth c (vx_MQ below (zm_Qc zk_E V (zo_i out)) (zm_XC zk_E V zo_x) args s mc ms (fun q => V.2.2.2.1 ≤ q)) 3 zk_E V mc ms 4 [(0, .ref a0), (1, .int i1), (2, .int i2)] [] S rc rs := by
  intro n
  induction n with
  | zero => intro i1 i2 S h; cases h
  | succ n ih =>
    intro i1 i2 S h
    rw [zf_X7_countBroken_L4] at h
    refine zw_iload_n hX dX7_countBroken_4 rfl ?_
    refine zw_aload_n hX dX7_countBroken_5 rfl ?_
    obtain ⟨v1, g, h⟩ := zb_some h
    refine zw_geti hX zl_X7_55 dX7_countBroken_6 g ?_
    refine zw_icmp_ge (tgt := 39) hX dX7_countBroken_9 (by decide) (fun c9 => ?_) (fun c9 => ?_)
    · rw [if_pos c9] at h
      refine zw_sub (lv' := [(1, .int i1)]) (List.forall_mem_cons.mpr ⟨rfl, zs_nil⟩) ?_
      exact hk _ _ (Option.some.inj h).symm
    · rw [if_neg c9] at h
      refine zw_iload_n hX dX7_countBroken_12 rfl ?_
      refine zw_aload_n hX dX7_countBroken_13 rfl ?_
      obtain ⟨b2, g, h⟩ := zb_some h
      refine zw_getr hX zl_X7_29 dX7_countBroken_14 g ?_
      refine zw_iload_n hX dX7_countBroken_17 rfl ?_
      obtain ⟨b3, g, h⟩ := zb_some h
      refine zw_xr hX dX7_countBroken_18 g ?_
      refine zw_iconst (v := (0 : Int32)) hX dX7_countBroken_19 (by decide) ?_
      obtain ⟨w4, g, h⟩ := zb_some h
      refine zw_xl hX dX7_countBroken_20 g ?_
      refine zw_lconst (v := (1 : Int64)) hX dX7_countBroken_21 (by decide) ?_
      refine zw_lcmp hX dX7_countBroken_22 ?_
      refine zw_if_ne (tgt := 30) hX dX7_countBroken_23 (by decide) (fun c23 => ?_) (fun c23 => ?_)
      · rw [if_neg c23] at h
        refine zw_iconst (v := (0 : Int32)) hX dX7_countBroken_30 (by decide) ?_
        refine zw_sub (lv' := [(0, .ref a0), (2, .int i2)]) (List.forall_mem_cons.mpr ⟨rfl, (List.forall_mem_cons.mpr ⟨rfl, zs_nil⟩)⟩) ?_
        exact zt_X7_countBroken_J31 hX hr hR hd hf hk ih h
      · rw [if_pos c23] at h
        refine zw_iconst (v := (1 : Int32)) hX dX7_countBroken_26 (by decide) ?_
        refine zw_goto (tgt := 31) hX dX7_countBroken_27 (by decide) ?_
        refine zw_sub (lv' := [(0, .ref a0), (2, .int i2)]) (List.forall_mem_cons.mpr ⟨rfl, (List.forall_mem_cons.mpr ⟨rfl, zs_nil⟩)⟩) ?_
        exact zt_X7_countBroken_J31 hX hr hR hd hf hk ih h
def zf_X7_countBroken (N : Nat) (a0 : Nat) (S : zm_S) : Option (Int32 × zm_S) := (zf_X7_countBroken_L4 N N a0 (0 : Int32) (0 : Int32) S).bind (fun r => match r with | .inl o => some o | .inr (v6, S5) => some (v6, S5))
set_option maxHeartbeats 4000000 in
set_option maxRecDepth 100000 in
theorem zt_X7_countBroken {l : Launch} {V : zm_V} {N : Nat} {S : zm_S} {out : (Int32 × zm_S)} {d : Nat} {a0 : Nat} (hd : 1 ≤ d) (h : zf_X7_countBroken N a0 S = some out) : zm_Met l zk_E V yX7_countBroken (.code yX7_countBroken cX7_countBroken 3 (some .int)) d [.ref a0] S 0 0 (zo_i out) zo_x := by
  refine zm_of (by decide +kernel) (Nat.le_of_ble_eq_true rfl) ?_
  intro p e R s m args below meth c hRR hX hr hxt
  have hR : R.frames = d ∧ R.locals = 64 * d := by rw [hRR]; exact ⟨rfl, rfl⟩
  have hX : zm_X p R s m args meth c RX7 "countBroken" cX7_countBroken 3 zk_E V 0 0 := hX
  unfold zf_X7_countBroken at h
  refine zw_sub (lv' := [(0, .ref a0)]) (List.forall_mem_cons.mpr ⟨rfl, zs_nil⟩) ?_
  refine zw_iconst (v := (0 : Int32)) hX dX7_countBroken_0 (by decide) ?_
  refine zw_istore_n hX dX7_countBroken_1 (by decide) ?_
  refine zw_iconst (v := (0 : Int32)) hX dX7_countBroken_2 (by decide) ?_
  refine zw_istore_n hX dX7_countBroken_3 (by decide) ?_
  obtain ⟨r, g, h⟩ := zb_some h
  refine zw_sub (lv' := [(0, .ref a0), (1, .int (0 : Int32)), (2, .int (0 : Int32))]) (List.forall_mem_cons.mpr ⟨rfl, (List.forall_mem_cons.mpr ⟨rfl, (List.forall_mem_cons.mpr ⟨rfl, zs_nil⟩)⟩)⟩) ?_
  refine zt_X7_countBroken_L4 hX hr hR hd (res := r) (out := out) a0 ?_ ?_ N _ _ _ g
  · intro o ho
    subst ho
    exact Option.some.inj h
  · intro v6 S5 hx
    subst hx
    try dsimp only at h
    refine zw_iload_n hX dX7_countBroken_39 rfl ?_
    obtain rfl := Option.some.inj h
    exact zw_iret hX hr dX7_countBroken_40 rfl ⟨rfl, rfl⟩
def zf_X7_firstRefusing_L2 (N : Nat) : Nat → Nat → Int32 → zm_S → Option ((Int32 × zm_S) ⊕ ((Unit) × zm_S))
  | 0, _, _, _ => none
  | n + 1, a0, i1, S => (zg_i S a0 7 0).bind (fun v1 => if v1 ≤ i1 then some (.inr ((), S)) else (zg_r S a0 7 6).bind (fun b2 => (za_r S b2 i1).bind (fun b3 => (za_l S b3 (0 : Int32)).bind (fun w4 => if (lg_cmp w4 (1 : Int64)) = 0 then some (.inl (i1, S)) else (zg_r S a0 7 6).bind (fun b5 => (za_r S b5 i1).bind (fun b6 => (za_l S b6 (0 : Int32)).bind (fun w7 => if (lg_cmp w7 (3 : Int64)) = 0 then some (.inl (i1, S)) else zf_X7_firstRefusing_L2 N n a0 (i1 + (1 : Int32)) S)))))))
set_option maxHeartbeats 4000000 in
set_option maxRecDepth 100000 in
theorem zt_X7_firstRefusing_L2 {p : Program} {l : Launch} {e : Env} {R : Room} {s : State} {m : MethodId} {args : Array Value} {below : List Frame} {meth : Method} {c : Code} {V : zm_V} {mc ms d rc rs : Nat} (hX : zm_X p R s m args meth c RX7 "firstRefusing" cX7_firstRefusing 2 zk_E V mc ms) (hr : meth.sig.returnType = (some .int)) (hR : R.frames = d ∧ R.locals = 64 * d) (hd : 1 ≤ d) {N : Nat} {res : (Int32 × zm_S) ⊕ ((Unit) × zm_S)} {out : (Int32 × zm_S)} (a0 : Nat) (hf : ∀ o, res = .inl o → o = out) (hk : ∀ (S' : zm_S), res = .inr ((), S') → zw p l e R s m args below meth c (vx_MQ below (zm_Qc zk_E V (zo_i out)) (zm_XC zk_E V zo_x) args s mc ms (fun q => V.2.2.2.1 ≤ q)) 2 zk_E V mc ms 46 [] [] S' rc rs) : ∀ (n : Nat) (i1 : Int32) (S : zm_S), zf_X7_firstRefusing_L2 N n a0 i1 S = some res → zw p l e R s m args below meth c (vx_MQ below (zm_Qc zk_E V (zo_i out)) (zm_XC zk_E V zo_x) args s mc ms (fun q => V.2.2.2.1 ≤ q)) 2 zk_E V mc ms 2 [(0, .ref a0), (1, .int i1)] [] S rc rs := by
  intro n
  induction n with
  | zero => intro i1 S h; cases h
  | succ n ih =>
    intro i1 S h
    rw [zf_X7_firstRefusing_L2] at h
    refine zw_iload_n hX dX7_firstRefusing_2 rfl ?_
    refine zw_aload_n hX dX7_firstRefusing_3 rfl ?_
    obtain ⟨v1, g, h⟩ := zb_some h
    refine zw_geti hX zl_X7_55 dX7_firstRefusing_4 g ?_
    refine zw_icmp_ge (tgt := 46) hX dX7_firstRefusing_7 (by decide) (fun c7 => ?_) (fun c7 => ?_)
    · rw [if_pos c7] at h
      refine zw_sub (lv' := []) zs_nil ?_
      exact hk  _ (Option.some.inj h).symm
    · rw [if_neg c7] at h
      refine zw_aload_n hX dX7_firstRefusing_10 rfl ?_
      obtain ⟨b2, g, h⟩ := zb_some h
      refine zw_getr hX zl_X7_29 dX7_firstRefusing_11 g ?_
      refine zw_iload_n hX dX7_firstRefusing_14 rfl ?_
      obtain ⟨b3, g, h⟩ := zb_some h
      refine zw_xr hX dX7_firstRefusing_15 g ?_
      refine zw_iconst (v := (0 : Int32)) hX dX7_firstRefusing_16 (by decide) ?_
      obtain ⟨w4, g, h⟩ := zb_some h
      refine zw_xl hX dX7_firstRefusing_17 g ?_
      refine zw_lconst (v := (1 : Int64)) hX dX7_firstRefusing_18 (by decide) ?_
      refine zw_lcmp hX dX7_firstRefusing_19 ?_
      refine zw_if_eq (tgt := 38) hX dX7_firstRefusing_20 (by decide) (fun c20 => ?_) (fun c20 => ?_)
      · rw [if_pos c20] at h
        refine zw_iload_n hX dX7_firstRefusing_38 rfl ?_
        have hz := hf _ (Option.some.inj h).symm
        subst hz
        exact zw_iret hX hr dX7_firstRefusing_39 rfl ⟨rfl, rfl⟩
      · rw [if_neg c20] at h
        refine zw_aload_n hX dX7_firstRefusing_23 rfl ?_
        obtain ⟨b5, g, h⟩ := zb_some h
        refine zw_getr hX zl_X7_29 dX7_firstRefusing_24 g ?_
        refine zw_iload_n hX dX7_firstRefusing_27 rfl ?_
        obtain ⟨b6, g, h⟩ := zb_some h
        refine zw_xr hX dX7_firstRefusing_28 g ?_
        refine zw_iconst (v := (0 : Int32)) hX dX7_firstRefusing_29 (by decide) ?_
        obtain ⟨w7, g, h⟩ := zb_some h
        refine zw_xl hX dX7_firstRefusing_30 g ?_
        refine zw_ldc2 (v := (3 : Int64)) hX dX7_firstRefusing_31 zl_X7_79 ?_
        refine zw_lcmp hX dX7_firstRefusing_34 ?_
        refine zw_if_ne (tgt := 40) hX dX7_firstRefusing_35 (by decide) (fun c35 => ?_) (fun c35 => ?_)
        · rw [if_neg c35] at h
          refine zw_iinc (v := (i1 + (1 : Int32))) hX dX7_firstRefusing_40 rfl rfl (by decide) ?_
          refine zw_goto (tgt := 2) hX dX7_firstRefusing_43 (by decide) ?_
          refine zw_sub (lv' := [(0, .ref a0), (1, .int (i1 + (1 : Int32)))]) (List.forall_mem_cons.mpr ⟨rfl, (List.forall_mem_cons.mpr ⟨rfl, zs_nil⟩)⟩) ?_
          exact ih _ _ h
        · rw [if_pos c35] at h
          refine zw_iload_n hX dX7_firstRefusing_38 rfl ?_
          have hz := hf _ (Option.some.inj h).symm
          subst hz
          exact zw_iret hX hr dX7_firstRefusing_39 rfl ⟨rfl, rfl⟩
def zf_X7_firstRefusing (N : Nat) (a0 : Nat) (S : zm_S) : Option (Int32 × zm_S) := (zf_X7_firstRefusing_L2 N N a0 (0 : Int32) S).bind (fun r => match r with | .inl o => some o | .inr (_, S8) => some ((-1 : Int32), S8))
set_option maxHeartbeats 4000000 in
set_option maxRecDepth 100000 in
theorem zt_X7_firstRefusing {l : Launch} {V : zm_V} {N : Nat} {S : zm_S} {out : (Int32 × zm_S)} {d : Nat} {a0 : Nat} (hd : 1 ≤ d) (h : zf_X7_firstRefusing N a0 S = some out) : zm_Met l zk_E V yX7_firstRefusing (.code yX7_firstRefusing cX7_firstRefusing 2 (some .int)) d [.ref a0] S 0 0 (zo_i out) zo_x := by
  refine zm_of (by decide +kernel) (Nat.le_of_ble_eq_true rfl) ?_
  intro p e R s m args below meth c hRR hX hr hxt
  have hR : R.frames = d ∧ R.locals = 64 * d := by rw [hRR]; exact ⟨rfl, rfl⟩
  have hX : zm_X p R s m args meth c RX7 "firstRefusing" cX7_firstRefusing 2 zk_E V 0 0 := hX
  unfold zf_X7_firstRefusing at h
  refine zw_sub (lv' := [(0, .ref a0)]) (List.forall_mem_cons.mpr ⟨rfl, zs_nil⟩) ?_
  refine zw_iconst (v := (0 : Int32)) hX dX7_firstRefusing_0 (by decide) ?_
  refine zw_istore_n hX dX7_firstRefusing_1 (by decide) ?_
  obtain ⟨r, g, h⟩ := zb_some h
  refine zw_sub (lv' := [(0, .ref a0), (1, .int (0 : Int32))]) (List.forall_mem_cons.mpr ⟨rfl, (List.forall_mem_cons.mpr ⟨rfl, zs_nil⟩)⟩) ?_
  refine zt_X7_firstRefusing_L2 hX hr hR hd (res := r) (out := out) a0 ?_ ?_ N _ _ g
  · intro o ho
    subst ho
    exact Option.some.inj h
  · intro  S8 hx
    subst hx
    try dsimp only at h
    refine zw_iconst (v := (-1 : Int32)) hX dX7_firstRefusing_46 (by decide) ?_
    obtain rfl := Option.some.inj h
    exact zw_iret hX hr dX7_firstRefusing_47 rfl ⟨rfl, rfl⟩
def zf_X7_answerOf (N : Nat) (a0 : Nat) (i1 : Int32) (i2 : Int32) (S : zm_S) : Option (Int64 × zm_S) := (zg_r S a0 7 6).bind (fun b1 => (za_r S b1 i1).bind (fun b2 => (za_l S b2 i2).bind (fun w3 => some (w3, S))))
set_option maxHeartbeats 4000000 in
set_option maxRecDepth 100000 in
theorem zt_X7_answerOf {l : Launch} {V : zm_V} {N : Nat} {S : zm_S} {out : (Int64 × zm_S)} {d : Nat} {a0 : Nat} {i1 : Int32} {i2 : Int32} (hd : 1 ≤ d) (h : zf_X7_answerOf N a0 i1 i2 S = some out) : zm_Met l zk_E V yX7_answerOf (.code yX7_answerOf cX7_answerOf 3 (some .long)) d [.ref a0, .int i1, .int i2] S 0 0 (zo_l out) zo_x := by
  refine zm_of (by decide +kernel) (Nat.le_of_ble_eq_true rfl) ?_
  intro p e R s m args below meth c hRR hX hr hxt
  have hR : R.frames = d ∧ R.locals = 64 * d := by rw [hRR]; exact ⟨rfl, rfl⟩
  have hX : zm_X p R s m args meth c RX7 "answerOf" cX7_answerOf 3 zk_E V 0 0 := hX
  unfold zf_X7_answerOf at h
  refine zw_sub (lv' := [(0, .ref a0), (1, .int i1), (2, .int i2)]) (List.forall_mem_cons.mpr ⟨rfl, (List.forall_mem_cons.mpr ⟨rfl, (List.forall_mem_cons.mpr ⟨rfl, zs_nil⟩)⟩)⟩) ?_
  refine zw_aload_n hX dX7_answerOf_0 rfl ?_
  obtain ⟨b1, g, h⟩ := zb_some h
  refine zw_getr hX zl_X7_29 dX7_answerOf_1 g ?_
  refine zw_iload_n hX dX7_answerOf_4 rfl ?_
  obtain ⟨b2, g, h⟩ := zb_some h
  refine zw_xr hX dX7_answerOf_5 g ?_
  refine zw_iload_n hX dX7_answerOf_6 rfl ?_
  obtain ⟨w3, g, h⟩ := zb_some h
  refine zw_xl hX dX7_answerOf_7 g ?_
  obtain rfl := Option.some.inj h
  exact zw_lret hX hr dX7_answerOf_8 ⟨rfl, rfl⟩
def zf_X8_liesAlong_J118 (N : Nat) (k : Nat → Int32 → Int32 → Int32 → Int32 → Int32 → Int32 → zm_S → Option ((Int32 × zm_S) ⊕ ((Unit) × zm_S))) (a0 : Nat) (i1 : Int32) (i2 : Int32) (i3 : Int32) (i4 : Int32) (i5 : Int32) (i6 : Int32) (a7 : Nat) (i9 : Int32) (S : zm_S) : Option ((Int32 × zm_S) ⊕ ((Unit) × zm_S)) := if i6 = i1 then k a0 i1 i2 i3 i4 i5 (i6 + (1 : Int32)) S else if i9 = 0 then k a0 i1 i2 i3 i4 i5 (i6 + (1 : Int32)) S else (za_x S 0 a7 (1 : Int32)).bind (fun v4 => (zf_J9_max_7cf53 N i3 v4 S).bind (fun r7 => (za_x r7.2 0 a7 (3 : Int32)).bind (fun v8 => (zf_J9_min_7cf53 N i5 v8 r7.2).bind (fun r11 => if r11.1 ≤ r7.1 then k a0 i1 i2 i3 i4 i5 (i6 + (1 : Int32)) r11.2 else some (.inl ((1 : Int32), r11.2))))))
set_option maxHeartbeats 4000000 in
set_option maxRecDepth 100000 in
theorem zt_X8_liesAlong_J118 {p : Program} {l : Launch} {e : Env} {R : Room} {s : State} {m : MethodId} {args : Array Value} {below : List Frame} {meth : Method} {c : Code} {V : zm_V} {mc ms d rc rs : Nat} (hX : zm_X p R s m args meth c RX8 "liesAlong" cX8_liesAlong 10 zk_E V mc ms) (hr : meth.sig.returnType = (some .boolean)) (hR : R.frames = d ∧ R.locals = 64 * d) (hd : 2 ≤ d) {N : Nat} {k : Nat → Int32 → Int32 → Int32 → Int32 → Int32 → Int32 → zm_S → Option ((Int32 × zm_S) ⊕ ((Unit) × zm_S))} {a0 : Nat} {i1 : Int32} {i2 : Int32} {i3 : Int32} {i4 : Int32} {i5 : Int32} {i6 : Int32} {a7 : Nat} {i9 : Int32} {res : (Int32 × zm_S) ⊕ ((Unit) × zm_S)} {out : (Int32 × zm_S)}   (hf : ∀ o, res = .inl o → o = out) (hk : ∀ (S' : zm_S), res = .inr ((), S') → zw p l e R s m args below meth c (vx_MQ below (zm_Qc zk_E V (zo_i out)) (zm_XC zk_E V zo_x) args s mc ms (fun q => V.2.2.2.1 ≤ q)) 10 zk_E V mc ms 157 [] [] S' rc rs) (hrec : ∀ (i6' : Int32) (S : zm_S), k a0 i1 i2 i3 i4 i5 i6' S = some res → zw p l e R s m args below meth c (vx_MQ below (zm_Qc zk_E V (zo_i out)) (zm_XC zk_E V zo_x) args s mc ms (fun q => V.2.2.2.1 ≤ q)) 10 zk_E V mc ms 3 [(0, .ref a0), (1, .int i1), (2, .int i2), (3, .int i3), (4, .int i4), (5, .int i5), (6, .int i6')] [] S rc rs) {S : zm_S} (h : zf_X8_liesAlong_J118 N k a0 i1 i2 i3 i4 i5 i6 a7 i9 S = some res) : zw p l e R s m args below meth c (vx_MQ below (zm_Qc zk_E V (zo_i out)) (zm_XC zk_E V zo_x) args s mc ms (fun q => V.2.2.2.1 ≤ q)) 10 zk_E V mc ms 118 [(0, .ref a0), (1, .int i1), (2, .int i2), (3, .int i3), (4, .int i4), (5, .int i5), (6, .int i6), (7, .ref a7), (9, .int i9)] [] S rc rs := by
  unfold zf_X8_liesAlong_J118 at h
  refine zw_iload hX dX8_liesAlong_118 rfl ?_
  refine zw_iload_n hX dX8_liesAlong_120 rfl ?_
  refine zw_icmp_eq (tgt := 151) hX dX8_liesAlong_121 (by decide) (fun c121 => ?_) (fun c121 => ?_)
  · rw [if_pos c121] at h
    refine zw_iinc (v := (i6 + (1 : Int32))) hX dX8_liesAlong_151 rfl rfl (by decide) ?_
    refine zw_goto (tgt := 3) hX dX8_liesAlong_154 (by decide) ?_
    refine zw_sub (lv' := [(0, .ref a0), (1, .int i1), (2, .int i2), (3, .int i3), (4, .int i4), (5, .int i5), (6, .int (i6 + (1 : Int32)))]) (List.forall_mem_cons.mpr ⟨rfl, (List.forall_mem_cons.mpr ⟨rfl, (List.forall_mem_cons.mpr ⟨rfl, (List.forall_mem_cons.mpr ⟨rfl, (List.forall_mem_cons.mpr ⟨rfl, (List.forall_mem_cons.mpr ⟨rfl, (List.forall_mem_cons.mpr ⟨rfl, zs_nil⟩)⟩)⟩)⟩)⟩)⟩)⟩) ?_
    exact hrec _ _ h
  · rw [if_neg c121] at h
    refine zw_iload hX dX8_liesAlong_124 rfl ?_
    refine zw_if_eq (tgt := 151) hX dX8_liesAlong_126 (by decide) (fun c126 => ?_) (fun c126 => ?_)
    · rw [if_pos c126] at h
      refine zw_iinc (v := (i6 + (1 : Int32))) hX dX8_liesAlong_151 rfl rfl (by decide) ?_
      refine zw_goto (tgt := 3) hX dX8_liesAlong_154 (by decide) ?_
      refine zw_sub (lv' := [(0, .ref a0), (1, .int i1), (2, .int i2), (3, .int i3), (4, .int i4), (5, .int i5), (6, .int (i6 + (1 : Int32)))]) (List.forall_mem_cons.mpr ⟨rfl, (List.forall_mem_cons.mpr ⟨rfl, (List.forall_mem_cons.mpr ⟨rfl, (List.forall_mem_cons.mpr ⟨rfl, (List.forall_mem_cons.mpr ⟨rfl, (List.forall_mem_cons.mpr ⟨rfl, (List.forall_mem_cons.mpr ⟨rfl, zs_nil⟩)⟩)⟩)⟩)⟩)⟩)⟩) ?_
      exact hrec _ _ h
    · rw [if_neg c126] at h
      refine zw_iload_n hX dX8_liesAlong_129 rfl ?_
      refine zw_aload hX dX8_liesAlong_130 rfl ?_
      refine zw_iconst (v := (1 : Int32)) hX dX8_liesAlong_132 (by decide) ?_
      obtain ⟨v4, g, h⟩ := zb_some h
      refine zw_xi hX dX8_liesAlong_133 g ?_
      obtain ⟨r7, g, h⟩ := zb_some h
      refine zc_Si (as := [.int i3, .int v4]) hX (zt_J9_max_7cf53 (d := d - 1) (by omega) g) zl_X8_29 dX8_liesAlong_134 ⟨rfl, rfl, Nat.le_of_ble_eq_true rfl⟩ ⟨by omega, by omega⟩ ?_
      refine zw_iload hX dX8_liesAlong_137 rfl ?_
      refine zw_aload hX dX8_liesAlong_139 rfl ?_
      refine zw_iconst (v := (3 : Int32)) hX dX8_liesAlong_141 (by decide) ?_
      obtain ⟨v8, g, h⟩ := zb_some h
      refine zw_xi hX dX8_liesAlong_142 g ?_
      obtain ⟨r11, g, h⟩ := zb_some h
      refine zc_Si (as := [.int i5, .int v8]) hX (zt_J9_min_7cf53 (d := d - 1) (by omega) g) zl_X8_23 dX8_liesAlong_143 ⟨rfl, rfl, Nat.le_of_ble_eq_true rfl⟩ ⟨by omega, by omega⟩ ?_
      refine zw_icmp_ge (tgt := 151) hX dX8_liesAlong_146 (by decide) (fun c146 => ?_) (fun c146 => ?_)
      · rw [if_pos c146] at h
        refine zw_iinc (v := (i6 + (1 : Int32))) hX dX8_liesAlong_151 rfl rfl (by decide) ?_
        refine zw_goto (tgt := 3) hX dX8_liesAlong_154 (by decide) ?_
        refine zw_sub (lv' := [(0, .ref a0), (1, .int i1), (2, .int i2), (3, .int i3), (4, .int i4), (5, .int i5), (6, .int (i6 + (1 : Int32)))]) (List.forall_mem_cons.mpr ⟨rfl, (List.forall_mem_cons.mpr ⟨rfl, (List.forall_mem_cons.mpr ⟨rfl, (List.forall_mem_cons.mpr ⟨rfl, (List.forall_mem_cons.mpr ⟨rfl, (List.forall_mem_cons.mpr ⟨rfl, (List.forall_mem_cons.mpr ⟨rfl, zs_nil⟩)⟩)⟩)⟩)⟩)⟩)⟩) ?_
        exact hrec _ _ h
      · rw [if_neg c146] at h
        refine zw_iconst (v := (1 : Int32)) hX dX8_liesAlong_149 (by decide) ?_
        have hz := hf _ (Option.some.inj h).symm
        subst hz
        exact zw_iret hX hr dX8_liesAlong_150 rfl ⟨rfl, rfl⟩
def zf_X8_liesAlong_J83 (N : Nat) (k : Nat → Int32 → Int32 → Int32 → Int32 → Int32 → Int32 → zm_S → Option ((Int32 × zm_S) ⊕ ((Unit) × zm_S))) (a0 : Nat) (i1 : Int32) (i2 : Int32) (i3 : Int32) (i4 : Int32) (i5 : Int32) (i6 : Int32) (a7 : Nat) (i8 : Int32) (t0 : Int32) (S : zm_S) : Option ((Int32 × zm_S) ⊕ ((Unit) × zm_S)) := if i6 = i1 then zf_X8_liesAlong_J118 N (k) a0 i1 i2 i3 i4 i5 i6 a7 t0 S else if i8 = 0 then zf_X8_liesAlong_J118 N (k) a0 i1 i2 i3 i4 i5 i6 a7 t0 S else (za_x S 0 a7 (0 : Int32)).bind (fun v12 => (zf_J9_max_7cf53 N i2 v12 S).bind (fun r15 => (za_x r15.2 0 a7 (2 : Int32)).bind (fun v16 => (zf_J9_min_7cf53 N i4 v16 r15.2).bind (fun r19 => if r19.1 ≤ r15.1 then zf_X8_liesAlong_J118 N (k) a0 i1 i2 i3 i4 i5 i6 a7 t0 r19.2 else some (.inl ((1 : Int32), r19.2))))))
set_option maxHeartbeats 4000000 in
set_option maxRecDepth 100000 in
theorem zt_X8_liesAlong_J83 {p : Program} {l : Launch} {e : Env} {R : Room} {s : State} {m : MethodId} {args : Array Value} {below : List Frame} {meth : Method} {c : Code} {V : zm_V} {mc ms d rc rs : Nat} (hX : zm_X p R s m args meth c RX8 "liesAlong" cX8_liesAlong 10 zk_E V mc ms) (hr : meth.sig.returnType = (some .boolean)) (hR : R.frames = d ∧ R.locals = 64 * d) (hd : 2 ≤ d) {N : Nat} {k : Nat → Int32 → Int32 → Int32 → Int32 → Int32 → Int32 → zm_S → Option ((Int32 × zm_S) ⊕ ((Unit) × zm_S))} {a0 : Nat} {i1 : Int32} {i2 : Int32} {i3 : Int32} {i4 : Int32} {i5 : Int32} {i6 : Int32} {a7 : Nat} {i8 : Int32} {t0 : Int32} {res : (Int32 × zm_S) ⊕ ((Unit) × zm_S)} {out : (Int32 × zm_S)}   (hf : ∀ o, res = .inl o → o = out) (hk : ∀ (S' : zm_S), res = .inr ((), S') → zw p l e R s m args below meth c (vx_MQ below (zm_Qc zk_E V (zo_i out)) (zm_XC zk_E V zo_x) args s mc ms (fun q => V.2.2.2.1 ≤ q)) 10 zk_E V mc ms 157 [] [] S' rc rs) (hrec : ∀ (i6' : Int32) (S : zm_S), k a0 i1 i2 i3 i4 i5 i6' S = some res → zw p l e R s m args below meth c (vx_MQ below (zm_Qc zk_E V (zo_i out)) (zm_XC zk_E V zo_x) args s mc ms (fun q => V.2.2.2.1 ≤ q)) 10 zk_E V mc ms 3 [(0, .ref a0), (1, .int i1), (2, .int i2), (3, .int i3), (4, .int i4), (5, .int i5), (6, .int i6')] [] S rc rs) {S : zm_S} (h : zf_X8_liesAlong_J83 N k a0 i1 i2 i3 i4 i5 i6 a7 i8 t0 S = some res) : zw p l e R s m args below meth c (vx_MQ below (zm_Qc zk_E V (zo_i out)) (zm_XC zk_E V zo_x) args s mc ms (fun q => V.2.2.2.1 ≤ q)) 10 zk_E V mc ms 83 [(0, .ref a0), (1, .int i1), (2, .int i2), (3, .int i3), (4, .int i4), (5, .int i5), (6, .int i6), (7, .ref a7), (8, .int i8)] [.int t0] S rc rs := by
  unfold zf_X8_liesAlong_J83 at h
  refine zw_istore hX dX8_liesAlong_83 (by decide) ?_
  refine zw_iload hX dX8_liesAlong_85 rfl ?_
  refine zw_iload_n hX dX8_liesAlong_87 rfl ?_
  refine zw_icmp_eq (tgt := 118) hX dX8_liesAlong_88 (by decide) (fun c88 => ?_) (fun c88 => ?_)
  · rw [if_pos c88] at h
    refine zw_sub (lv' := [(0, .ref a0), (1, .int i1), (2, .int i2), (3, .int i3), (4, .int i4), (5, .int i5), (6, .int i6), (7, .ref a7), (9, .int t0)]) (List.forall_mem_cons.mpr ⟨rfl, (List.forall_mem_cons.mpr ⟨rfl, (List.forall_mem_cons.mpr ⟨rfl, (List.forall_mem_cons.mpr ⟨rfl, (List.forall_mem_cons.mpr ⟨rfl, (List.forall_mem_cons.mpr ⟨rfl, (List.forall_mem_cons.mpr ⟨rfl, (List.forall_mem_cons.mpr ⟨rfl, (List.forall_mem_cons.mpr ⟨rfl, zs_nil⟩)⟩)⟩)⟩)⟩)⟩)⟩)⟩)⟩) ?_
    exact zt_X8_liesAlong_J118 hX hr hR hd hf hk hrec h
  · rw [if_neg c88] at h
    refine zw_iload hX dX8_liesAlong_91 rfl ?_
    refine zw_if_eq (tgt := 118) hX dX8_liesAlong_93 (by decide) (fun c93 => ?_) (fun c93 => ?_)
    · rw [if_pos c93] at h
      refine zw_sub (lv' := [(0, .ref a0), (1, .int i1), (2, .int i2), (3, .int i3), (4, .int i4), (5, .int i5), (6, .int i6), (7, .ref a7), (9, .int t0)]) (List.forall_mem_cons.mpr ⟨rfl, (List.forall_mem_cons.mpr ⟨rfl, (List.forall_mem_cons.mpr ⟨rfl, (List.forall_mem_cons.mpr ⟨rfl, (List.forall_mem_cons.mpr ⟨rfl, (List.forall_mem_cons.mpr ⟨rfl, (List.forall_mem_cons.mpr ⟨rfl, (List.forall_mem_cons.mpr ⟨rfl, (List.forall_mem_cons.mpr ⟨rfl, zs_nil⟩)⟩)⟩)⟩)⟩)⟩)⟩)⟩)⟩) ?_
      exact zt_X8_liesAlong_J118 hX hr hR hd hf hk hrec h
    · rw [if_neg c93] at h
      refine zw_iload_n hX dX8_liesAlong_96 rfl ?_
      refine zw_aload hX dX8_liesAlong_97 rfl ?_
      refine zw_iconst (v := (0 : Int32)) hX dX8_liesAlong_99 (by decide) ?_
      obtain ⟨v12, g, h⟩ := zb_some h
      refine zw_xi hX dX8_liesAlong_100 g ?_
      obtain ⟨r15, g, h⟩ := zb_some h
      refine zc_Si (as := [.int i2, .int v12]) hX (zt_J9_max_7cf53 (d := d - 1) (by omega) g) zl_X8_29 dX8_liesAlong_101 ⟨rfl, rfl, Nat.le_of_ble_eq_true rfl⟩ ⟨by omega, by omega⟩ ?_
      refine zw_iload hX dX8_liesAlong_104 rfl ?_
      refine zw_aload hX dX8_liesAlong_106 rfl ?_
      refine zw_iconst (v := (2 : Int32)) hX dX8_liesAlong_108 (by decide) ?_
      obtain ⟨v16, g, h⟩ := zb_some h
      refine zw_xi hX dX8_liesAlong_109 g ?_
      obtain ⟨r19, g, h⟩ := zb_some h
      refine zc_Si (as := [.int i4, .int v16]) hX (zt_J9_min_7cf53 (d := d - 1) (by omega) g) zl_X8_23 dX8_liesAlong_110 ⟨rfl, rfl, Nat.le_of_ble_eq_true rfl⟩ ⟨by omega, by omega⟩ ?_
      refine zw_icmp_ge (tgt := 118) hX dX8_liesAlong_113 (by decide) (fun c113 => ?_) (fun c113 => ?_)
      · rw [if_pos c113] at h
        refine zw_sub (lv' := [(0, .ref a0), (1, .int i1), (2, .int i2), (3, .int i3), (4, .int i4), (5, .int i5), (6, .int i6), (7, .ref a7), (9, .int t0)]) (List.forall_mem_cons.mpr ⟨rfl, (List.forall_mem_cons.mpr ⟨rfl, (List.forall_mem_cons.mpr ⟨rfl, (List.forall_mem_cons.mpr ⟨rfl, (List.forall_mem_cons.mpr ⟨rfl, (List.forall_mem_cons.mpr ⟨rfl, (List.forall_mem_cons.mpr ⟨rfl, (List.forall_mem_cons.mpr ⟨rfl, (List.forall_mem_cons.mpr ⟨rfl, zs_nil⟩)⟩)⟩)⟩)⟩)⟩)⟩)⟩)⟩) ?_
        exact zt_X8_liesAlong_J118 hX hr hR hd hf hk hrec h
      · rw [if_neg c113] at h
        refine zw_iconst (v := (1 : Int32)) hX dX8_liesAlong_116 (by decide) ?_
        have hz := hf _ (Option.some.inj h).symm
        subst hz
        exact zw_iret hX hr dX8_liesAlong_117 rfl ⟨rfl, rfl⟩
def zf_X8_liesAlong_J82 (N : Nat) (k : Nat → Int32 → Int32 → Int32 → Int32 → Int32 → Int32 → zm_S → Option ((Int32 × zm_S) ⊕ ((Unit) × zm_S))) (a0 : Nat) (i1 : Int32) (i2 : Int32) (i3 : Int32) (i4 : Int32) (i5 : Int32) (i6 : Int32) (a7 : Nat) (i8 : Int32) (S : zm_S) : Option ((Int32 × zm_S) ⊕ ((Unit) × zm_S)) := zf_X8_liesAlong_J83 N (k) a0 i1 i2 i3 i4 i5 i6 a7 i8 (0 : Int32) S
set_option maxHeartbeats 4000000 in
set_option maxRecDepth 100000 in
theorem zt_X8_liesAlong_J82 {p : Program} {l : Launch} {e : Env} {R : Room} {s : State} {m : MethodId} {args : Array Value} {below : List Frame} {meth : Method} {c : Code} {V : zm_V} {mc ms d rc rs : Nat} (hX : zm_X p R s m args meth c RX8 "liesAlong" cX8_liesAlong 10 zk_E V mc ms) (hr : meth.sig.returnType = (some .boolean)) (hR : R.frames = d ∧ R.locals = 64 * d) (hd : 2 ≤ d) {N : Nat} {k : Nat → Int32 → Int32 → Int32 → Int32 → Int32 → Int32 → zm_S → Option ((Int32 × zm_S) ⊕ ((Unit) × zm_S))} {a0 : Nat} {i1 : Int32} {i2 : Int32} {i3 : Int32} {i4 : Int32} {i5 : Int32} {i6 : Int32} {a7 : Nat} {i8 : Int32} {res : (Int32 × zm_S) ⊕ ((Unit) × zm_S)} {out : (Int32 × zm_S)}   (hf : ∀ o, res = .inl o → o = out) (hk : ∀ (S' : zm_S), res = .inr ((), S') → zw p l e R s m args below meth c (vx_MQ below (zm_Qc zk_E V (zo_i out)) (zm_XC zk_E V zo_x) args s mc ms (fun q => V.2.2.2.1 ≤ q)) 10 zk_E V mc ms 157 [] [] S' rc rs) (hrec : ∀ (i6' : Int32) (S : zm_S), k a0 i1 i2 i3 i4 i5 i6' S = some res → zw p l e R s m args below meth c (vx_MQ below (zm_Qc zk_E V (zo_i out)) (zm_XC zk_E V zo_x) args s mc ms (fun q => V.2.2.2.1 ≤ q)) 10 zk_E V mc ms 3 [(0, .ref a0), (1, .int i1), (2, .int i2), (3, .int i3), (4, .int i4), (5, .int i5), (6, .int i6')] [] S rc rs) {S : zm_S} (h : zf_X8_liesAlong_J82 N k a0 i1 i2 i3 i4 i5 i6 a7 i8 S = some res) : zw p l e R s m args below meth c (vx_MQ below (zm_Qc zk_E V (zo_i out)) (zm_XC zk_E V zo_x) args s mc ms (fun q => V.2.2.2.1 ≤ q)) 10 zk_E V mc ms 82 [(0, .ref a0), (1, .int i1), (2, .int i2), (3, .int i3), (4, .int i4), (5, .int i5), (6, .int i6), (7, .ref a7), (8, .int i8)] [] S rc rs := by
  unfold zf_X8_liesAlong_J82 at h
  refine zw_iconst (v := (0 : Int32)) hX dX8_liesAlong_82 (by decide) ?_
  refine zw_sub (lv' := [(0, .ref a0), (1, .int i1), (2, .int i2), (3, .int i3), (4, .int i4), (5, .int i5), (6, .int i6), (7, .ref a7), (8, .int i8)]) (List.forall_mem_cons.mpr ⟨rfl, (List.forall_mem_cons.mpr ⟨rfl, (List.forall_mem_cons.mpr ⟨rfl, (List.forall_mem_cons.mpr ⟨rfl, (List.forall_mem_cons.mpr ⟨rfl, (List.forall_mem_cons.mpr ⟨rfl, (List.forall_mem_cons.mpr ⟨rfl, (List.forall_mem_cons.mpr ⟨rfl, (List.forall_mem_cons.mpr ⟨rfl, zs_nil⟩)⟩)⟩)⟩)⟩)⟩)⟩)⟩)⟩) ?_
  exact zt_X8_liesAlong_J83 hX hr hR hd hf hk hrec h
def zf_X8_liesAlong_J51 (N : Nat) (k : Nat → Int32 → Int32 → Int32 → Int32 → Int32 → Int32 → zm_S → Option ((Int32 × zm_S) ⊕ ((Unit) × zm_S))) (a0 : Nat) (i1 : Int32) (i2 : Int32) (i3 : Int32) (i4 : Int32) (i5 : Int32) (i6 : Int32) (a7 : Nat) (t0 : Int32) (S : zm_S) : Option ((Int32 × zm_S) ⊕ ((Unit) × zm_S)) := if i2 = i4 then (za_x S 0 a7 (0 : Int32)).bind (fun v20 => (za_x S 0 a7 (2 : Int32)).bind (fun v21 => if v20 = v21 then (za_x S 0 a7 (0 : Int32)).bind (fun v22 => if i2 = v22 then zf_X8_liesAlong_J83 N (k) a0 i1 i2 i3 i4 i5 i6 a7 t0 (1 : Int32) S else zf_X8_liesAlong_J82 N (k) a0 i1 i2 i3 i4 i5 i6 a7 t0 S) else zf_X8_liesAlong_J82 N (k) a0 i1 i2 i3 i4 i5 i6 a7 t0 S)) else zf_X8_liesAlong_J82 N (k) a0 i1 i2 i3 i4 i5 i6 a7 t0 S
set_option maxHeartbeats 4000000 in
set_option maxRecDepth 100000 in
theorem zt_X8_liesAlong_J51 {p : Program} {l : Launch} {e : Env} {R : Room} {s : State} {m : MethodId} {args : Array Value} {below : List Frame} {meth : Method} {c : Code} {V : zm_V} {mc ms d rc rs : Nat} (hX : zm_X p R s m args meth c RX8 "liesAlong" cX8_liesAlong 10 zk_E V mc ms) (hr : meth.sig.returnType = (some .boolean)) (hR : R.frames = d ∧ R.locals = 64 * d) (hd : 2 ≤ d) {N : Nat} {k : Nat → Int32 → Int32 → Int32 → Int32 → Int32 → Int32 → zm_S → Option ((Int32 × zm_S) ⊕ ((Unit) × zm_S))} {a0 : Nat} {i1 : Int32} {i2 : Int32} {i3 : Int32} {i4 : Int32} {i5 : Int32} {i6 : Int32} {a7 : Nat} {t0 : Int32} {res : (Int32 × zm_S) ⊕ ((Unit) × zm_S)} {out : (Int32 × zm_S)}   (hf : ∀ o, res = .inl o → o = out) (hk : ∀ (S' : zm_S), res = .inr ((), S') → zw p l e R s m args below meth c (vx_MQ below (zm_Qc zk_E V (zo_i out)) (zm_XC zk_E V zo_x) args s mc ms (fun q => V.2.2.2.1 ≤ q)) 10 zk_E V mc ms 157 [] [] S' rc rs) (hrec : ∀ (i6' : Int32) (S : zm_S), k a0 i1 i2 i3 i4 i5 i6' S = some res → zw p l e R s m args below meth c (vx_MQ below (zm_Qc zk_E V (zo_i out)) (zm_XC zk_E V zo_x) args s mc ms (fun q => V.2.2.2.1 ≤ q)) 10 zk_E V mc ms 3 [(0, .ref a0), (1, .int i1), (2, .int i2), (3, .int i3), (4, .int i4), (5, .int i5), (6, .int i6')] [] S rc rs) {S : zm_S} (h : zf_X8_liesAlong_J51 N k a0 i1 i2 i3 i4 i5 i6 a7 t0 S = some res) : zw p l e R s m args below meth c (vx_MQ below (zm_Qc zk_E V (zo_i out)) (zm_XC zk_E V zo_x) args s mc ms (fun q => V.2.2.2.1 ≤ q)) 10 zk_E V mc ms 51 [(0, .ref a0), (1, .int i1), (2, .int i2), (3, .int i3), (4, .int i4), (5, .int i5), (6, .int i6), (7, .ref a7)] [.int t0] S rc rs := by
  unfold zf_X8_liesAlong_J51 at h
  refine zw_istore hX dX8_liesAlong_51 (by decide) ?_
  refine zw_iload_n hX dX8_liesAlong_53 rfl ?_
  refine zw_iload hX dX8_liesAlong_54 rfl ?_
  refine zw_icmp_ne (tgt := 82) hX dX8_liesAlong_56 (by decide) (fun c56 => ?_) (fun c56 => ?_)
  · rw [if_neg c56] at h
    refine zw_sub (lv' := [(0, .ref a0), (1, .int i1), (2, .int i2), (3, .int i3), (4, .int i4), (5, .int i5), (6, .int i6), (7, .ref a7), (8, .int t0)]) (List.forall_mem_cons.mpr ⟨rfl, (List.forall_mem_cons.mpr ⟨rfl, (List.forall_mem_cons.mpr ⟨rfl, (List.forall_mem_cons.mpr ⟨rfl, (List.forall_mem_cons.mpr ⟨rfl, (List.forall_mem_cons.mpr ⟨rfl, (List.forall_mem_cons.mpr ⟨rfl, (List.forall_mem_cons.mpr ⟨rfl, (List.forall_mem_cons.mpr ⟨rfl, zs_nil⟩)⟩)⟩)⟩)⟩)⟩)⟩)⟩)⟩) ?_
    exact zt_X8_liesAlong_J82 hX hr hR hd hf hk hrec h
  · rw [if_pos c56] at h
    refine zw_aload hX dX8_liesAlong_59 rfl ?_
    refine zw_iconst (v := (0 : Int32)) hX dX8_liesAlong_61 (by decide) ?_
    obtain ⟨v20, g, h⟩ := zb_some h
    refine zw_xi hX dX8_liesAlong_62 g ?_
    refine zw_aload hX dX8_liesAlong_63 rfl ?_
    refine zw_iconst (v := (2 : Int32)) hX dX8_liesAlong_65 (by decide) ?_
    obtain ⟨v21, g, h⟩ := zb_some h
    refine zw_xi hX dX8_liesAlong_66 g ?_
    refine zw_icmp_ne (tgt := 82) hX dX8_liesAlong_67 (by decide) (fun c67 => ?_) (fun c67 => ?_)
    · rw [if_neg c67] at h
      refine zw_sub (lv' := [(0, .ref a0), (1, .int i1), (2, .int i2), (3, .int i3), (4, .int i4), (5, .int i5), (6, .int i6), (7, .ref a7), (8, .int t0)]) (List.forall_mem_cons.mpr ⟨rfl, (List.forall_mem_cons.mpr ⟨rfl, (List.forall_mem_cons.mpr ⟨rfl, (List.forall_mem_cons.mpr ⟨rfl, (List.forall_mem_cons.mpr ⟨rfl, (List.forall_mem_cons.mpr ⟨rfl, (List.forall_mem_cons.mpr ⟨rfl, (List.forall_mem_cons.mpr ⟨rfl, (List.forall_mem_cons.mpr ⟨rfl, zs_nil⟩)⟩)⟩)⟩)⟩)⟩)⟩)⟩)⟩) ?_
      exact zt_X8_liesAlong_J82 hX hr hR hd hf hk hrec h
    · rw [if_pos c67] at h
      refine zw_iload_n hX dX8_liesAlong_70 rfl ?_
      refine zw_aload hX dX8_liesAlong_71 rfl ?_
      refine zw_iconst (v := (0 : Int32)) hX dX8_liesAlong_73 (by decide) ?_
      obtain ⟨v22, g, h⟩ := zb_some h
      refine zw_xi hX dX8_liesAlong_74 g ?_
      refine zw_icmp_ne (tgt := 82) hX dX8_liesAlong_75 (by decide) (fun c75 => ?_) (fun c75 => ?_)
      · rw [if_neg c75] at h
        refine zw_sub (lv' := [(0, .ref a0), (1, .int i1), (2, .int i2), (3, .int i3), (4, .int i4), (5, .int i5), (6, .int i6), (7, .ref a7), (8, .int t0)]) (List.forall_mem_cons.mpr ⟨rfl, (List.forall_mem_cons.mpr ⟨rfl, (List.forall_mem_cons.mpr ⟨rfl, (List.forall_mem_cons.mpr ⟨rfl, (List.forall_mem_cons.mpr ⟨rfl, (List.forall_mem_cons.mpr ⟨rfl, (List.forall_mem_cons.mpr ⟨rfl, (List.forall_mem_cons.mpr ⟨rfl, (List.forall_mem_cons.mpr ⟨rfl, zs_nil⟩)⟩)⟩)⟩)⟩)⟩)⟩)⟩)⟩) ?_
        exact zt_X8_liesAlong_J82 hX hr hR hd hf hk hrec h
      · rw [if_pos c75] at h
        refine zw_iconst (v := (1 : Int32)) hX dX8_liesAlong_78 (by decide) ?_
        refine zw_goto (tgt := 83) hX dX8_liesAlong_79 (by decide) ?_
        refine zw_sub (lv' := [(0, .ref a0), (1, .int i1), (2, .int i2), (3, .int i3), (4, .int i4), (5, .int i5), (6, .int i6), (7, .ref a7), (8, .int t0)]) (List.forall_mem_cons.mpr ⟨rfl, (List.forall_mem_cons.mpr ⟨rfl, (List.forall_mem_cons.mpr ⟨rfl, (List.forall_mem_cons.mpr ⟨rfl, (List.forall_mem_cons.mpr ⟨rfl, (List.forall_mem_cons.mpr ⟨rfl, (List.forall_mem_cons.mpr ⟨rfl, (List.forall_mem_cons.mpr ⟨rfl, (List.forall_mem_cons.mpr ⟨rfl, zs_nil⟩)⟩)⟩)⟩)⟩)⟩)⟩)⟩)⟩) ?_
        exact zt_X8_liesAlong_J83 hX hr hR hd hf hk hrec h
def zf_X8_liesAlong_J50 (N : Nat) (k : Nat → Int32 → Int32 → Int32 → Int32 → Int32 → Int32 → zm_S → Option ((Int32 × zm_S) ⊕ ((Unit) × zm_S))) (a0 : Nat) (i1 : Int32) (i2 : Int32) (i3 : Int32) (i4 : Int32) (i5 : Int32) (i6 : Int32) (a7 : Nat) (S : zm_S) : Option ((Int32 × zm_S) ⊕ ((Unit) × zm_S)) := zf_X8_liesAlong_J51 N (k) a0 i1 i2 i3 i4 i5 i6 a7 (0 : Int32) S
set_option maxHeartbeats 4000000 in
set_option maxRecDepth 100000 in
theorem zt_X8_liesAlong_J50 {p : Program} {l : Launch} {e : Env} {R : Room} {s : State} {m : MethodId} {args : Array Value} {below : List Frame} {meth : Method} {c : Code} {V : zm_V} {mc ms d rc rs : Nat} (hX : zm_X p R s m args meth c RX8 "liesAlong" cX8_liesAlong 10 zk_E V mc ms) (hr : meth.sig.returnType = (some .boolean)) (hR : R.frames = d ∧ R.locals = 64 * d) (hd : 2 ≤ d) {N : Nat} {k : Nat → Int32 → Int32 → Int32 → Int32 → Int32 → Int32 → zm_S → Option ((Int32 × zm_S) ⊕ ((Unit) × zm_S))} {a0 : Nat} {i1 : Int32} {i2 : Int32} {i3 : Int32} {i4 : Int32} {i5 : Int32} {i6 : Int32} {a7 : Nat} {res : (Int32 × zm_S) ⊕ ((Unit) × zm_S)} {out : (Int32 × zm_S)}   (hf : ∀ o, res = .inl o → o = out) (hk : ∀ (S' : zm_S), res = .inr ((), S') → zw p l e R s m args below meth c (vx_MQ below (zm_Qc zk_E V (zo_i out)) (zm_XC zk_E V zo_x) args s mc ms (fun q => V.2.2.2.1 ≤ q)) 10 zk_E V mc ms 157 [] [] S' rc rs) (hrec : ∀ (i6' : Int32) (S : zm_S), k a0 i1 i2 i3 i4 i5 i6' S = some res → zw p l e R s m args below meth c (vx_MQ below (zm_Qc zk_E V (zo_i out)) (zm_XC zk_E V zo_x) args s mc ms (fun q => V.2.2.2.1 ≤ q)) 10 zk_E V mc ms 3 [(0, .ref a0), (1, .int i1), (2, .int i2), (3, .int i3), (4, .int i4), (5, .int i5), (6, .int i6')] [] S rc rs) {S : zm_S} (h : zf_X8_liesAlong_J50 N k a0 i1 i2 i3 i4 i5 i6 a7 S = some res) : zw p l e R s m args below meth c (vx_MQ below (zm_Qc zk_E V (zo_i out)) (zm_XC zk_E V zo_x) args s mc ms (fun q => V.2.2.2.1 ≤ q)) 10 zk_E V mc ms 50 [(0, .ref a0), (1, .int i1), (2, .int i2), (3, .int i3), (4, .int i4), (5, .int i5), (6, .int i6), (7, .ref a7)] [] S rc rs := by
  unfold zf_X8_liesAlong_J50 at h
  refine zw_iconst (v := (0 : Int32)) hX dX8_liesAlong_50 (by decide) ?_
  refine zw_sub (lv' := [(0, .ref a0), (1, .int i1), (2, .int i2), (3, .int i3), (4, .int i4), (5, .int i5), (6, .int i6), (7, .ref a7)]) (List.forall_mem_cons.mpr ⟨rfl, (List.forall_mem_cons.mpr ⟨rfl, (List.forall_mem_cons.mpr ⟨rfl, (List.forall_mem_cons.mpr ⟨rfl, (List.forall_mem_cons.mpr ⟨rfl, (List.forall_mem_cons.mpr ⟨rfl, (List.forall_mem_cons.mpr ⟨rfl, (List.forall_mem_cons.mpr ⟨rfl, zs_nil⟩)⟩)⟩)⟩)⟩)⟩)⟩)⟩) ?_
  exact zt_X8_liesAlong_J51 hX hr hR hd hf hk hrec h
def zf_X8_liesAlong_L3 (N : Nat) : Nat → Nat → Int32 → Int32 → Int32 → Int32 → Int32 → Int32 → zm_S → Option ((Int32 × zm_S) ⊕ ((Unit) × zm_S))
  | 0, _, _, _, _, _, _, _, _ => none
  | n + 1, a0, i1, i2, i3, i4, i5, i6, S => (zg_i S a0 8 0).bind (fun v1 => if v1 ≤ i6 then some (.inr ((), S)) else (zg_r S a0 8 1).bind (fun b2 => (za_r S b2 i6).bind (fun b3 => if i3 = i5 then (za_x S 0 b3 (1 : Int32)).bind (fun v23 => (za_x S 0 b3 (3 : Int32)).bind (fun v24 => if v23 = v24 then (za_x S 0 b3 (1 : Int32)).bind (fun v25 => if i3 = v25 then zf_X8_liesAlong_J51 N (zf_X8_liesAlong_L3 N n) a0 i1 i2 i3 i4 i5 i6 b3 (1 : Int32) S else zf_X8_liesAlong_J50 N (zf_X8_liesAlong_L3 N n) a0 i1 i2 i3 i4 i5 i6 b3 S) else zf_X8_liesAlong_J50 N (zf_X8_liesAlong_L3 N n) a0 i1 i2 i3 i4 i5 i6 b3 S)) else zf_X8_liesAlong_J50 N (zf_X8_liesAlong_L3 N n) a0 i1 i2 i3 i4 i5 i6 b3 S)))
set_option maxHeartbeats 4000000 in
set_option maxRecDepth 100000 in
theorem zt_X8_liesAlong_L3 {p : Program} {l : Launch} {e : Env} {R : Room} {s : State} {m : MethodId} {args : Array Value} {below : List Frame} {meth : Method} {c : Code} {V : zm_V} {mc ms d rc rs : Nat} (hX : zm_X p R s m args meth c RX8 "liesAlong" cX8_liesAlong 10 zk_E V mc ms) (hr : meth.sig.returnType = (some .boolean)) (hR : R.frames = d ∧ R.locals = 64 * d) (hd : 2 ≤ d) {N : Nat} {res : (Int32 × zm_S) ⊕ ((Unit) × zm_S)} {out : (Int32 × zm_S)} (a0 : Nat) (i1 : Int32) (i2 : Int32) (i3 : Int32) (i4 : Int32) (i5 : Int32) (hf : ∀ o, res = .inl o → o = out) (hk : ∀ (S' : zm_S), res = .inr ((), S') → zw p l e R s m args below meth c (vx_MQ below (zm_Qc zk_E V (zo_i out)) (zm_XC zk_E V zo_x) args s mc ms (fun q => V.2.2.2.1 ≤ q)) 10 zk_E V mc ms 157 [] [] S' rc rs) : ∀ (n : Nat) (i6 : Int32) (S : zm_S), zf_X8_liesAlong_L3 N n a0 i1 i2 i3 i4 i5 i6 S = some res → zw p l e R s m args below meth c (vx_MQ below (zm_Qc zk_E V (zo_i out)) (zm_XC zk_E V zo_x) args s mc ms (fun q => V.2.2.2.1 ≤ q)) 10 zk_E V mc ms 3 [(0, .ref a0), (1, .int i1), (2, .int i2), (3, .int i3), (4, .int i4), (5, .int i5), (6, .int i6)] [] S rc rs := by
  intro n
  induction n with
  | zero => intro i6 S h; cases h
  | succ n ih =>
    intro i6 S h
    rw [zf_X8_liesAlong_L3] at h
    refine zw_iload hX dX8_liesAlong_3 rfl ?_
    refine zw_aload_n hX dX8_liesAlong_5 rfl ?_
    obtain ⟨v1, g, h⟩ := zb_some h
    refine zw_geti hX zl_X8_32 dX8_liesAlong_6 g ?_
    refine zw_icmp_ge (tgt := 157) hX dX8_liesAlong_9 (by decide) (fun c9 => ?_) (fun c9 => ?_)
    · rw [if_pos c9] at h
      refine zw_sub (lv' := []) zs_nil ?_
      exact hk  _ (Option.some.inj h).symm
    · rw [if_neg c9] at h
      refine zw_aload_n hX dX8_liesAlong_12 rfl ?_
      obtain ⟨b2, g, h⟩ := zb_some h
      refine zw_getr hX zl_X8_13 dX8_liesAlong_13 g ?_
      refine zw_iload hX dX8_liesAlong_16 rfl ?_
      obtain ⟨b3, g, h⟩ := zb_some h
      refine zw_xr hX dX8_liesAlong_18 g ?_
      refine zw_astore hX dX8_liesAlong_19 (by decide) ?_
      refine zw_iload_n hX dX8_liesAlong_21 rfl ?_
      refine zw_iload hX dX8_liesAlong_22 rfl ?_
      refine zw_icmp_ne (tgt := 50) hX dX8_liesAlong_24 (by decide) (fun c24 => ?_) (fun c24 => ?_)
      · rw [if_neg c24] at h
        refine zw_sub (lv' := [(0, .ref a0), (1, .int i1), (2, .int i2), (3, .int i3), (4, .int i4), (5, .int i5), (6, .int i6), (7, .ref b3)]) (List.forall_mem_cons.mpr ⟨rfl, (List.forall_mem_cons.mpr ⟨rfl, (List.forall_mem_cons.mpr ⟨rfl, (List.forall_mem_cons.mpr ⟨rfl, (List.forall_mem_cons.mpr ⟨rfl, (List.forall_mem_cons.mpr ⟨rfl, (List.forall_mem_cons.mpr ⟨rfl, (List.forall_mem_cons.mpr ⟨rfl, zs_nil⟩)⟩)⟩)⟩)⟩)⟩)⟩)⟩) ?_
        exact zt_X8_liesAlong_J50 hX hr hR hd hf hk ih h
      · rw [if_pos c24] at h
        refine zw_aload hX dX8_liesAlong_27 rfl ?_
        refine zw_iconst (v := (1 : Int32)) hX dX8_liesAlong_29 (by decide) ?_
        obtain ⟨v23, g, h⟩ := zb_some h
        refine zw_xi hX dX8_liesAlong_30 g ?_
        refine zw_aload hX dX8_liesAlong_31 rfl ?_
        refine zw_iconst (v := (3 : Int32)) hX dX8_liesAlong_33 (by decide) ?_
        obtain ⟨v24, g, h⟩ := zb_some h
        refine zw_xi hX dX8_liesAlong_34 g ?_
        refine zw_icmp_ne (tgt := 50) hX dX8_liesAlong_35 (by decide) (fun c35 => ?_) (fun c35 => ?_)
        · rw [if_neg c35] at h
          refine zw_sub (lv' := [(0, .ref a0), (1, .int i1), (2, .int i2), (3, .int i3), (4, .int i4), (5, .int i5), (6, .int i6), (7, .ref b3)]) (List.forall_mem_cons.mpr ⟨rfl, (List.forall_mem_cons.mpr ⟨rfl, (List.forall_mem_cons.mpr ⟨rfl, (List.forall_mem_cons.mpr ⟨rfl, (List.forall_mem_cons.mpr ⟨rfl, (List.forall_mem_cons.mpr ⟨rfl, (List.forall_mem_cons.mpr ⟨rfl, (List.forall_mem_cons.mpr ⟨rfl, zs_nil⟩)⟩)⟩)⟩)⟩)⟩)⟩)⟩) ?_
          exact zt_X8_liesAlong_J50 hX hr hR hd hf hk ih h
        · rw [if_pos c35] at h
          refine zw_iload_n hX dX8_liesAlong_38 rfl ?_
          refine zw_aload hX dX8_liesAlong_39 rfl ?_
          refine zw_iconst (v := (1 : Int32)) hX dX8_liesAlong_41 (by decide) ?_
          obtain ⟨v25, g, h⟩ := zb_some h
          refine zw_xi hX dX8_liesAlong_42 g ?_
          refine zw_icmp_ne (tgt := 50) hX dX8_liesAlong_43 (by decide) (fun c43 => ?_) (fun c43 => ?_)
          · rw [if_neg c43] at h
            refine zw_sub (lv' := [(0, .ref a0), (1, .int i1), (2, .int i2), (3, .int i3), (4, .int i4), (5, .int i5), (6, .int i6), (7, .ref b3)]) (List.forall_mem_cons.mpr ⟨rfl, (List.forall_mem_cons.mpr ⟨rfl, (List.forall_mem_cons.mpr ⟨rfl, (List.forall_mem_cons.mpr ⟨rfl, (List.forall_mem_cons.mpr ⟨rfl, (List.forall_mem_cons.mpr ⟨rfl, (List.forall_mem_cons.mpr ⟨rfl, (List.forall_mem_cons.mpr ⟨rfl, zs_nil⟩)⟩)⟩)⟩)⟩)⟩)⟩)⟩) ?_
            exact zt_X8_liesAlong_J50 hX hr hR hd hf hk ih h
          · rw [if_pos c43] at h
            refine zw_iconst (v := (1 : Int32)) hX dX8_liesAlong_46 (by decide) ?_
            refine zw_goto (tgt := 51) hX dX8_liesAlong_47 (by decide) ?_
            refine zw_sub (lv' := [(0, .ref a0), (1, .int i1), (2, .int i2), (3, .int i3), (4, .int i4), (5, .int i5), (6, .int i6), (7, .ref b3)]) (List.forall_mem_cons.mpr ⟨rfl, (List.forall_mem_cons.mpr ⟨rfl, (List.forall_mem_cons.mpr ⟨rfl, (List.forall_mem_cons.mpr ⟨rfl, (List.forall_mem_cons.mpr ⟨rfl, (List.forall_mem_cons.mpr ⟨rfl, (List.forall_mem_cons.mpr ⟨rfl, (List.forall_mem_cons.mpr ⟨rfl, zs_nil⟩)⟩)⟩)⟩)⟩)⟩)⟩)⟩) ?_
            exact zt_X8_liesAlong_J51 hX hr hR hd hf hk ih h
def zf_X8_liesAlong (N : Nat) (a0 : Nat) (i1 : Int32) (i2 : Int32) (i3 : Int32) (i4 : Int32) (i5 : Int32) (S : zm_S) : Option (Int32 × zm_S) := (zf_X8_liesAlong_L3 N N a0 i1 i2 i3 i4 i5 (0 : Int32) S).bind (fun r => match r with | .inl o => some o | .inr (_, S26) => some ((0 : Int32), S26))
set_option maxHeartbeats 4000000 in
set_option maxRecDepth 100000 in
theorem zt_X8_liesAlong {l : Launch} {V : zm_V} {N : Nat} {S : zm_S} {out : (Int32 × zm_S)} {d : Nat} {a0 : Nat} {i1 : Int32} {i2 : Int32} {i3 : Int32} {i4 : Int32} {i5 : Int32} (hd : 2 ≤ d) (h : zf_X8_liesAlong N a0 i1 i2 i3 i4 i5 S = some out) : zm_Met l zk_E V yX8_liesAlong (.code yX8_liesAlong cX8_liesAlong 10 (some .boolean)) d [.ref a0, .int i1, .int i2, .int i3, .int i4, .int i5] S 0 0 (zo_i out) zo_x := by
  refine zm_of (by decide +kernel) (Nat.le_of_ble_eq_true rfl) ?_
  intro p e R s m args below meth c hRR hX hr hxt
  have hR : R.frames = d ∧ R.locals = 64 * d := by rw [hRR]; exact ⟨rfl, rfl⟩
  have hX : zm_X p R s m args meth c RX8 "liesAlong" cX8_liesAlong 10 zk_E V 0 0 := hX
  unfold zf_X8_liesAlong at h
  refine zw_sub (lv' := [(0, .ref a0), (1, .int i1), (2, .int i2), (3, .int i3), (4, .int i4), (5, .int i5)]) (List.forall_mem_cons.mpr ⟨rfl, (List.forall_mem_cons.mpr ⟨rfl, (List.forall_mem_cons.mpr ⟨rfl, (List.forall_mem_cons.mpr ⟨rfl, (List.forall_mem_cons.mpr ⟨rfl, (List.forall_mem_cons.mpr ⟨rfl, zs_nil⟩)⟩)⟩)⟩)⟩)⟩) ?_
  refine zw_iconst (v := (0 : Int32)) hX dX8_liesAlong_0 (by decide) ?_
  refine zw_istore hX dX8_liesAlong_1 (by decide) ?_
  obtain ⟨r, g, h⟩ := zb_some h
  refine zw_sub (lv' := [(0, .ref a0), (1, .int i1), (2, .int i2), (3, .int i3), (4, .int i4), (5, .int i5), (6, .int (0 : Int32))]) (List.forall_mem_cons.mpr ⟨rfl, (List.forall_mem_cons.mpr ⟨rfl, (List.forall_mem_cons.mpr ⟨rfl, (List.forall_mem_cons.mpr ⟨rfl, (List.forall_mem_cons.mpr ⟨rfl, (List.forall_mem_cons.mpr ⟨rfl, (List.forall_mem_cons.mpr ⟨rfl, zs_nil⟩)⟩)⟩)⟩)⟩)⟩)⟩) ?_
  refine zt_X8_liesAlong_L3 hX hr hR hd (res := r) (out := out) a0 i1 i2 i3 i4 i5 ?_ ?_ N _ _ g
  · intro o ho
    subst ho
    exact Option.some.inj h
  · intro  S26 hx
    subst hx
    try dsimp only at h
    refine zw_iconst (v := (0 : Int32)) hX dX8_liesAlong_157 (by decide) ?_
    obtain rfl := Option.some.inj h
    exact zw_iret hX hr dX8_liesAlong_158 rfl ⟨rfl, rfl⟩
def zf_X8_setEnds (N : Nat) (a0 : Nat) (i1 : Int32) (i2 : Int32) (i3 : Int32) (i4 : Int32) (i5 : Int32) (S : zm_S) : Option (Unit × zm_S) := (zg_r S a0 8 1).bind (fun b1 => (za_r S b1 i1).bind (fun b2 => (zs_i S b2 (0 : Int32) i2).bind (fun S3 => (zs_i S3 b2 (1 : Int32) i3).bind (fun S4 => (zs_i S4 b2 (2 : Int32) i4).bind (fun S5 => (zs_i S5 b2 (3 : Int32) i5).bind (fun S6 => some ((), S6)))))))
set_option maxHeartbeats 4000000 in
set_option maxRecDepth 100000 in
theorem zt_X8_setEnds {l : Launch} {V : zm_V} {N : Nat} {S : zm_S} {out : (Unit × zm_S)} {d : Nat} {a0 : Nat} {i1 : Int32} {i2 : Int32} {i3 : Int32} {i4 : Int32} {i5 : Int32} (hd : 1 ≤ d) (h : zf_X8_setEnds N a0 i1 i2 i3 i4 i5 S = some out) : zm_Met l zk_E V yX8_setEnds (.code yX8_setEnds cX8_setEnds 7 none) d [.ref a0, .int i1, .int i2, .int i3, .int i4, .int i5] S 0 0 (zo_v out) zo_x := by
  refine zm_of (by decide +kernel) (Nat.le_of_ble_eq_true rfl) ?_
  intro p e R s m args below meth c hRR hX hr hxt
  have hR : R.frames = d ∧ R.locals = 64 * d := by rw [hRR]; exact ⟨rfl, rfl⟩
  have hX : zm_X p R s m args meth c RX8 "setEnds" cX8_setEnds 7 zk_E V 0 0 := hX
  unfold zf_X8_setEnds at h
  refine zw_sub (lv' := [(0, .ref a0), (1, .int i1), (2, .int i2), (3, .int i3), (4, .int i4), (5, .int i5)]) (List.forall_mem_cons.mpr ⟨rfl, (List.forall_mem_cons.mpr ⟨rfl, (List.forall_mem_cons.mpr ⟨rfl, (List.forall_mem_cons.mpr ⟨rfl, (List.forall_mem_cons.mpr ⟨rfl, (List.forall_mem_cons.mpr ⟨rfl, zs_nil⟩)⟩)⟩)⟩)⟩)⟩) ?_
  refine zw_aload_n hX dX8_setEnds_0 rfl ?_
  obtain ⟨b1, g, h⟩ := zb_some h
  refine zw_getr hX zl_X8_13 dX8_setEnds_1 g ?_
  refine zw_iload_n hX dX8_setEnds_4 rfl ?_
  obtain ⟨b2, g, h⟩ := zb_some h
  refine zw_xr hX dX8_setEnds_5 g ?_
  refine zw_astore hX dX8_setEnds_6 (by decide) ?_
  refine zw_aload hX dX8_setEnds_8 rfl ?_
  refine zw_iconst (v := (0 : Int32)) hX dX8_setEnds_10 (by decide) ?_
  refine zw_iload_n hX dX8_setEnds_11 rfl ?_
  obtain ⟨S3, g, h⟩ := zb_some h
  refine zw_si hX dX8_setEnds_12 g ?_
  refine zw_aload hX dX8_setEnds_13 rfl ?_
  refine zw_iconst (v := (1 : Int32)) hX dX8_setEnds_15 (by decide) ?_
  refine zw_iload_n hX dX8_setEnds_16 rfl ?_
  obtain ⟨S4, g, h⟩ := zb_some h
  refine zw_si hX dX8_setEnds_17 g ?_
  refine zw_aload hX dX8_setEnds_18 rfl ?_
  refine zw_iconst (v := (2 : Int32)) hX dX8_setEnds_20 (by decide) ?_
  refine zw_iload hX dX8_setEnds_21 rfl ?_
  obtain ⟨S5, g, h⟩ := zb_some h
  refine zw_si hX dX8_setEnds_23 g ?_
  refine zw_aload hX dX8_setEnds_24 rfl ?_
  refine zw_iconst (v := (3 : Int32)) hX dX8_setEnds_26 (by decide) ?_
  refine zw_iload hX dX8_setEnds_27 rfl ?_
  obtain ⟨S6, g, h⟩ := zb_some h
  refine zw_si hX dX8_setEnds_29 g ?_
  obtain rfl := Option.some.inj h
  exact zw_vret hX hr dX8_setEnds_30 ⟨rfl, rfl⟩
def zf_X8_addLine (N : Nat) (a0 : Nat) (i1 : Int32) (i2 : Int32) (i3 : Int32) (i4 : Int32) (S : zm_S) : Option (Int32 × zm_S) := (zf_J9_min_7cf53 N i1 i3 S).bind (fun r3 => (zf_J9_min_7cf53 N i2 i4 r3.2).bind (fun r6 => (zf_J9_max_7cf53 N i1 i3 r6.2).bind (fun r9 => (zf_J9_max_7cf53 N i2 i4 r9.2).bind (fun r12 => (zg_i r12.2 a0 8 0).bind (fun v13 => if (20 : Int32) ≤ v13 then some ((-1 : Int32), r12.2) else (zi r12.2 a0 8).bind (fun _ => (zf_X8_liesAlong N a0 (-1 : Int32) r3.1 r6.1 r9.1 r12.1 r12.2).bind (fun r16 => if r16.1 = 0 then (zg_i r16.2 a0 8 0).bind (fun v17 => (zi r16.2 a0 8).bind (fun _ => (zf_X8_setEnds N a0 v17 r3.1 r6.1 r9.1 r12.1 r16.2).bind (fun r20 => (zg_i r20.2 a0 8 0).bind (fun v21 => (zp r20.2 a0 8 0 (.int (v21 + (1 : Int32)))).bind (fun S22 => (zg_i S22 a0 8 0).bind (fun v23 => some ((v23 - (1 : Int32)), S22))))))) else some ((-1 : Int32), r16.2))))))))
set_option maxHeartbeats 4000000 in
set_option maxRecDepth 100000 in
theorem zt_X8_addLine {l : Launch} {V : zm_V} {N : Nat} {S : zm_S} {out : (Int32 × zm_S)} {d : Nat} {a0 : Nat} {i1 : Int32} {i2 : Int32} {i3 : Int32} {i4 : Int32} (hd : 3 ≤ d) (h : zf_X8_addLine N a0 i1 i2 i3 i4 S = some out) : zm_Met l zk_E V yX8_addLine (.code yX8_addLine cX8_addLine 9 (some .int)) d [.ref a0, .int i1, .int i2, .int i3, .int i4] S 0 0 (zo_i out) zo_x := by
  refine zm_of (by decide +kernel) (Nat.le_of_ble_eq_true rfl) ?_
  intro p e R s m args below meth c hRR hX hr hxt
  have hR : R.frames = d ∧ R.locals = 64 * d := by rw [hRR]; exact ⟨rfl, rfl⟩
  have hX : zm_X p R s m args meth c RX8 "addLine" cX8_addLine 9 zk_E V 0 0 := hX
  unfold zf_X8_addLine at h
  refine zw_sub (lv' := [(0, .ref a0), (1, .int i1), (2, .int i2), (3, .int i3), (4, .int i4)]) (List.forall_mem_cons.mpr ⟨rfl, (List.forall_mem_cons.mpr ⟨rfl, (List.forall_mem_cons.mpr ⟨rfl, (List.forall_mem_cons.mpr ⟨rfl, (List.forall_mem_cons.mpr ⟨rfl, zs_nil⟩)⟩)⟩)⟩)⟩) ?_
  refine zw_iload_n hX dX8_addLine_0 rfl ?_
  refine zw_iload_n hX dX8_addLine_1 rfl ?_
  obtain ⟨r3, g, h⟩ := zb_some h
  refine zc_Si (as := [.int i1, .int i3]) hX (zt_J9_min_7cf53 (d := d - 1) (by omega) g) zl_X8_23 dX8_addLine_2 ⟨rfl, rfl, Nat.le_of_ble_eq_true rfl⟩ ⟨by omega, by omega⟩ ?_
  refine zw_istore hX dX8_addLine_5 (by decide) ?_
  refine zw_iload_n hX dX8_addLine_7 rfl ?_
  refine zw_iload hX dX8_addLine_8 rfl ?_
  obtain ⟨r6, g, h⟩ := zb_some h
  refine zc_Si (as := [.int i2, .int i4]) hX (zt_J9_min_7cf53 (d := d - 1) (by omega) g) zl_X8_23 dX8_addLine_10 ⟨rfl, rfl, Nat.le_of_ble_eq_true rfl⟩ ⟨by omega, by omega⟩ ?_
  refine zw_istore hX dX8_addLine_13 (by decide) ?_
  refine zw_iload_n hX dX8_addLine_15 rfl ?_
  refine zw_iload_n hX dX8_addLine_16 rfl ?_
  obtain ⟨r9, g, h⟩ := zb_some h
  refine zc_Si (as := [.int i1, .int i3]) hX (zt_J9_max_7cf53 (d := d - 1) (by omega) g) zl_X8_29 dX8_addLine_17 ⟨rfl, rfl, Nat.le_of_ble_eq_true rfl⟩ ⟨by omega, by omega⟩ ?_
  refine zw_istore hX dX8_addLine_20 (by decide) ?_
  refine zw_iload_n hX dX8_addLine_22 rfl ?_
  refine zw_iload hX dX8_addLine_23 rfl ?_
  obtain ⟨r12, g, h⟩ := zb_some h
  refine zc_Si (as := [.int i2, .int i4]) hX (zt_J9_max_7cf53 (d := d - 1) (by omega) g) zl_X8_29 dX8_addLine_25 ⟨rfl, rfl, Nat.le_of_ble_eq_true rfl⟩ ⟨by omega, by omega⟩ ?_
  refine zw_istore hX dX8_addLine_28 (by decide) ?_
  refine zw_aload_n hX dX8_addLine_30 rfl ?_
  obtain ⟨v13, g, h⟩ := zb_some h
  refine zw_geti hX zl_X8_32 dX8_addLine_31 g ?_
  refine zw_bipush (v := (20 : Int32)) hX dX8_addLine_34 (by decide) ?_
  refine zw_icmp_ge (tgt := 55) hX dX8_addLine_36 (by decide) (fun c36 => ?_) (fun c36 => ?_)
  · rw [if_pos c36] at h
    refine zw_iconst (v := (-1 : Int32)) hX dX8_addLine_55 (by decide) ?_
    obtain rfl := Option.some.inj h
    exact zw_iret hX hr dX8_addLine_56 rfl ⟨rfl, rfl⟩
  · rw [if_neg c36] at h
    refine zw_aload_n hX dX8_addLine_39 rfl ?_
    refine zw_iconst (v := (-1 : Int32)) hX dX8_addLine_40 (by decide) ?_
    refine zw_iload hX dX8_addLine_41 rfl ?_
    refine zw_iload hX dX8_addLine_43 rfl ?_
    refine zw_iload hX dX8_addLine_45 rfl ?_
    refine zw_iload hX dX8_addLine_47 rfl ?_
    obtain ⟨_, gi, h⟩ := zb_some h
    obtain ⟨r16, g, h⟩ := zb_some h
    refine zc_Vi (as := [.int (-1 : Int32), .int r3.1, .int r6.1, .int r9.1, .int r12.1]) hX gi (zt_X8_liesAlong (d := d - 1) (by omega) g) zl_X8_36 rfl dX8_addLine_49 ⟨rfl, rfl, Nat.le_of_ble_eq_true rfl⟩ ⟨by omega, by omega⟩ ?_
    refine zw_if_eq (tgt := 57) hX dX8_addLine_52 (by decide) (fun c52 => ?_) (fun c52 => ?_)
    · rw [if_pos c52] at h
      refine zw_aload_n hX dX8_addLine_57 rfl ?_
      refine zw_aload_n hX dX8_addLine_58 rfl ?_
      obtain ⟨v17, g, h⟩ := zb_some h
      refine zw_geti hX zl_X8_32 dX8_addLine_59 g ?_
      refine zw_iload hX dX8_addLine_62 rfl ?_
      refine zw_iload hX dX8_addLine_64 rfl ?_
      refine zw_iload hX dX8_addLine_66 rfl ?_
      refine zw_iload hX dX8_addLine_68 rfl ?_
      obtain ⟨_, gi, h⟩ := zb_some h
      obtain ⟨r20, g, h⟩ := zb_some h
      refine zc_Vv (as := [.int v17, .int r3.1, .int r6.1, .int r9.1, .int r12.1]) hX gi (zt_X8_setEnds (d := d - 1) (by omega) g) zl_X8_40 rfl dX8_addLine_70 ⟨rfl, rfl, Nat.le_of_ble_eq_true rfl⟩ ⟨by omega, by omega⟩ ?_
      refine zw_aload_n hX dX8_addLine_73 rfl ?_
      refine zw_dup hX dX8_addLine_74 rfl ?_
      obtain ⟨v21, g, h⟩ := zb_some h
      refine zw_geti hX zl_X8_32 dX8_addLine_75 g ?_
      refine zw_iconst (v := (1 : Int32)) hX dX8_addLine_78 (by decide) ?_
      refine zw_iadd hX dX8_addLine_79 ?_
      obtain ⟨S22, g, h⟩ := zb_some h
      refine zw_putv hX zl_X8_32 zt_8_0 dX8_addLine_80 rfl rfl g ?_
      refine zw_aload_n hX dX8_addLine_83 rfl ?_
      obtain ⟨v23, g, h⟩ := zb_some h
      refine zw_geti hX zl_X8_32 dX8_addLine_84 g ?_
      refine zw_iconst (v := (1 : Int32)) hX dX8_addLine_87 (by decide) ?_
      refine zw_isub hX dX8_addLine_88 ?_
      obtain rfl := Option.some.inj h
      exact zw_iret hX hr dX8_addLine_89 rfl ⟨rfl, rfl⟩
    · rw [if_neg c52] at h
      refine zw_iconst (v := (-1 : Int32)) hX dX8_addLine_55 (by decide) ?_
      obtain rfl := Option.some.inj h
      exact zw_iret hX hr dX8_addLine_56 rfl ⟨rfl, rfl⟩
def zf_X8_moveLine (N : Nat) (a0 : Nat) (i1 : Int32) (i2 : Int32) (i3 : Int32) (S : zm_S) : Option (Int32 × zm_S) := (zg_r S a0 8 1).bind (fun b1 => (za_r S b1 i1).bind (fun b2 => (za_x S 0 b2 (0 : Int32)).bind (fun v3 => (za_x S 0 b2 (1 : Int32)).bind (fun v4 => (za_x S 0 b2 (2 : Int32)).bind (fun v5 => (za_x S 0 b2 (3 : Int32)).bind (fun v6 => (zi S a0 8).bind (fun _ => (zf_X8_liesAlong N a0 i1 (v3 + i2) (v4 + i3) (v5 + i2) (v6 + i3) S).bind (fun r9 => if r9.1 = 0 then (za_x r9.2 0 b2 (0 : Int32)).bind (fun v10 => (za_x r9.2 0 b2 (1 : Int32)).bind (fun v11 => (za_x r9.2 0 b2 (2 : Int32)).bind (fun v12 => (za_x r9.2 0 b2 (3 : Int32)).bind (fun v13 => (zi r9.2 a0 8).bind (fun _ => (zf_X8_setEnds N a0 i1 (v10 + i2) (v11 + i3) (v12 + i2) (v13 + i3) r9.2).bind (fun r16 => some ((1 : Int32), r16.2))))))) else some ((0 : Int32), r9.2)))))))))
set_option maxHeartbeats 4000000 in
set_option maxRecDepth 100000 in
theorem zt_X8_moveLine {l : Launch} {V : zm_V} {N : Nat} {S : zm_S} {out : (Int32 × zm_S)} {d : Nat} {a0 : Nat} {i1 : Int32} {i2 : Int32} {i3 : Int32} (hd : 3 ≤ d) (h : zf_X8_moveLine N a0 i1 i2 i3 S = some out) : zm_Met l zk_E V yX8_moveLine (.code yX8_moveLine cX8_moveLine 5 (some .boolean)) d [.ref a0, .int i1, .int i2, .int i3] S 0 0 (zo_i out) zo_x := by
  refine zm_of (by decide +kernel) (Nat.le_of_ble_eq_true rfl) ?_
  intro p e R s m args below meth c hRR hX hr hxt
  have hR : R.frames = d ∧ R.locals = 64 * d := by rw [hRR]; exact ⟨rfl, rfl⟩
  have hX : zm_X p R s m args meth c RX8 "moveLine" cX8_moveLine 5 zk_E V 0 0 := hX
  unfold zf_X8_moveLine at h
  refine zw_sub (lv' := [(0, .ref a0), (1, .int i1), (2, .int i2), (3, .int i3)]) (List.forall_mem_cons.mpr ⟨rfl, (List.forall_mem_cons.mpr ⟨rfl, (List.forall_mem_cons.mpr ⟨rfl, (List.forall_mem_cons.mpr ⟨rfl, zs_nil⟩)⟩)⟩)⟩) ?_
  refine zw_aload_n hX dX8_moveLine_0 rfl ?_
  obtain ⟨b1, g, h⟩ := zb_some h
  refine zw_getr hX zl_X8_13 dX8_moveLine_1 g ?_
  refine zw_iload_n hX dX8_moveLine_4 rfl ?_
  obtain ⟨b2, g, h⟩ := zb_some h
  refine zw_xr hX dX8_moveLine_5 g ?_
  refine zw_astore hX dX8_moveLine_6 (by decide) ?_
  refine zw_aload_n hX dX8_moveLine_8 rfl ?_
  refine zw_iload_n hX dX8_moveLine_9 rfl ?_
  refine zw_aload hX dX8_moveLine_10 rfl ?_
  refine zw_iconst (v := (0 : Int32)) hX dX8_moveLine_12 (by decide) ?_
  obtain ⟨v3, g, h⟩ := zb_some h
  refine zw_xi hX dX8_moveLine_13 g ?_
  refine zw_iload_n hX dX8_moveLine_14 rfl ?_
  refine zw_iadd hX dX8_moveLine_15 ?_
  refine zw_aload hX dX8_moveLine_16 rfl ?_
  refine zw_iconst (v := (1 : Int32)) hX dX8_moveLine_18 (by decide) ?_
  obtain ⟨v4, g, h⟩ := zb_some h
  refine zw_xi hX dX8_moveLine_19 g ?_
  refine zw_iload_n hX dX8_moveLine_20 rfl ?_
  refine zw_iadd hX dX8_moveLine_21 ?_
  refine zw_aload hX dX8_moveLine_22 rfl ?_
  refine zw_iconst (v := (2 : Int32)) hX dX8_moveLine_24 (by decide) ?_
  obtain ⟨v5, g, h⟩ := zb_some h
  refine zw_xi hX dX8_moveLine_25 g ?_
  refine zw_iload_n hX dX8_moveLine_26 rfl ?_
  refine zw_iadd hX dX8_moveLine_27 ?_
  refine zw_aload hX dX8_moveLine_28 rfl ?_
  refine zw_iconst (v := (3 : Int32)) hX dX8_moveLine_30 (by decide) ?_
  obtain ⟨v6, g, h⟩ := zb_some h
  refine zw_xi hX dX8_moveLine_31 g ?_
  refine zw_iload_n hX dX8_moveLine_32 rfl ?_
  refine zw_iadd hX dX8_moveLine_33 ?_
  obtain ⟨_, gi, h⟩ := zb_some h
  obtain ⟨r9, g, h⟩ := zb_some h
  refine zc_Vi (as := [.int i1, .int (v3 + i2), .int (v4 + i3), .int (v5 + i2), .int (v6 + i3)]) hX gi (zt_X8_liesAlong (d := d - 1) (by omega) g) zl_X8_36 rfl dX8_moveLine_34 ⟨rfl, rfl, Nat.le_of_ble_eq_true rfl⟩ ⟨by omega, by omega⟩ ?_
  refine zw_if_eq (tgt := 42) hX dX8_moveLine_37 (by decide) (fun c37 => ?_) (fun c37 => ?_)
  · rw [if_pos c37] at h
    refine zw_aload_n hX dX8_moveLine_42 rfl ?_
    refine zw_iload_n hX dX8_moveLine_43 rfl ?_
    refine zw_aload hX dX8_moveLine_44 rfl ?_
    refine zw_iconst (v := (0 : Int32)) hX dX8_moveLine_46 (by decide) ?_
    obtain ⟨v10, g, h⟩ := zb_some h
    refine zw_xi hX dX8_moveLine_47 g ?_
    refine zw_iload_n hX dX8_moveLine_48 rfl ?_
    refine zw_iadd hX dX8_moveLine_49 ?_
    refine zw_aload hX dX8_moveLine_50 rfl ?_
    refine zw_iconst (v := (1 : Int32)) hX dX8_moveLine_52 (by decide) ?_
    obtain ⟨v11, g, h⟩ := zb_some h
    refine zw_xi hX dX8_moveLine_53 g ?_
    refine zw_iload_n hX dX8_moveLine_54 rfl ?_
    refine zw_iadd hX dX8_moveLine_55 ?_
    refine zw_aload hX dX8_moveLine_56 rfl ?_
    refine zw_iconst (v := (2 : Int32)) hX dX8_moveLine_58 (by decide) ?_
    obtain ⟨v12, g, h⟩ := zb_some h
    refine zw_xi hX dX8_moveLine_59 g ?_
    refine zw_iload_n hX dX8_moveLine_60 rfl ?_
    refine zw_iadd hX dX8_moveLine_61 ?_
    refine zw_aload hX dX8_moveLine_62 rfl ?_
    refine zw_iconst (v := (3 : Int32)) hX dX8_moveLine_64 (by decide) ?_
    obtain ⟨v13, g, h⟩ := zb_some h
    refine zw_xi hX dX8_moveLine_65 g ?_
    refine zw_iload_n hX dX8_moveLine_66 rfl ?_
    refine zw_iadd hX dX8_moveLine_67 ?_
    obtain ⟨_, gi, h⟩ := zb_some h
    obtain ⟨r16, g, h⟩ := zb_some h
    refine zc_Vv (as := [.int i1, .int (v10 + i2), .int (v11 + i3), .int (v12 + i2), .int (v13 + i3)]) hX gi (zt_X8_setEnds (d := d - 1) (by omega) g) zl_X8_40 rfl dX8_moveLine_68 ⟨rfl, rfl, Nat.le_of_ble_eq_true rfl⟩ ⟨by omega, by omega⟩ ?_
    refine zw_iconst (v := (1 : Int32)) hX dX8_moveLine_71 (by decide) ?_
    obtain rfl := Option.some.inj h
    exact zw_iret hX hr dX8_moveLine_72 rfl ⟨rfl, rfl⟩
  · rw [if_neg c37] at h
    refine zw_iconst (v := (0 : Int32)) hX dX8_moveLine_40 (by decide) ?_
    obtain rfl := Option.some.inj h
    exact zw_iret hX hr dX8_moveLine_41 rfl ⟨rfl, rfl⟩
def zf_X8_staysOnPlan (N : Nat) (a0 : Nat) (i1 : Int32) (i2 : Int32) (i3 : Int32) (S : zm_S) : Option (Int32 × zm_S) := (zg_r S a0 8 1).bind (fun b1 => (za_r S b1 i1).bind (fun b2 => (za_x S 0 b2 (0 : Int32)).bind (fun v3 => if (lg_cmp ((v3).toInt64 + (i2).toInt64) (0 : Int64)) < 0 then some ((0 : Int32), S) else (za_x S 0 b2 (2 : Int32)).bind (fun v4 => if 0 < (lg_cmp ((v4).toInt64 + (i2).toInt64) (24 : Int64)) then some ((0 : Int32), S) else (za_x S 0 b2 (1 : Int32)).bind (fun v5 => if (lg_cmp ((v5).toInt64 + (i3).toInt64) (0 : Int64)) < 0 then some ((0 : Int32), S) else (za_x S 0 b2 (3 : Int32)).bind (fun v6 => if 0 < (lg_cmp ((v6).toInt64 + (i3).toInt64) (24 : Int64)) then some ((0 : Int32), S) else some ((1 : Int32), S)))))))
set_option maxHeartbeats 4000000 in
set_option maxRecDepth 100000 in
theorem zt_X8_staysOnPlan {l : Launch} {V : zm_V} {N : Nat} {S : zm_S} {out : (Int32 × zm_S)} {d : Nat} {a0 : Nat} {i1 : Int32} {i2 : Int32} {i3 : Int32} (hd : 1 ≤ d) (h : zf_X8_staysOnPlan N a0 i1 i2 i3 S = some out) : zm_Met l zk_E V yX8_staysOnPlan (.code yX8_staysOnPlan cX8_staysOnPlan 5 (some .boolean)) d [.ref a0, .int i1, .int i2, .int i3] S 0 0 (zo_i out) zo_x := by
  refine zm_of (by decide +kernel) (Nat.le_of_ble_eq_true rfl) ?_
  intro p e R s m args below meth c hRR hX hr hxt
  have hR : R.frames = d ∧ R.locals = 64 * d := by rw [hRR]; exact ⟨rfl, rfl⟩
  have hX : zm_X p R s m args meth c RX8 "staysOnPlan" cX8_staysOnPlan 5 zk_E V 0 0 := hX
  unfold zf_X8_staysOnPlan at h
  refine zw_sub (lv' := [(0, .ref a0), (1, .int i1), (2, .int i2), (3, .int i3)]) (List.forall_mem_cons.mpr ⟨rfl, (List.forall_mem_cons.mpr ⟨rfl, (List.forall_mem_cons.mpr ⟨rfl, (List.forall_mem_cons.mpr ⟨rfl, zs_nil⟩)⟩)⟩)⟩) ?_
  refine zw_aload_n hX dX8_staysOnPlan_0 rfl ?_
  obtain ⟨b1, g, h⟩ := zb_some h
  refine zw_getr hX zl_X8_13 dX8_staysOnPlan_1 g ?_
  refine zw_iload_n hX dX8_staysOnPlan_4 rfl ?_
  obtain ⟨b2, g, h⟩ := zb_some h
  refine zw_xr hX dX8_staysOnPlan_5 g ?_
  refine zw_astore hX dX8_staysOnPlan_6 (by decide) ?_
  refine zw_aload hX dX8_staysOnPlan_8 rfl ?_
  refine zw_iconst (v := (0 : Int32)) hX dX8_staysOnPlan_10 (by decide) ?_
  obtain ⟨v3, g, h⟩ := zb_some h
  refine zw_xi hX dX8_staysOnPlan_11 g ?_
  refine zw_i2l hX dX8_staysOnPlan_12 ?_
  refine zw_iload_n hX dX8_staysOnPlan_13 rfl ?_
  refine zw_i2l hX dX8_staysOnPlan_14 ?_
  refine zw_ladd hX dX8_staysOnPlan_15 ?_
  refine zw_lconst (v := (0 : Int64)) hX dX8_staysOnPlan_16 (by decide) ?_
  refine zw_lcmp hX dX8_staysOnPlan_17 ?_
  refine zw_if_lt (tgt := 68) hX dX8_staysOnPlan_18 (by decide) (fun c18 => ?_) (fun c18 => ?_)
  · rw [if_pos c18] at h
    refine zw_iconst (v := (0 : Int32)) hX dX8_staysOnPlan_68 (by decide) ?_
    obtain rfl := Option.some.inj h
    exact zw_iret hX hr dX8_staysOnPlan_69 rfl ⟨rfl, rfl⟩
  · rw [if_neg c18] at h
    refine zw_aload hX dX8_staysOnPlan_21 rfl ?_
    refine zw_iconst (v := (2 : Int32)) hX dX8_staysOnPlan_23 (by decide) ?_
    obtain ⟨v4, g, h⟩ := zb_some h
    refine zw_xi hX dX8_staysOnPlan_24 g ?_
    refine zw_i2l hX dX8_staysOnPlan_25 ?_
    refine zw_iload_n hX dX8_staysOnPlan_26 rfl ?_
    refine zw_i2l hX dX8_staysOnPlan_27 ?_
    refine zw_ladd hX dX8_staysOnPlan_28 ?_
    refine zw_ldc2 (v := (24 : Int64)) hX dX8_staysOnPlan_29 zl_X8_46 ?_
    refine zw_lcmp hX dX8_staysOnPlan_32 ?_
    refine zw_if_gt (tgt := 68) hX dX8_staysOnPlan_33 (by decide) (fun c33 => ?_) (fun c33 => ?_)
    · rw [if_pos c33] at h
      refine zw_iconst (v := (0 : Int32)) hX dX8_staysOnPlan_68 (by decide) ?_
      obtain rfl := Option.some.inj h
      exact zw_iret hX hr dX8_staysOnPlan_69 rfl ⟨rfl, rfl⟩
    · rw [if_neg c33] at h
      refine zw_aload hX dX8_staysOnPlan_36 rfl ?_
      refine zw_iconst (v := (1 : Int32)) hX dX8_staysOnPlan_38 (by decide) ?_
      obtain ⟨v5, g, h⟩ := zb_some h
      refine zw_xi hX dX8_staysOnPlan_39 g ?_
      refine zw_i2l hX dX8_staysOnPlan_40 ?_
      refine zw_iload_n hX dX8_staysOnPlan_41 rfl ?_
      refine zw_i2l hX dX8_staysOnPlan_42 ?_
      refine zw_ladd hX dX8_staysOnPlan_43 ?_
      refine zw_lconst (v := (0 : Int64)) hX dX8_staysOnPlan_44 (by decide) ?_
      refine zw_lcmp hX dX8_staysOnPlan_45 ?_
      refine zw_if_lt (tgt := 68) hX dX8_staysOnPlan_46 (by decide) (fun c46 => ?_) (fun c46 => ?_)
      · rw [if_pos c46] at h
        refine zw_iconst (v := (0 : Int32)) hX dX8_staysOnPlan_68 (by decide) ?_
        obtain rfl := Option.some.inj h
        exact zw_iret hX hr dX8_staysOnPlan_69 rfl ⟨rfl, rfl⟩
      · rw [if_neg c46] at h
        refine zw_aload hX dX8_staysOnPlan_49 rfl ?_
        refine zw_iconst (v := (3 : Int32)) hX dX8_staysOnPlan_51 (by decide) ?_
        obtain ⟨v6, g, h⟩ := zb_some h
        refine zw_xi hX dX8_staysOnPlan_52 g ?_
        refine zw_i2l hX dX8_staysOnPlan_53 ?_
        refine zw_iload_n hX dX8_staysOnPlan_54 rfl ?_
        refine zw_i2l hX dX8_staysOnPlan_55 ?_
        refine zw_ladd hX dX8_staysOnPlan_56 ?_
        refine zw_ldc2 (v := (24 : Int64)) hX dX8_staysOnPlan_57 zl_X8_46 ?_
        refine zw_lcmp hX dX8_staysOnPlan_60 ?_
        refine zw_if_gt (tgt := 68) hX dX8_staysOnPlan_61 (by decide) (fun c61 => ?_) (fun c61 => ?_)
        · rw [if_pos c61] at h
          refine zw_iconst (v := (0 : Int32)) hX dX8_staysOnPlan_68 (by decide) ?_
          obtain rfl := Option.some.inj h
          exact zw_iret hX hr dX8_staysOnPlan_69 rfl ⟨rfl, rfl⟩
        · rw [if_neg c61] at h
          refine zw_iconst (v := (1 : Int32)) hX dX8_staysOnPlan_64 (by decide) ?_
          refine zw_goto (tgt := 69) hX dX8_staysOnPlan_65 (by decide) ?_
          obtain rfl := Option.some.inj h
          exact zw_iret hX hr dX8_staysOnPlan_69 rfl ⟨rfl, rfl⟩
def zf_X8_addDoor_J66 (N : Nat) (a0 : Nat) (i1 : Int32) (S : zm_S) : Option (Int32 × zm_S) := (zg_r S a0 8 2).bind (fun b3 => (za_x S 0 b3 i1).bind (fun v4 => some (v4, S)))
set_option maxHeartbeats 4000000 in
set_option maxRecDepth 100000 in
theorem zt_X8_addDoor_J66 {p : Program} {l : Launch} {e : Env} {R : Room} {s : State} {m : MethodId} {args : Array Value} {below : List Frame} {meth : Method} {c : Code} {V : zm_V} {mc ms d rc rs : Nat} (hX : zm_X p R s m args meth c RX8 "addDoor" cX8_addDoor 6 zk_E V mc ms) (hr : meth.sig.returnType = (some .int)) (hR : R.frames = d ∧ R.locals = 64 * d) (hd : 1 ≤ d) {N : Nat} {a0 : Nat} {i1 : Int32} {out : (Int32 × zm_S)} {S : zm_S} (h : zf_X8_addDoor_J66 N a0 i1 S = some out) : zw p l e R s m args below meth c (vx_MQ below (zm_Qc zk_E V (zo_i out)) (zm_XC zk_E V zo_x) args s mc ms (fun q => V.2.2.2.1 ≤ q)) 6 zk_E V mc ms 66 [(0, .ref a0), (1, .int i1)] [] S rc rs := by
  unfold zf_X8_addDoor_J66 at h
  refine zw_aload_n hX dX8_addDoor_66 rfl ?_
  obtain ⟨b3, g, h⟩ := zb_some h
  refine zw_getr hX zl_X8_16 dX8_addDoor_67 g ?_
  refine zw_iload_n hX dX8_addDoor_70 rfl ?_
  obtain ⟨v4, g, h⟩ := zb_some h
  refine zw_xi hX dX8_addDoor_71 g ?_
  obtain rfl := Option.some.inj h
  exact zw_iret hX hr dX8_addDoor_72 rfl ⟨rfl, rfl⟩
def zf_X8_addDoor (N : Nat) (a0 : Nat) (i1 : Int32) (i2 : Int32) (i3 : Int32) (i4 : Int32) (S : zm_S) : Option (Int32 × zm_S) := (zg_r S a0 8 2).bind (fun b1 => (za_x S 0 b1 i1).bind (fun v2 => if (6 : Int32) ≤ v2 then zf_X8_addDoor_J66 N a0 i1 S else (zg_r S a0 8 2).bind (fun b5 => (za_x S 0 b5 i1).bind (fun v6 => (zg_r S a0 8 3).bind (fun b7 => (za_r S b7 i1).bind (fun b8 => (zs_i S b8 ((3 : Int32) * v6) i2).bind (fun S9 => (zg_r S9 a0 8 3).bind (fun b10 => (za_r S9 b10 i1).bind (fun b11 => (zs_i S9 b11 (((3 : Int32) * v6) + (1 : Int32)) i3).bind (fun S12 => (zg_r S12 a0 8 3).bind (fun b13 => (za_r S12 b13 i1).bind (fun b14 => (zs_i S12 b14 (((3 : Int32) * v6) + (2 : Int32)) i4).bind (fun S15 => (zg_r S15 a0 8 2).bind (fun b16 => (za_x S15 0 b16 i1).bind (fun v17 => (zs_i S15 b16 i1 (v17 + (1 : Int32))).bind (fun S18 => zf_X8_addDoor_J66 N a0 i1 S18))))))))))))))))
set_option maxHeartbeats 4000000 in
set_option maxRecDepth 100000 in
theorem zt_X8_addDoor {l : Launch} {V : zm_V} {N : Nat} {S : zm_S} {out : (Int32 × zm_S)} {d : Nat} {a0 : Nat} {i1 : Int32} {i2 : Int32} {i3 : Int32} {i4 : Int32} (hd : 1 ≤ d) (h : zf_X8_addDoor N a0 i1 i2 i3 i4 S = some out) : zm_Met l zk_E V yX8_addDoor (.code yX8_addDoor cX8_addDoor 6 (some .int)) d [.ref a0, .int i1, .int i2, .int i3, .int i4] S 0 0 (zo_i out) zo_x := by
  refine zm_of (by decide +kernel) (Nat.le_of_ble_eq_true rfl) ?_
  intro p e R s m args below meth c hRR hX hr hxt
  have hR : R.frames = d ∧ R.locals = 64 * d := by rw [hRR]; exact ⟨rfl, rfl⟩
  have hX : zm_X p R s m args meth c RX8 "addDoor" cX8_addDoor 6 zk_E V 0 0 := hX
  unfold zf_X8_addDoor at h
  refine zw_sub (lv' := [(0, .ref a0), (1, .int i1), (2, .int i2), (3, .int i3), (4, .int i4)]) (List.forall_mem_cons.mpr ⟨rfl, (List.forall_mem_cons.mpr ⟨rfl, (List.forall_mem_cons.mpr ⟨rfl, (List.forall_mem_cons.mpr ⟨rfl, (List.forall_mem_cons.mpr ⟨rfl, zs_nil⟩)⟩)⟩)⟩)⟩) ?_
  refine zw_aload_n hX dX8_addDoor_0 rfl ?_
  obtain ⟨b1, g, h⟩ := zb_some h
  refine zw_getr hX zl_X8_16 dX8_addDoor_1 g ?_
  refine zw_iload_n hX dX8_addDoor_4 rfl ?_
  obtain ⟨v2, g, h⟩ := zb_some h
  refine zw_xi hX dX8_addDoor_5 g ?_
  refine zw_bipush (v := (6 : Int32)) hX dX8_addDoor_6 (by decide) ?_
  refine zw_icmp_ge (tgt := 66) hX dX8_addDoor_8 (by decide) (fun c8 => ?_) (fun c8 => ?_)
  · rw [if_pos c8] at h
    refine zw_sub (lv' := [(0, .ref a0), (1, .int i1)]) (List.forall_mem_cons.mpr ⟨rfl, (List.forall_mem_cons.mpr ⟨rfl, zs_nil⟩)⟩) ?_
    exact zt_X8_addDoor_J66 hX hr hR hd h
  · rw [if_neg c8] at h
    refine zw_iconst (v := (3 : Int32)) hX dX8_addDoor_11 (by decide) ?_
    refine zw_aload_n hX dX8_addDoor_12 rfl ?_
    obtain ⟨b5, g, h⟩ := zb_some h
    refine zw_getr hX zl_X8_16 dX8_addDoor_13 g ?_
    refine zw_iload_n hX dX8_addDoor_16 rfl ?_
    obtain ⟨v6, g, h⟩ := zb_some h
    refine zw_xi hX dX8_addDoor_17 g ?_
    refine zw_imul hX dX8_addDoor_18 ?_
    refine zw_istore hX dX8_addDoor_19 (by decide) ?_
    refine zw_aload_n hX dX8_addDoor_21 rfl ?_
    obtain ⟨b7, g, h⟩ := zb_some h
    refine zw_getr hX zl_X8_20 dX8_addDoor_22 g ?_
    refine zw_iload_n hX dX8_addDoor_25 rfl ?_
    obtain ⟨b8, g, h⟩ := zb_some h
    refine zw_xr hX dX8_addDoor_26 g ?_
    refine zw_iload hX dX8_addDoor_27 rfl ?_
    refine zw_iload_n hX dX8_addDoor_29 rfl ?_
    obtain ⟨S9, g, h⟩ := zb_some h
    refine zw_si hX dX8_addDoor_30 g ?_
    refine zw_aload_n hX dX8_addDoor_31 rfl ?_
    obtain ⟨b10, g, h⟩ := zb_some h
    refine zw_getr hX zl_X8_20 dX8_addDoor_32 g ?_
    refine zw_iload_n hX dX8_addDoor_35 rfl ?_
    obtain ⟨b11, g, h⟩ := zb_some h
    refine zw_xr hX dX8_addDoor_36 g ?_
    refine zw_iload hX dX8_addDoor_37 rfl ?_
    refine zw_iconst (v := (1 : Int32)) hX dX8_addDoor_39 (by decide) ?_
    refine zw_iadd hX dX8_addDoor_40 ?_
    refine zw_iload_n hX dX8_addDoor_41 rfl ?_
    obtain ⟨S12, g, h⟩ := zb_some h
    refine zw_si hX dX8_addDoor_42 g ?_
    refine zw_aload_n hX dX8_addDoor_43 rfl ?_
    obtain ⟨b13, g, h⟩ := zb_some h
    refine zw_getr hX zl_X8_20 dX8_addDoor_44 g ?_
    refine zw_iload_n hX dX8_addDoor_47 rfl ?_
    obtain ⟨b14, g, h⟩ := zb_some h
    refine zw_xr hX dX8_addDoor_48 g ?_
    refine zw_iload hX dX8_addDoor_49 rfl ?_
    refine zw_iconst (v := (2 : Int32)) hX dX8_addDoor_51 (by decide) ?_
    refine zw_iadd hX dX8_addDoor_52 ?_
    refine zw_iload hX dX8_addDoor_53 rfl ?_
    obtain ⟨S15, g, h⟩ := zb_some h
    refine zw_si hX dX8_addDoor_55 g ?_
    refine zw_aload_n hX dX8_addDoor_56 rfl ?_
    obtain ⟨b16, g, h⟩ := zb_some h
    refine zw_getr hX zl_X8_16 dX8_addDoor_57 g ?_
    refine zw_iload_n hX dX8_addDoor_60 rfl ?_
    refine zw_dup2 hX dX8_addDoor_61 rfl rfl ?_
    obtain ⟨v17, g, h⟩ := zb_some h
    refine zw_xi hX dX8_addDoor_62 g ?_
    refine zw_iconst (v := (1 : Int32)) hX dX8_addDoor_63 (by decide) ?_
    refine zw_iadd hX dX8_addDoor_64 ?_
    obtain ⟨S18, g, h⟩ := zb_some h
    refine zw_si hX dX8_addDoor_65 g ?_
    refine zw_sub (lv' := [(0, .ref a0), (1, .int i1)]) (List.forall_mem_cons.mpr ⟨rfl, (List.forall_mem_cons.mpr ⟨rfl, zs_nil⟩)⟩) ?_
    exact zt_X8_addDoor_J66 hX hr hR hd h
def zf_X8_isDoorAt (N : Nat) (a0 : Nat) (i1 : Int32) (i2 : Int32) (i3 : Int32) (S : zm_S) : Option (Int32 × zm_S) := (zi S a0 8).bind (fun _ => (zf_X8_fromOf N a0 i1 i2 S).bind (fun r3 => if i3 < r3.1 then some ((0 : Int32), r3.2) else (zi r3.2 a0 8).bind (fun _ => (zf_X8_toOf N a0 i1 i2 r3.2).bind (fun r6 => if r6.1 ≤ i3 then some ((0 : Int32), r6.2) else some ((1 : Int32), r6.2)))))
set_option maxHeartbeats 4000000 in
set_option maxRecDepth 100000 in
theorem zt_X8_isDoorAt {l : Launch} {V : zm_V} {N : Nat} {S : zm_S} {out : (Int32 × zm_S)} {d : Nat} {a0 : Nat} {i1 : Int32} {i2 : Int32} {i3 : Int32} (hd : 2 ≤ d) (h : zf_X8_isDoorAt N a0 i1 i2 i3 S = some out) : zm_Met l zk_E V yX8_isDoorAt (.code yX8_isDoorAt cX8_isDoorAt 4 (some .boolean)) d [.ref a0, .int i1, .int i2, .int i3] S 0 0 (zo_i out) zo_x := by
  refine zm_of (by decide +kernel) (Nat.le_of_ble_eq_true rfl) ?_
  intro p e R s m args below meth c hRR hX hr hxt
  have hR : R.frames = d ∧ R.locals = 64 * d := by rw [hRR]; exact ⟨rfl, rfl⟩
  have hX : zm_X p R s m args meth c RX8 "isDoorAt" cX8_isDoorAt 4 zk_E V 0 0 := hX
  unfold zf_X8_isDoorAt at h
  refine zw_sub (lv' := [(0, .ref a0), (1, .int i1), (2, .int i2), (3, .int i3)]) (List.forall_mem_cons.mpr ⟨rfl, (List.forall_mem_cons.mpr ⟨rfl, (List.forall_mem_cons.mpr ⟨rfl, (List.forall_mem_cons.mpr ⟨rfl, zs_nil⟩)⟩)⟩)⟩) ?_
  refine zw_aload_n hX dX8_isDoorAt_0 rfl ?_
  refine zw_iload_n hX dX8_isDoorAt_1 rfl ?_
  refine zw_iload_n hX dX8_isDoorAt_2 rfl ?_
  obtain ⟨_, gi, h⟩ := zb_some h
  obtain ⟨r3, g, h⟩ := zb_some h
  refine zc_Vi (as := [.int i1, .int i2]) hX gi (zt_X8_fromOf (d := d - 1) (by omega) g) zl_X8_52 rfl dX8_isDoorAt_3 ⟨rfl, rfl, Nat.le_of_ble_eq_true rfl⟩ ⟨by omega, by omega⟩ ?_
  refine zw_iload_n hX dX8_isDoorAt_6 rfl ?_
  refine zw_icmp_gt (tgt := 24) hX dX8_isDoorAt_7 (by decide) (fun c7 => ?_) (fun c7 => ?_)
  · rw [if_pos c7] at h
    refine zw_iconst (v := (0 : Int32)) hX dX8_isDoorAt_24 (by decide) ?_
    obtain rfl := Option.some.inj h
    exact zw_iret hX hr dX8_isDoorAt_25 rfl ⟨rfl, rfl⟩
  · rw [if_neg c7] at h
    refine zw_iload_n hX dX8_isDoorAt_10 rfl ?_
    refine zw_aload_n hX dX8_isDoorAt_11 rfl ?_
    refine zw_iload_n hX dX8_isDoorAt_12 rfl ?_
    refine zw_iload_n hX dX8_isDoorAt_13 rfl ?_
    obtain ⟨_, gi, h⟩ := zb_some h
    obtain ⟨r6, g, h⟩ := zb_some h
    refine zc_Vi (as := [.int i1, .int i2]) hX gi (zt_X8_toOf (d := d - 1) (by omega) g) zl_X8_55 rfl dX8_isDoorAt_14 ⟨rfl, rfl, Nat.le_of_ble_eq_true rfl⟩ ⟨by omega, by omega⟩ ?_
    refine zw_icmp_ge (tgt := 24) hX dX8_isDoorAt_17 (by decide) (fun c17 => ?_) (fun c17 => ?_)
    · rw [if_pos c17] at h
      refine zw_iconst (v := (0 : Int32)) hX dX8_isDoorAt_24 (by decide) ?_
      obtain rfl := Option.some.inj h
      exact zw_iret hX hr dX8_isDoorAt_25 rfl ⟨rfl, rfl⟩
    · rw [if_neg c17] at h
      refine zw_iconst (v := (1 : Int32)) hX dX8_isDoorAt_20 (by decide) ?_
      refine zw_goto (tgt := 25) hX dX8_isDoorAt_21 (by decide) ?_
      obtain rfl := Option.some.inj h
      exact zw_iret hX hr dX8_isDoorAt_25 rfl ⟨rfl, rfl⟩
def zf_X8_hasDoorAt_L2 (N : Nat) : Nat → Nat → Int32 → Int32 → Int32 → zm_S → Option ((Int32 × zm_S) ⊕ ((Unit) × zm_S))
  | 0, _, _, _, _, _ => none
  | n + 1, a0, i1, i2, i3, S => (zg_r S a0 8 2).bind (fun b1 => (za_x S 0 b1 i1).bind (fun v2 => if v2 ≤ i3 then some (.inr ((), S)) else (zi S a0 8).bind (fun _ => (zf_X8_isDoorAt N a0 i1 i3 i2 S).bind (fun r5 => if r5.1 = 0 then zf_X8_hasDoorAt_L2 N n a0 i1 i2 (i3 + (1 : Int32)) r5.2 else some (.inl ((1 : Int32), r5.2))))))
set_option maxHeartbeats 4000000 in
set_option maxRecDepth 100000 in
theorem zt_X8_hasDoorAt_L2 {p : Program} {l : Launch} {e : Env} {R : Room} {s : State} {m : MethodId} {args : Array Value} {below : List Frame} {meth : Method} {c : Code} {V : zm_V} {mc ms d rc rs : Nat} (hX : zm_X p R s m args meth c RX8 "hasDoorAt" cX8_hasDoorAt 4 zk_E V mc ms) (hr : meth.sig.returnType = (some .boolean)) (hR : R.frames = d ∧ R.locals = 64 * d) (hd : 3 ≤ d) {N : Nat} {res : (Int32 × zm_S) ⊕ ((Unit) × zm_S)} {out : (Int32 × zm_S)} (a0 : Nat) (i1 : Int32) (i2 : Int32) (hf : ∀ o, res = .inl o → o = out) (hk : ∀ (S' : zm_S), res = .inr ((), S') → zw p l e R s m args below meth c (vx_MQ below (zm_Qc zk_E V (zo_i out)) (zm_XC zk_E V zo_x) args s mc ms (fun q => V.2.2.2.1 ≤ q)) 4 zk_E V mc ms 30 [] [] S' rc rs) : ∀ (n : Nat) (i3 : Int32) (S : zm_S), zf_X8_hasDoorAt_L2 N n a0 i1 i2 i3 S = some res → zw p l e R s m args below meth c (vx_MQ below (zm_Qc zk_E V (zo_i out)) (zm_XC zk_E V zo_x) args s mc ms (fun q => V.2.2.2.1 ≤ q)) 4 zk_E V mc ms 2 [(0, .ref a0), (1, .int i1), (2, .int i2), (3, .int i3)] [] S rc rs := by
  intro n
  induction n with
  | zero => intro i3 S h; cases h
  | succ n ih =>
    intro i3 S h
    rw [zf_X8_hasDoorAt_L2] at h
    refine zw_iload_n hX dX8_hasDoorAt_2 rfl ?_
    refine zw_aload_n hX dX8_hasDoorAt_3 rfl ?_
    obtain ⟨b1, g, h⟩ := zb_some h
    refine zw_getr hX zl_X8_16 dX8_hasDoorAt_4 g ?_
    refine zw_iload_n hX dX8_hasDoorAt_7 rfl ?_
    obtain ⟨v2, g, h⟩ := zb_some h
    refine zw_xi hX dX8_hasDoorAt_8 g ?_
    refine zw_icmp_ge (tgt := 30) hX dX8_hasDoorAt_9 (by decide) (fun c9 => ?_) (fun c9 => ?_)
    · rw [if_pos c9] at h
      refine zw_sub (lv' := []) zs_nil ?_
      exact hk  _ (Option.some.inj h).symm
    · rw [if_neg c9] at h
      refine zw_aload_n hX dX8_hasDoorAt_12 rfl ?_
      refine zw_iload_n hX dX8_hasDoorAt_13 rfl ?_
      refine zw_iload_n hX dX8_hasDoorAt_14 rfl ?_
      refine zw_iload_n hX dX8_hasDoorAt_15 rfl ?_
      obtain ⟨_, gi, h⟩ := zb_some h
      obtain ⟨r5, g, h⟩ := zb_some h
      refine zc_Vi (as := [.int i1, .int i3, .int i2]) hX gi (zt_X8_isDoorAt (d := d - 1) (by omega) g) zl_X8_48 rfl dX8_hasDoorAt_16 ⟨rfl, rfl, Nat.le_of_ble_eq_true rfl⟩ ⟨by omega, by omega⟩ ?_
      refine zw_if_eq (tgt := 24) hX dX8_hasDoorAt_19 (by decide) (fun c19 => ?_) (fun c19 => ?_)
      · rw [if_pos c19] at h
        refine zw_iinc (v := (i3 + (1 : Int32))) hX dX8_hasDoorAt_24 rfl rfl (by decide) ?_
        refine zw_goto (tgt := 2) hX dX8_hasDoorAt_27 (by decide) ?_
        refine zw_sub (lv' := [(0, .ref a0), (1, .int i1), (2, .int i2), (3, .int (i3 + (1 : Int32)))]) (List.forall_mem_cons.mpr ⟨rfl, (List.forall_mem_cons.mpr ⟨rfl, (List.forall_mem_cons.mpr ⟨rfl, (List.forall_mem_cons.mpr ⟨rfl, zs_nil⟩)⟩)⟩)⟩) ?_
        exact ih _ _ h
      · rw [if_neg c19] at h
        refine zw_iconst (v := (1 : Int32)) hX dX8_hasDoorAt_22 (by decide) ?_
        have hz := hf _ (Option.some.inj h).symm
        subst hz
        exact zw_iret hX hr dX8_hasDoorAt_23 rfl ⟨rfl, rfl⟩
def zf_X8_hasDoorAt (N : Nat) (a0 : Nat) (i1 : Int32) (i2 : Int32) (S : zm_S) : Option (Int32 × zm_S) := (zf_X8_hasDoorAt_L2 N N a0 i1 i2 (0 : Int32) S).bind (fun r => match r with | .inl o => some o | .inr (_, S6) => some ((0 : Int32), S6))
set_option maxHeartbeats 4000000 in
set_option maxRecDepth 100000 in
theorem zt_X8_hasDoorAt {l : Launch} {V : zm_V} {N : Nat} {S : zm_S} {out : (Int32 × zm_S)} {d : Nat} {a0 : Nat} {i1 : Int32} {i2 : Int32} (hd : 3 ≤ d) (h : zf_X8_hasDoorAt N a0 i1 i2 S = some out) : zm_Met l zk_E V yX8_hasDoorAt (.code yX8_hasDoorAt cX8_hasDoorAt 4 (some .boolean)) d [.ref a0, .int i1, .int i2] S 0 0 (zo_i out) zo_x := by
  refine zm_of (by decide +kernel) (Nat.le_of_ble_eq_true rfl) ?_
  intro p e R s m args below meth c hRR hX hr hxt
  have hR : R.frames = d ∧ R.locals = 64 * d := by rw [hRR]; exact ⟨rfl, rfl⟩
  have hX : zm_X p R s m args meth c RX8 "hasDoorAt" cX8_hasDoorAt 4 zk_E V 0 0 := hX
  unfold zf_X8_hasDoorAt at h
  refine zw_sub (lv' := [(0, .ref a0), (1, .int i1), (2, .int i2)]) (List.forall_mem_cons.mpr ⟨rfl, (List.forall_mem_cons.mpr ⟨rfl, (List.forall_mem_cons.mpr ⟨rfl, zs_nil⟩)⟩)⟩) ?_
  refine zw_iconst (v := (0 : Int32)) hX dX8_hasDoorAt_0 (by decide) ?_
  refine zw_istore_n hX dX8_hasDoorAt_1 (by decide) ?_
  obtain ⟨r, g, h⟩ := zb_some h
  refine zw_sub (lv' := [(0, .ref a0), (1, .int i1), (2, .int i2), (3, .int (0 : Int32))]) (List.forall_mem_cons.mpr ⟨rfl, (List.forall_mem_cons.mpr ⟨rfl, (List.forall_mem_cons.mpr ⟨rfl, (List.forall_mem_cons.mpr ⟨rfl, zs_nil⟩)⟩)⟩)⟩) ?_
  refine zt_X8_hasDoorAt_L2 hX hr hR hd (res := r) (out := out) a0 i1 i2 ?_ ?_ N _ _ g
  · intro o ho
    subst ho
    exact Option.some.inj h
  · intro  S6 hx
    subst hx
    try dsimp only at h
    refine zw_iconst (v := (0 : Int32)) hX dX8_hasDoorAt_30 (by decide) ?_
    obtain rfl := Option.some.inj h
    exact zw_iret hX hr dX8_hasDoorAt_31 rfl ⟨rfl, rfl⟩
def zf_X8_rateOf (N : Nat) (a0 : Nat) (i1 : Int32) (i2 : Int32) (S : zm_S) : Option (Int32 × zm_S) := (zg_r S a0 8 3).bind (fun b1 => (za_r S b1 i1).bind (fun b2 => (za_x S 0 b2 (((3 : Int32) * i2) + (2 : Int32))).bind (fun v3 => some (v3, S))))
set_option maxHeartbeats 4000000 in
set_option maxRecDepth 100000 in
theorem zt_X8_rateOf {l : Launch} {V : zm_V} {N : Nat} {S : zm_S} {out : (Int32 × zm_S)} {d : Nat} {a0 : Nat} {i1 : Int32} {i2 : Int32} (hd : 1 ≤ d) (h : zf_X8_rateOf N a0 i1 i2 S = some out) : zm_Met l zk_E V yX8_rateOf (.code yX8_rateOf cX8_rateOf 3 (some .int)) d [.ref a0, .int i1, .int i2] S 0 0 (zo_i out) zo_x := by
  refine zm_of (by decide +kernel) (Nat.le_of_ble_eq_true rfl) ?_
  intro p e R s m args below meth c hRR hX hr hxt
  have hR : R.frames = d ∧ R.locals = 64 * d := by rw [hRR]; exact ⟨rfl, rfl⟩
  have hX : zm_X p R s m args meth c RX8 "rateOf" cX8_rateOf 3 zk_E V 0 0 := hX
  unfold zf_X8_rateOf at h
  refine zw_sub (lv' := [(0, .ref a0), (1, .int i1), (2, .int i2)]) (List.forall_mem_cons.mpr ⟨rfl, (List.forall_mem_cons.mpr ⟨rfl, (List.forall_mem_cons.mpr ⟨rfl, zs_nil⟩)⟩)⟩) ?_
  refine zw_aload_n hX dX8_rateOf_0 rfl ?_
  obtain ⟨b1, g, h⟩ := zb_some h
  refine zw_getr hX zl_X8_20 dX8_rateOf_1 g ?_
  refine zw_iload_n hX dX8_rateOf_4 rfl ?_
  obtain ⟨b2, g, h⟩ := zb_some h
  refine zw_xr hX dX8_rateOf_5 g ?_
  refine zw_iconst (v := (3 : Int32)) hX dX8_rateOf_6 (by decide) ?_
  refine zw_iload_n hX dX8_rateOf_7 rfl ?_
  refine zw_imul hX dX8_rateOf_8 ?_
  refine zw_iconst (v := (2 : Int32)) hX dX8_rateOf_9 (by decide) ?_
  refine zw_iadd hX dX8_rateOf_10 ?_
  obtain ⟨v3, g, h⟩ := zb_some h
  refine zw_xi hX dX8_rateOf_11 g ?_
  obtain rfl := Option.some.inj h
  exact zw_iret hX hr dX8_rateOf_12 rfl ⟨rfl, rfl⟩
def zf_X9_addBlock (N : Nat) (a0 : Nat) (i1 : Int32) (S : zm_S) : Option (Int32 × zm_S) := (zg_i S a0 9 0).bind (fun v1 => if v1 < (40 : Int32) then (zg_r S a0 9 1).bind (fun b2 => (zg_i S a0 9 0).bind (fun v3 => (zs_i S b2 v3 i1).bind (fun S4 => (zg_r S4 a0 9 5).bind (fun b5 => (zg_i S4 a0 9 0).bind (fun v6 => (za_r S4 b5 v6).bind (fun b7 => (zf_J7_fill_53178 N b7 (-1 : Int32) S4).bind (fun r10 => (zg_r r10.2 a0 9 11).bind (fun b11 => (zg_i r10.2 a0 9 0).bind (fun v12 => (zs_i r10.2 b11 v12 (-1 : Int32)).bind (fun S13 => (zp S13 a0 9 13 (.int (0 : Int32))).bind (fun S14 => (zg_i S14 a0 9 0).bind (fun v15 => (zp S14 a0 9 0 (.int (v15 + (1 : Int32)))).bind (fun S16 => (zg_i S16 a0 9 0).bind (fun v17 => some ((v17 - (1 : Int32)), S16))))))))))))))) else some ((-1 : Int32), S))
set_option maxHeartbeats 4000000 in
set_option maxRecDepth 100000 in
theorem zt_X9_addBlock {l : Launch} {V : zm_V} {N : Nat} {S : zm_S} {out : (Int32 × zm_S)} {d : Nat} {a0 : Nat} {i1 : Int32} (hd : 2 ≤ d) (h : zf_X9_addBlock N a0 i1 S = some out) : zm_Met l zk_E V yX9_addBlock (.code yX9_addBlock cX9_addBlock 2 (some .int)) d [.ref a0, .int i1] S 0 0 (zo_i out) zo_x := by
  refine zm_of (by decide +kernel) (Nat.le_of_ble_eq_true rfl) ?_
  intro p e R s m args below meth c hRR hX hr hxt
  have hR : R.frames = d ∧ R.locals = 64 * d := by rw [hRR]; exact ⟨rfl, rfl⟩
  have hX : zm_X p R s m args meth c RX9 "addBlock" cX9_addBlock 2 zk_E V 0 0 := hX
  unfold zf_X9_addBlock at h
  refine zw_sub (lv' := [(0, .ref a0), (1, .int i1)]) (List.forall_mem_cons.mpr ⟨rfl, (List.forall_mem_cons.mpr ⟨rfl, zs_nil⟩)⟩) ?_
  refine zw_aload_n hX dX9_addBlock_0 rfl ?_
  obtain ⟨v1, g, h⟩ := zb_some h
  refine zw_geti hX zl_X9_60 dX9_addBlock_1 g ?_
  refine zw_bipush (v := (40 : Int32)) hX dX9_addBlock_4 (by decide) ?_
  refine zw_icmp_lt (tgt := 11) hX dX9_addBlock_6 (by decide) (fun c6 => ?_) (fun c6 => ?_)
  · rw [if_pos c6] at h
    refine zw_aload_n hX dX9_addBlock_11 rfl ?_
    obtain ⟨b2, g, h⟩ := zb_some h
    refine zw_getr hX zl_X9_11 dX9_addBlock_12 g ?_
    refine zw_aload_n hX dX9_addBlock_15 rfl ?_
    obtain ⟨v3, g, h⟩ := zb_some h
    refine zw_geti hX zl_X9_60 dX9_addBlock_16 g ?_
    refine zw_iload_n hX dX9_addBlock_19 rfl ?_
    obtain ⟨S4, g, h⟩ := zb_some h
    refine zw_si hX dX9_addBlock_20 g ?_
    refine zw_aload_n hX dX9_addBlock_21 rfl ?_
    obtain ⟨b5, g, h⟩ := zb_some h
    refine zw_getr hX zl_X9_26 dX9_addBlock_22 g ?_
    refine zw_aload_n hX dX9_addBlock_25 rfl ?_
    obtain ⟨v6, g, h⟩ := zb_some h
    refine zw_geti hX zl_X9_60 dX9_addBlock_26 g ?_
    obtain ⟨b7, g, h⟩ := zb_some h
    refine zw_xr hX dX9_addBlock_29 g ?_
    refine zw_iconst (v := (-1 : Int32)) hX dX9_addBlock_30 (by decide) ?_
    obtain ⟨r10, g, h⟩ := zb_some h
    refine zc_Sv (as := [.ref b7, .int (-1 : Int32)]) hX (zt_J7_fill_53178 (d := d - 1) (by omega) g) zl_X9_64 dX9_addBlock_31 ⟨rfl, rfl, Nat.le_of_ble_eq_true rfl⟩ ⟨by omega, by omega⟩ ?_
    refine zw_aload_n hX dX9_addBlock_34 rfl ?_
    obtain ⟨b11, g, h⟩ := zb_some h
    refine zw_getr hX zl_X9_45 dX9_addBlock_35 g ?_
    refine zw_aload_n hX dX9_addBlock_38 rfl ?_
    obtain ⟨v12, g, h⟩ := zb_some h
    refine zw_geti hX zl_X9_60 dX9_addBlock_39 g ?_
    refine zw_iconst (v := (-1 : Int32)) hX dX9_addBlock_42 (by decide) ?_
    obtain ⟨S13, g, h⟩ := zb_some h
    refine zw_si hX dX9_addBlock_43 g ?_
    refine zw_aload_n hX dX9_addBlock_44 rfl ?_
    refine zw_iconst (v := (0 : Int32)) hX dX9_addBlock_45 (by decide) ?_
    obtain ⟨S14, g, h⟩ := zb_some h
    refine zw_putv hX zl_X9_70 zt_9_13 dX9_addBlock_46 rfl (by decide) g ?_
    refine zw_aload_n hX dX9_addBlock_49 rfl ?_
    refine zw_dup hX dX9_addBlock_50 rfl ?_
    obtain ⟨v15, g, h⟩ := zb_some h
    refine zw_geti hX zl_X9_60 dX9_addBlock_51 g ?_
    refine zw_iconst (v := (1 : Int32)) hX dX9_addBlock_54 (by decide) ?_
    refine zw_iadd hX dX9_addBlock_55 ?_
    obtain ⟨S16, g, h⟩ := zb_some h
    refine zw_putv hX zl_X9_60 zt_9_0 dX9_addBlock_56 rfl rfl g ?_
    refine zw_aload_n hX dX9_addBlock_59 rfl ?_
    obtain ⟨v17, g, h⟩ := zb_some h
    refine zw_geti hX zl_X9_60 dX9_addBlock_60 g ?_
    refine zw_iconst (v := (1 : Int32)) hX dX9_addBlock_63 (by decide) ?_
    refine zw_isub hX dX9_addBlock_64 ?_
    obtain rfl := Option.some.inj h
    exact zw_iret hX hr dX9_addBlock_65 rfl ⟨rfl, rfl⟩
  · rw [if_neg c6] at h
    refine zw_iconst (v := (-1 : Int32)) hX dX9_addBlock_9 (by decide) ?_
    obtain rfl := Option.some.inj h
    exact zw_iret hX hr dX9_addBlock_10 rfl ⟨rfl, rfl⟩
def zf_X9_setInput (N : Nat) (a0 : Nat) (i1 : Int32) (i2 : Int32) (i3 : Int32) (S : zm_S) : Option (Int32 × zm_S) := (zg_r S a0 9 5).bind (fun b1 => (za_r S b1 i1).bind (fun b2 => (za_x S 0 b2 i2).bind (fun v3 => (zg_r S a0 9 5).bind (fun b4 => (za_r S b4 i1).bind (fun b5 => (zs_i S b5 i2 i3).bind (fun S6 => (zp S6 a0 9 13 (.int (0 : Int32))).bind (fun S7 => some (v3, S7))))))))
set_option maxHeartbeats 4000000 in
set_option maxRecDepth 100000 in
theorem zt_X9_setInput {l : Launch} {V : zm_V} {N : Nat} {S : zm_S} {out : (Int32 × zm_S)} {d : Nat} {a0 : Nat} {i1 : Int32} {i2 : Int32} {i3 : Int32} (hd : 1 ≤ d) (h : zf_X9_setInput N a0 i1 i2 i3 S = some out) : zm_Met l zk_E V yX9_setInput (.code yX9_setInput cX9_setInput 5 (some .int)) d [.ref a0, .int i1, .int i2, .int i3] S 0 0 (zo_i out) zo_x := by
  refine zm_of (by decide +kernel) (Nat.le_of_ble_eq_true rfl) ?_
  intro p e R s m args below meth c hRR hX hr hxt
  have hR : R.frames = d ∧ R.locals = 64 * d := by rw [hRR]; exact ⟨rfl, rfl⟩
  have hX : zm_X p R s m args meth c RX9 "setInput" cX9_setInput 5 zk_E V 0 0 := hX
  unfold zf_X9_setInput at h
  refine zw_sub (lv' := [(0, .ref a0), (1, .int i1), (2, .int i2), (3, .int i3)]) (List.forall_mem_cons.mpr ⟨rfl, (List.forall_mem_cons.mpr ⟨rfl, (List.forall_mem_cons.mpr ⟨rfl, (List.forall_mem_cons.mpr ⟨rfl, zs_nil⟩)⟩)⟩)⟩) ?_
  refine zw_aload_n hX dX9_setInput_0 rfl ?_
  obtain ⟨b1, g, h⟩ := zb_some h
  refine zw_getr hX zl_X9_26 dX9_setInput_1 g ?_
  refine zw_iload_n hX dX9_setInput_4 rfl ?_
  obtain ⟨b2, g, h⟩ := zb_some h
  refine zw_xr hX dX9_setInput_5 g ?_
  refine zw_iload_n hX dX9_setInput_6 rfl ?_
  obtain ⟨v3, g, h⟩ := zb_some h
  refine zw_xi hX dX9_setInput_7 g ?_
  refine zw_istore hX dX9_setInput_8 (by decide) ?_
  refine zw_aload_n hX dX9_setInput_10 rfl ?_
  obtain ⟨b4, g, h⟩ := zb_some h
  refine zw_getr hX zl_X9_26 dX9_setInput_11 g ?_
  refine zw_iload_n hX dX9_setInput_14 rfl ?_
  obtain ⟨b5, g, h⟩ := zb_some h
  refine zw_xr hX dX9_setInput_15 g ?_
  refine zw_iload_n hX dX9_setInput_16 rfl ?_
  refine zw_iload_n hX dX9_setInput_17 rfl ?_
  obtain ⟨S6, g, h⟩ := zb_some h
  refine zw_si hX dX9_setInput_18 g ?_
  refine zw_aload_n hX dX9_setInput_19 rfl ?_
  refine zw_iconst (v := (0 : Int32)) hX dX9_setInput_20 (by decide) ?_
  obtain ⟨S7, g, h⟩ := zb_some h
  refine zw_putv hX zl_X9_70 zt_9_13 dX9_setInput_21 rfl (by decide) g ?_
  refine zw_iload hX dX9_setInput_24 rfl ?_
  obtain rfl := Option.some.inj h
  exact zw_iret hX hr dX9_setInput_26 rfl ⟨rfl, rfl⟩
def zf_X9_mayCome_L15 (N : Nat) : Nat → Nat → Int32 → Int32 → zm_S → Option ((Int32 × zm_S) ⊕ ((Unit) × zm_S))
  | 0, _, _, _, _ => none
  | n + 1, a0, i1, i2, S => (zg_r S a0 9 1).bind (fun b3 => (za_x S 0 b3 i1).bind (fun v4 => (za_x S 0 5 v4).bind (fun v5 => if v5 ≤ i2 then some (.inr ((), S)) else (zg_r S a0 9 5).bind (fun b6 => (za_r S b6 i1).bind (fun b7 => (za_x S 0 b7 i2).bind (fun v8 => if v8 = (-1 : Int32) then zf_X9_mayCome_L15 N n a0 i1 (i2 + (1 : Int32)) S else (zg_r S a0 9 16).bind (fun b9 => (za_x S 0 b9 v8).bind (fun v10 => if v10 = (-1 : Int32) then some (.inl ((0 : Int32), S)) else zf_X9_mayCome_L15 N n a0 i1 (i2 + (1 : Int32)) S))))))))
set_option maxHeartbeats 4000000 in
set_option maxRecDepth 100000 in
theorem zt_X9_mayCome_L15 {p : Program} {l : Launch} {e : Env} {R : Room} {s : State} {m : MethodId} {args : Array Value} {below : List Frame} {meth : Method} {c : Code} {V : zm_V} {mc ms d rc rs : Nat} (hX : zm_X p R s m args meth c RX9 "mayCome" cX9_mayCome 4 zk_E V mc ms) (hr : meth.sig.returnType = (some .boolean)) (hR : R.frames = d ∧ R.locals = 64 * d) (hd : 1 ≤ d) {N : Nat} {res : (Int32 × zm_S) ⊕ ((Unit) × zm_S)} {out : (Int32 × zm_S)} (a0 : Nat) (i1 : Int32) (hf : ∀ o, res = .inl o → o = out) (hk : ∀ (S' : zm_S), res = .inr ((), S') → zw p l e R s m args below meth c (vx_MQ below (zm_Qc zk_E V (zo_i out)) (zm_XC zk_E V zo_x) args s mc ms (fun q => V.2.2.2.1 ≤ q)) 4 zk_E V mc ms 61 [] [] S' rc rs) : ∀ (n : Nat) (i2 : Int32) (S : zm_S), zf_X9_mayCome_L15 N n a0 i1 i2 S = some res → zw p l e R s m args below meth c (vx_MQ below (zm_Qc zk_E V (zo_i out)) (zm_XC zk_E V zo_x) args s mc ms (fun q => V.2.2.2.1 ≤ q)) 4 zk_E V mc ms 15 [(0, .ref a0), (1, .int i1), (2, .int i2)] [] S rc rs := by
  intro n
  induction n with
  | zero => intro i2 S h; cases h
  | succ n ih =>
    intro i2 S h
    rw [zf_X9_mayCome_L15] at h
    refine zw_iload_n hX dX9_mayCome_15 rfl ?_
    refine zw_gets (C := "TowerHouse$Program") (n := "INPUTS") (d := "[I") (k := 5) hX (List.mem_of_getElem? (i := 4) rfl) (by decide) zl_X9_92 dX9_mayCome_16 ?_
    refine zw_aload_n hX dX9_mayCome_19 rfl ?_
    obtain ⟨b3, g, h⟩ := zb_some h
    refine zw_getr hX zl_X9_11 dX9_mayCome_20 g ?_
    refine zw_iload_n hX dX9_mayCome_23 rfl ?_
    obtain ⟨v4, g, h⟩ := zb_some h
    refine zw_xi hX dX9_mayCome_24 g ?_
    obtain ⟨v5, g, h⟩ := zb_some h
    refine zw_xi hX dX9_mayCome_25 g ?_
    refine zw_icmp_ge (tgt := 61) hX dX9_mayCome_26 (by decide) (fun c26 => ?_) (fun c26 => ?_)
    · rw [if_pos c26] at h
      refine zw_sub (lv' := []) zs_nil ?_
      exact hk  _ (Option.some.inj h).symm
    · rw [if_neg c26] at h
      refine zw_aload_n hX dX9_mayCome_29 rfl ?_
      obtain ⟨b6, g, h⟩ := zb_some h
      refine zw_getr hX zl_X9_26 dX9_mayCome_30 g ?_
      refine zw_iload_n hX dX9_mayCome_33 rfl ?_
      obtain ⟨b7, g, h⟩ := zb_some h
      refine zw_xr hX dX9_mayCome_34 g ?_
      refine zw_iload_n hX dX9_mayCome_35 rfl ?_
      obtain ⟨v8, g, h⟩ := zb_some h
      refine zw_xi hX dX9_mayCome_36 g ?_
      refine zw_istore_n hX dX9_mayCome_37 (by decide) ?_
      refine zw_iload_n hX dX9_mayCome_38 rfl ?_
      refine zw_iconst (v := (-1 : Int32)) hX dX9_mayCome_39 (by decide) ?_
      refine zw_icmp_eq (tgt := 55) hX dX9_mayCome_40 (by decide) (fun c40 => ?_) (fun c40 => ?_)
      · rw [if_pos c40] at h
        refine zw_iinc (v := (i2 + (1 : Int32))) hX dX9_mayCome_55 rfl rfl (by decide) ?_
        refine zw_goto (tgt := 15) hX dX9_mayCome_58 (by decide) ?_
        refine zw_sub (lv' := [(0, .ref a0), (1, .int i1), (2, .int (i2 + (1 : Int32)))]) (List.forall_mem_cons.mpr ⟨rfl, (List.forall_mem_cons.mpr ⟨rfl, (List.forall_mem_cons.mpr ⟨rfl, zs_nil⟩)⟩)⟩) ?_
        exact ih _ _ h
      · rw [if_neg c40] at h
        refine zw_aload_n hX dX9_mayCome_43 rfl ?_
        obtain ⟨b9, g, h⟩ := zb_some h
        refine zw_getr hX zl_X9_54 dX9_mayCome_44 g ?_
        refine zw_iload_n hX dX9_mayCome_47 rfl ?_
        obtain ⟨v10, g, h⟩ := zb_some h
        refine zw_xi hX dX9_mayCome_48 g ?_
        refine zw_iconst (v := (-1 : Int32)) hX dX9_mayCome_49 (by decide) ?_
        refine zw_icmp_ne (tgt := 55) hX dX9_mayCome_50 (by decide) (fun c50 => ?_) (fun c50 => ?_)
        · rw [if_neg c50] at h
          refine zw_iinc (v := (i2 + (1 : Int32))) hX dX9_mayCome_55 rfl rfl (by decide) ?_
          refine zw_goto (tgt := 15) hX dX9_mayCome_58 (by decide) ?_
          refine zw_sub (lv' := [(0, .ref a0), (1, .int i1), (2, .int (i2 + (1 : Int32)))]) (List.forall_mem_cons.mpr ⟨rfl, (List.forall_mem_cons.mpr ⟨rfl, (List.forall_mem_cons.mpr ⟨rfl, zs_nil⟩)⟩)⟩) ?_
          exact ih _ _ h
        · rw [if_pos c50] at h
          refine zw_iconst (v := (0 : Int32)) hX dX9_mayCome_53 (by decide) ?_
          have hz := hf _ (Option.some.inj h).symm
          subst hz
          exact zw_iret hX hr dX9_mayCome_54 rfl ⟨rfl, rfl⟩
def zf_X9_mayCome (N : Nat) (a0 : Nat) (i1 : Int32) (S : zm_S) : Option (Int32 × zm_S) := (zg_r S a0 9 1).bind (fun b1 => (za_x S 0 b1 i1).bind (fun v2 => if v2 = (16 : Int32) then some ((1 : Int32), S) else (zf_X9_mayCome_L15 N N a0 i1 (0 : Int32) S).bind (fun r => match r with | .inl o => some o | .inr (_, S11) => some ((1 : Int32), S11))))
set_option maxHeartbeats 4000000 in
set_option maxRecDepth 100000 in
theorem zt_X9_mayCome {l : Launch} {V : zm_V} {N : Nat} {S : zm_S} {out : (Int32 × zm_S)} {d : Nat} {a0 : Nat} {i1 : Int32} (hd : 1 ≤ d) (h : zf_X9_mayCome N a0 i1 S = some out) : zm_Met l zk_E V yX9_mayCome (.code yX9_mayCome cX9_mayCome 4 (some .boolean)) d [.ref a0, .int i1] S 0 0 (zo_i out) zo_x := by
  refine zm_of (by decide +kernel) (Nat.le_of_ble_eq_true rfl) ?_
  intro p e R s m args below meth c hRR hX hr hxt
  have hR : R.frames = d ∧ R.locals = 64 * d := by rw [hRR]; exact ⟨rfl, rfl⟩
  have hX : zm_X p R s m args meth c RX9 "mayCome" cX9_mayCome 4 zk_E V 0 0 := hX
  unfold zf_X9_mayCome at h
  refine zw_sub (lv' := [(0, .ref a0), (1, .int i1)]) (List.forall_mem_cons.mpr ⟨rfl, (List.forall_mem_cons.mpr ⟨rfl, zs_nil⟩)⟩) ?_
  refine zw_aload_n hX dX9_mayCome_0 rfl ?_
  obtain ⟨b1, g, h⟩ := zb_some h
  refine zw_getr hX zl_X9_11 dX9_mayCome_1 g ?_
  refine zw_iload_n hX dX9_mayCome_4 rfl ?_
  obtain ⟨v2, g, h⟩ := zb_some h
  refine zw_xi hX dX9_mayCome_5 g ?_
  refine zw_bipush (v := (16 : Int32)) hX dX9_mayCome_6 (by decide) ?_
  refine zw_icmp_ne (tgt := 13) hX dX9_mayCome_8 (by decide) (fun c8 => ?_) (fun c8 => ?_)
  · rw [if_neg c8] at h
    refine zw_iconst (v := (0 : Int32)) hX dX9_mayCome_13 (by decide) ?_
    refine zw_istore_n hX dX9_mayCome_14 (by decide) ?_
    obtain ⟨r, g, h⟩ := zb_some h
    refine zw_sub (lv' := [(0, .ref a0), (1, .int i1), (2, .int (0 : Int32))]) (List.forall_mem_cons.mpr ⟨rfl, (List.forall_mem_cons.mpr ⟨rfl, (List.forall_mem_cons.mpr ⟨rfl, zs_nil⟩)⟩)⟩) ?_
    refine zt_X9_mayCome_L15 hX hr hR hd (res := r) (out := out) a0 i1 ?_ ?_ N _ _ g
    · intro o ho
      subst ho
      exact Option.some.inj h
    · intro  S11 hx
      subst hx
      try dsimp only at h
      refine zw_iconst (v := (1 : Int32)) hX dX9_mayCome_61 (by decide) ?_
      obtain rfl := Option.some.inj h
      exact zw_iret hX hr dX9_mayCome_62 rfl ⟨rfl, rfl⟩
  · rw [if_pos c8] at h
    refine zw_iconst (v := (1 : Int32)) hX dX9_mayCome_11 (by decide) ?_
    obtain rfl := Option.some.inj h
    exact zw_iret hX hr dX9_mayCome_12 rfl ⟨rfl, rfl⟩
def zf_X9_leastThatMayCome_L2 (N : Nat) : Nat → Nat → Int32 → zm_S → Option ((Int32 × zm_S) ⊕ ((Unit) × zm_S))
  | 0, _, _, _ => none
  | n + 1, a0, i1, S => (zg_i S a0 9 0).bind (fun v1 => if v1 ≤ i1 then some (.inr ((), S)) else (zg_r S a0 9 16).bind (fun b2 => (za_x S 0 b2 i1).bind (fun v3 => if v3 = (-1 : Int32) then (zi S a0 9).bind (fun _ => (zf_X9_mayCome N a0 i1 S).bind (fun r6 => if r6.1 = 0 then zf_X9_leastThatMayCome_L2 N n a0 (i1 + (1 : Int32)) r6.2 else some (.inl (i1, r6.2)))) else zf_X9_leastThatMayCome_L2 N n a0 (i1 + (1 : Int32)) S)))
set_option maxHeartbeats 4000000 in
set_option maxRecDepth 100000 in
theorem zt_X9_leastThatMayCome_L2 {p : Program} {l : Launch} {e : Env} {R : Room} {s : State} {m : MethodId} {args : Array Value} {below : List Frame} {meth : Method} {c : Code} {V : zm_V} {mc ms d rc rs : Nat} (hX : zm_X p R s m args meth c RX9 "leastThatMayCome" cX9_leastThatMayCome 2 zk_E V mc ms) (hr : meth.sig.returnType = (some .int)) (hR : R.frames = d ∧ R.locals = 64 * d) (hd : 2 ≤ d) {N : Nat} {res : (Int32 × zm_S) ⊕ ((Unit) × zm_S)} {out : (Int32 × zm_S)} (a0 : Nat) (hf : ∀ o, res = .inl o → o = out) (hk : ∀ (S' : zm_S), res = .inr ((), S') → zw p l e R s m args below meth c (vx_MQ below (zm_Qc zk_E V (zo_i out)) (zm_XC zk_E V zo_x) args s mc ms (fun q => V.2.2.2.1 ≤ q)) 2 zk_E V mc ms 36 [] [] S' rc rs) : ∀ (n : Nat) (i1 : Int32) (S : zm_S), zf_X9_leastThatMayCome_L2 N n a0 i1 S = some res → zw p l e R s m args below meth c (vx_MQ below (zm_Qc zk_E V (zo_i out)) (zm_XC zk_E V zo_x) args s mc ms (fun q => V.2.2.2.1 ≤ q)) 2 zk_E V mc ms 2 [(0, .ref a0), (1, .int i1)] [] S rc rs := by
  intro n
  induction n with
  | zero => intro i1 S h; cases h
  | succ n ih =>
    intro i1 S h
    rw [zf_X9_leastThatMayCome_L2] at h
    refine zw_iload_n hX dX9_leastThatMayCome_2 rfl ?_
    refine zw_aload_n hX dX9_leastThatMayCome_3 rfl ?_
    obtain ⟨v1, g, h⟩ := zb_some h
    refine zw_geti hX zl_X9_60 dX9_leastThatMayCome_4 g ?_
    refine zw_icmp_ge (tgt := 36) hX dX9_leastThatMayCome_7 (by decide) (fun c7 => ?_) (fun c7 => ?_)
    · rw [if_pos c7] at h
      refine zw_sub (lv' := []) zs_nil ?_
      exact hk  _ (Option.some.inj h).symm
    · rw [if_neg c7] at h
      refine zw_aload_n hX dX9_leastThatMayCome_10 rfl ?_
      obtain ⟨b2, g, h⟩ := zb_some h
      refine zw_getr hX zl_X9_54 dX9_leastThatMayCome_11 g ?_
      refine zw_iload_n hX dX9_leastThatMayCome_14 rfl ?_
      obtain ⟨v3, g, h⟩ := zb_some h
      refine zw_xi hX dX9_leastThatMayCome_15 g ?_
      refine zw_iconst (v := (-1 : Int32)) hX dX9_leastThatMayCome_16 (by decide) ?_
      refine zw_icmp_ne (tgt := 30) hX dX9_leastThatMayCome_17 (by decide) (fun c17 => ?_) (fun c17 => ?_)
      · rw [if_neg c17] at h
        refine zw_iinc (v := (i1 + (1 : Int32))) hX dX9_leastThatMayCome_30 rfl rfl (by decide) ?_
        refine zw_goto (tgt := 2) hX dX9_leastThatMayCome_33 (by decide) ?_
        refine zw_sub (lv' := [(0, .ref a0), (1, .int (i1 + (1 : Int32)))]) (List.forall_mem_cons.mpr ⟨rfl, (List.forall_mem_cons.mpr ⟨rfl, zs_nil⟩)⟩) ?_
        exact ih _ _ h
      · rw [if_pos c17] at h
        refine zw_aload_n hX dX9_leastThatMayCome_20 rfl ?_
        refine zw_iload_n hX dX9_leastThatMayCome_21 rfl ?_
        obtain ⟨_, gi, h⟩ := zb_some h
        obtain ⟨r6, g, h⟩ := zb_some h
        refine zc_Vi (as := [.int i1]) hX gi (zt_X9_mayCome (d := d - 1) (by omega) g) zl_X9_88 rfl dX9_leastThatMayCome_22 ⟨rfl, rfl, Nat.le_of_ble_eq_true rfl⟩ ⟨by omega, by omega⟩ ?_
        refine zw_if_eq (tgt := 30) hX dX9_leastThatMayCome_25 (by decide) (fun c25 => ?_) (fun c25 => ?_)
        · rw [if_pos c25] at h
          refine zw_iinc (v := (i1 + (1 : Int32))) hX dX9_leastThatMayCome_30 rfl rfl (by decide) ?_
          refine zw_goto (tgt := 2) hX dX9_leastThatMayCome_33 (by decide) ?_
          refine zw_sub (lv' := [(0, .ref a0), (1, .int (i1 + (1 : Int32)))]) (List.forall_mem_cons.mpr ⟨rfl, (List.forall_mem_cons.mpr ⟨rfl, zs_nil⟩)⟩) ?_
          exact ih _ _ h
        · rw [if_neg c25] at h
          refine zw_iload_n hX dX9_leastThatMayCome_28 rfl ?_
          have hz := hf _ (Option.some.inj h).symm
          subst hz
          exact zw_iret hX hr dX9_leastThatMayCome_29 rfl ⟨rfl, rfl⟩
def zf_X9_leastThatMayCome (N : Nat) (a0 : Nat) (S : zm_S) : Option (Int32 × zm_S) := (zf_X9_leastThatMayCome_L2 N N a0 (0 : Int32) S).bind (fun r => match r with | .inl o => some o | .inr (_, S7) => some ((-1 : Int32), S7))
set_option maxHeartbeats 4000000 in
set_option maxRecDepth 100000 in
theorem zt_X9_leastThatMayCome {l : Launch} {V : zm_V} {N : Nat} {S : zm_S} {out : (Int32 × zm_S)} {d : Nat} {a0 : Nat} (hd : 2 ≤ d) (h : zf_X9_leastThatMayCome N a0 S = some out) : zm_Met l zk_E V yX9_leastThatMayCome (.code yX9_leastThatMayCome cX9_leastThatMayCome 2 (some .int)) d [.ref a0] S 0 0 (zo_i out) zo_x := by
  refine zm_of (by decide +kernel) (Nat.le_of_ble_eq_true rfl) ?_
  intro p e R s m args below meth c hRR hX hr hxt
  have hR : R.frames = d ∧ R.locals = 64 * d := by rw [hRR]; exact ⟨rfl, rfl⟩
  have hX : zm_X p R s m args meth c RX9 "leastThatMayCome" cX9_leastThatMayCome 2 zk_E V 0 0 := hX
  unfold zf_X9_leastThatMayCome at h
  refine zw_sub (lv' := [(0, .ref a0)]) (List.forall_mem_cons.mpr ⟨rfl, zs_nil⟩) ?_
  refine zw_iconst (v := (0 : Int32)) hX dX9_leastThatMayCome_0 (by decide) ?_
  refine zw_istore_n hX dX9_leastThatMayCome_1 (by decide) ?_
  obtain ⟨r, g, h⟩ := zb_some h
  refine zw_sub (lv' := [(0, .ref a0), (1, .int (0 : Int32))]) (List.forall_mem_cons.mpr ⟨rfl, (List.forall_mem_cons.mpr ⟨rfl, zs_nil⟩)⟩) ?_
  refine zt_X9_leastThatMayCome_L2 hX hr hR hd (res := r) (out := out) a0 ?_ ?_ N _ _ g
  · intro o ho
    subst ho
    exact Option.some.inj h
  · intro  S7 hx
    subst hx
    try dsimp only at h
    refine zw_iconst (v := (-1 : Int32)) hX dX9_leastThatMayCome_36 (by decide) ?_
    obtain rfl := Option.some.inj h
    exact zw_iret hX hr dX9_leastThatMayCome_37 rfl ⟨rfl, rfl⟩
def zf_X9_place (N : Nat) (a0 : Nat) (i1 : Int32) (i2 : Int32) (S : zm_S) : Option (Unit × zm_S) := (zg_r S a0 9 16).bind (fun b1 => (zs_i S b1 i1 i2).bind (fun S2 => (zg_r S2 a0 9 15).bind (fun b3 => (zs_i S2 b3 i2 i1).bind (fun S4 => some ((), S4)))))
set_option maxHeartbeats 4000000 in
set_option maxRecDepth 100000 in
theorem zt_X9_place {l : Launch} {V : zm_V} {N : Nat} {S : zm_S} {out : (Unit × zm_S)} {d : Nat} {a0 : Nat} {i1 : Int32} {i2 : Int32} (hd : 1 ≤ d) (h : zf_X9_place N a0 i1 i2 S = some out) : zm_Met l zk_E V yX9_place (.code yX9_place cX9_place 3 none) d [.ref a0, .int i1, .int i2] S 0 0 (zo_v out) zo_x := by
  refine zm_of (by decide +kernel) (Nat.le_of_ble_eq_true rfl) ?_
  intro p e R s m args below meth c hRR hX hr hxt
  have hR : R.frames = d ∧ R.locals = 64 * d := by rw [hRR]; exact ⟨rfl, rfl⟩
  have hX : zm_X p R s m args meth c RX9 "place" cX9_place 3 zk_E V 0 0 := hX
  unfold zf_X9_place at h
  refine zw_sub (lv' := [(0, .ref a0), (1, .int i1), (2, .int i2)]) (List.forall_mem_cons.mpr ⟨rfl, (List.forall_mem_cons.mpr ⟨rfl, (List.forall_mem_cons.mpr ⟨rfl, zs_nil⟩)⟩)⟩) ?_
  refine zw_aload_n hX dX9_place_0 rfl ?_
  obtain ⟨b1, g, h⟩ := zb_some h
  refine zw_getr hX zl_X9_54 dX9_place_1 g ?_
  refine zw_iload_n hX dX9_place_4 rfl ?_
  refine zw_iload_n hX dX9_place_5 rfl ?_
  obtain ⟨S2, g, h⟩ := zb_some h
  refine zw_si hX dX9_place_6 g ?_
  refine zw_aload_n hX dX9_place_7 rfl ?_
  obtain ⟨b3, g, h⟩ := zb_some h
  refine zw_getr hX zl_X9_51 dX9_place_8 g ?_
  refine zw_iload_n hX dX9_place_11 rfl ?_
  refine zw_iload_n hX dX9_place_12 rfl ?_
  obtain ⟨S4, g, h⟩ := zb_some h
  refine zw_si hX dX9_place_13 g ?_
  obtain rfl := Option.some.inj h
  exact zw_vret hX hr dX9_place_14 ⟨rfl, rfl⟩
def zf_X9_sortBlocks_L23 (N : Nat) : Nat → Nat → Int32 → zm_S → Option ((Unit × zm_S) ⊕ ((Unit) × zm_S))
  | 0, _, _, _ => none
  | n + 1, a0, i1, S => (zg_i S a0 9 0).bind (fun v7 => if v7 ≤ i1 then some (.inr ((), S)) else (zi S a0 9).bind (fun _ => (zf_X9_leastThatMayCome N a0 S).bind (fun r10 => if r10.1 = (-1 : Int32) then zf_X9_sortBlocks_L23 N n a0 (i1 + (1 : Int32)) r10.2 else (zg_i r10.2 a0 9 14).bind (fun v11 => (zi r10.2 a0 9).bind (fun _ => (zf_X9_place N a0 r10.1 v11 r10.2).bind (fun r14 => (zg_i r14.2 a0 9 14).bind (fun v15 => (zp r14.2 a0 9 14 (.int (v15 + (1 : Int32)))).bind (fun S16 => zf_X9_sortBlocks_L23 N n a0 (i1 + (1 : Int32)) S16))))))))
set_option maxHeartbeats 4000000 in
set_option maxRecDepth 100000 in
theorem zt_X9_sortBlocks_L23 {p : Program} {l : Launch} {e : Env} {R : Room} {s : State} {m : MethodId} {args : Array Value} {below : List Frame} {meth : Method} {c : Code} {V : zm_V} {mc ms d rc rs : Nat} (hX : zm_X p R s m args meth c RX9 "sortBlocks" cX9_sortBlocks 3 zk_E V mc ms) (hr : meth.sig.returnType = none) (hR : R.frames = d ∧ R.locals = 64 * d) (hd : 3 ≤ d) {N : Nat} {res : (Unit × zm_S) ⊕ ((Unit) × zm_S)} {out : (Unit × zm_S)} (a0 : Nat) (hf : ∀ o, res = .inl o → o = out) (hk : ∀ (S' : zm_S), res = .inr ((), S') → zw p l e R s m args below meth c (vx_MQ below (zm_Qc zk_E V (zo_v out)) (zm_XC zk_E V zo_x) args s mc ms (fun q => V.2.2.2.1 ≤ q)) 3 zk_E V mc ms 66 [(0, .ref a0)] [] S' rc rs) : ∀ (n : Nat) (i1 : Int32) (S : zm_S), zf_X9_sortBlocks_L23 N n a0 i1 S = some res → zw p l e R s m args below meth c (vx_MQ below (zm_Qc zk_E V (zo_v out)) (zm_XC zk_E V zo_x) args s mc ms (fun q => V.2.2.2.1 ≤ q)) 3 zk_E V mc ms 23 [(0, .ref a0), (1, .int i1)] [] S rc rs := by
  intro n
  induction n with
  | zero => intro i1 S h; cases h
  | succ n ih =>
    intro i1 S h
    rw [zf_X9_sortBlocks_L23] at h
    refine zw_iload_n hX dX9_sortBlocks_23 rfl ?_
    refine zw_aload_n hX dX9_sortBlocks_24 rfl ?_
    obtain ⟨v7, g, h⟩ := zb_some h
    refine zw_geti hX zl_X9_60 dX9_sortBlocks_25 g ?_
    refine zw_icmp_ge (tgt := 66) hX dX9_sortBlocks_28 (by decide) (fun c28 => ?_) (fun c28 => ?_)
    · rw [if_pos c28] at h
      refine zw_sub (lv' := [(0, .ref a0)]) (List.forall_mem_cons.mpr ⟨rfl, zs_nil⟩) ?_
      exact hk  _ (Option.some.inj h).symm
    · rw [if_neg c28] at h
      refine zw_aload_n hX dX9_sortBlocks_31 rfl ?_
      obtain ⟨_, gi, h⟩ := zb_some h
      obtain ⟨r10, g, h⟩ := zb_some h
      refine zc_Vi (as := []) hX gi (zt_X9_leastThatMayCome (d := d - 1) (by omega) g) zl_X9_80 rfl dX9_sortBlocks_32 ⟨rfl, rfl, Nat.le_of_ble_eq_true rfl⟩ ⟨by omega, by omega⟩ ?_
      refine zw_istore_n hX dX9_sortBlocks_35 (by decide) ?_
      refine zw_iload_n hX dX9_sortBlocks_36 rfl ?_
      refine zw_iconst (v := (-1 : Int32)) hX dX9_sortBlocks_37 (by decide) ?_
      refine zw_icmp_eq (tgt := 60) hX dX9_sortBlocks_38 (by decide) (fun c38 => ?_) (fun c38 => ?_)
      · rw [if_pos c38] at h
        refine zw_iinc (v := (i1 + (1 : Int32))) hX dX9_sortBlocks_60 rfl rfl (by decide) ?_
        refine zw_goto (tgt := 23) hX dX9_sortBlocks_63 (by decide) ?_
        refine zw_sub (lv' := [(0, .ref a0), (1, .int (i1 + (1 : Int32)))]) (List.forall_mem_cons.mpr ⟨rfl, (List.forall_mem_cons.mpr ⟨rfl, zs_nil⟩)⟩) ?_
        exact ih _ _ h
      · rw [if_neg c38] at h
        refine zw_aload_n hX dX9_sortBlocks_41 rfl ?_
        refine zw_iload_n hX dX9_sortBlocks_42 rfl ?_
        refine zw_aload_n hX dX9_sortBlocks_43 rfl ?_
        obtain ⟨v11, g, h⟩ := zb_some h
        refine zw_geti hX zl_X9_77 dX9_sortBlocks_44 g ?_
        obtain ⟨_, gi, h⟩ := zb_some h
        obtain ⟨r14, g, h⟩ := zb_some h
        refine zc_Vv (as := [.int r10.1, .int v11]) hX gi (zt_X9_place (d := d - 1) (by omega) g) zl_X9_84 rfl dX9_sortBlocks_47 ⟨rfl, rfl, Nat.le_of_ble_eq_true rfl⟩ ⟨by omega, by omega⟩ ?_
        refine zw_aload_n hX dX9_sortBlocks_50 rfl ?_
        refine zw_dup hX dX9_sortBlocks_51 rfl ?_
        obtain ⟨v15, g, h⟩ := zb_some h
        refine zw_geti hX zl_X9_77 dX9_sortBlocks_52 g ?_
        refine zw_iconst (v := (1 : Int32)) hX dX9_sortBlocks_55 (by decide) ?_
        refine zw_iadd hX dX9_sortBlocks_56 ?_
        obtain ⟨S16, g, h⟩ := zb_some h
        refine zw_putv hX zl_X9_77 zt_9_14 dX9_sortBlocks_57 rfl rfl g ?_
        refine zw_iinc (v := (i1 + (1 : Int32))) hX dX9_sortBlocks_60 rfl rfl (by decide) ?_
        refine zw_goto (tgt := 23) hX dX9_sortBlocks_63 (by decide) ?_
        refine zw_sub (lv' := [(0, .ref a0), (1, .int (i1 + (1 : Int32)))]) (List.forall_mem_cons.mpr ⟨rfl, (List.forall_mem_cons.mpr ⟨rfl, zs_nil⟩)⟩) ?_
        exact ih _ _ h
def zf_X9_sortBlocks_L73 (N : Nat) : Nat → Nat → Int32 → Int32 → zm_S → Option ((Unit × zm_S) ⊕ ((Unit) × zm_S))
  | 0, _, _, _, _ => none
  | n + 1, a0, i1, i2, S => (zg_i S a0 9 0).bind (fun v19 => if v19 ≤ i2 then some (.inr ((), S)) else (zg_r S a0 9 16).bind (fun b20 => (za_x S 0 b20 i2).bind (fun v21 => if v21 = (-1 : Int32) then (zi S a0 9).bind (fun _ => (zf_X9_place N a0 i2 i1 S).bind (fun r24 => zf_X9_sortBlocks_L73 N n a0 (i1 + (1 : Int32)) (i2 + (1 : Int32)) r24.2)) else zf_X9_sortBlocks_L73 N n a0 i1 (i2 + (1 : Int32)) S)))
set_option maxHeartbeats 4000000 in
set_option maxRecDepth 100000 in
theorem zt_X9_sortBlocks_L73 {p : Program} {l : Launch} {e : Env} {R : Room} {s : State} {m : MethodId} {args : Array Value} {below : List Frame} {meth : Method} {c : Code} {V : zm_V} {mc ms d rc rs : Nat} (hX : zm_X p R s m args meth c RX9 "sortBlocks" cX9_sortBlocks 3 zk_E V mc ms) (hr : meth.sig.returnType = none) (hR : R.frames = d ∧ R.locals = 64 * d) (hd : 3 ≤ d) {N : Nat} {res : (Unit × zm_S) ⊕ ((Unit) × zm_S)} {out : (Unit × zm_S)} (a0 : Nat) (hf : ∀ o, res = .inl o → o = out) (hk : ∀ (S' : zm_S), res = .inr ((), S') → zw p l e R s m args below meth c (vx_MQ below (zm_Qc zk_E V (zo_v out)) (zm_XC zk_E V zo_x) args s mc ms (fun q => V.2.2.2.1 ≤ q)) 3 zk_E V mc ms 106 [(0, .ref a0)] [] S' rc rs) : ∀ (n : Nat) (i1 : Int32) (i2 : Int32) (S : zm_S), zf_X9_sortBlocks_L73 N n a0 i1 i2 S = some res → zw p l e R s m args below meth c (vx_MQ below (zm_Qc zk_E V (zo_v out)) (zm_XC zk_E V zo_x) args s mc ms (fun q => V.2.2.2.1 ≤ q)) 3 zk_E V mc ms 73 [(0, .ref a0), (1, .int i1), (2, .int i2)] [] S rc rs := by
  intro n
  induction n with
  | zero => intro i1 i2 S h; cases h
  | succ n ih =>
    intro i1 i2 S h
    rw [zf_X9_sortBlocks_L73] at h
    refine zw_iload_n hX dX9_sortBlocks_73 rfl ?_
    refine zw_aload_n hX dX9_sortBlocks_74 rfl ?_
    obtain ⟨v19, g, h⟩ := zb_some h
    refine zw_geti hX zl_X9_60 dX9_sortBlocks_75 g ?_
    refine zw_icmp_ge (tgt := 106) hX dX9_sortBlocks_78 (by decide) (fun c78 => ?_) (fun c78 => ?_)
    · rw [if_pos c78] at h
      refine zw_sub (lv' := [(0, .ref a0)]) (List.forall_mem_cons.mpr ⟨rfl, zs_nil⟩) ?_
      exact hk  _ (Option.some.inj h).symm
    · rw [if_neg c78] at h
      refine zw_aload_n hX dX9_sortBlocks_81 rfl ?_
      obtain ⟨b20, g, h⟩ := zb_some h
      refine zw_getr hX zl_X9_54 dX9_sortBlocks_82 g ?_
      refine zw_iload_n hX dX9_sortBlocks_85 rfl ?_
      obtain ⟨v21, g, h⟩ := zb_some h
      refine zw_xi hX dX9_sortBlocks_86 g ?_
      refine zw_iconst (v := (-1 : Int32)) hX dX9_sortBlocks_87 (by decide) ?_
      refine zw_icmp_ne (tgt := 100) hX dX9_sortBlocks_88 (by decide) (fun c88 => ?_) (fun c88 => ?_)
      · rw [if_neg c88] at h
        refine zw_iinc (v := (i2 + (1 : Int32))) hX dX9_sortBlocks_100 rfl rfl (by decide) ?_
        refine zw_goto (tgt := 73) hX dX9_sortBlocks_103 (by decide) ?_
        refine zw_sub (lv' := [(0, .ref a0), (1, .int i1), (2, .int (i2 + (1 : Int32)))]) (List.forall_mem_cons.mpr ⟨rfl, (List.forall_mem_cons.mpr ⟨rfl, (List.forall_mem_cons.mpr ⟨rfl, zs_nil⟩)⟩)⟩) ?_
        exact ih _ _ _ h
      · rw [if_pos c88] at h
        refine zw_aload_n hX dX9_sortBlocks_91 rfl ?_
        refine zw_iload_n hX dX9_sortBlocks_92 rfl ?_
        refine zw_iload_n hX dX9_sortBlocks_93 rfl ?_
        obtain ⟨_, gi, h⟩ := zb_some h
        obtain ⟨r24, g, h⟩ := zb_some h
        refine zc_Vv (as := [.int i2, .int i1]) hX gi (zt_X9_place (d := d - 1) (by omega) g) zl_X9_84 rfl dX9_sortBlocks_94 ⟨rfl, rfl, Nat.le_of_ble_eq_true rfl⟩ ⟨by omega, by omega⟩ ?_
        refine zw_iinc (v := (i1 + (1 : Int32))) hX dX9_sortBlocks_97 rfl rfl (by decide) ?_
        refine zw_iinc (v := (i2 + (1 : Int32))) hX dX9_sortBlocks_100 rfl rfl (by decide) ?_
        refine zw_goto (tgt := 73) hX dX9_sortBlocks_103 (by decide) ?_
        refine zw_sub (lv' := [(0, .ref a0), (1, .int (i1 + (1 : Int32))), (2, .int (i2 + (1 : Int32)))]) (List.forall_mem_cons.mpr ⟨rfl, (List.forall_mem_cons.mpr ⟨rfl, (List.forall_mem_cons.mpr ⟨rfl, zs_nil⟩)⟩)⟩) ?_
        exact ih _ _ _ h
def zf_X9_sortBlocks (N : Nat) (a0 : Nat) (S : zm_S) : Option (Unit × zm_S) := (zg_i S a0 9 13).bind (fun v1 => if v1 = 0 then (zg_r S a0 9 16).bind (fun b2 => (zf_J7_fill_53178 N b2 (-1 : Int32) S).bind (fun r5 => (zp r5.2 a0 9 14 (.int (0 : Int32))).bind (fun S6 => (zf_X9_sortBlocks_L23 N N a0 (0 : Int32) S6).bind (fun r => match r with | .inl o => some o | .inr (_, S17) => (zg_i S17 a0 9 14).bind (fun v18 => (zf_X9_sortBlocks_L73 N N a0 v18 (0 : Int32) S17).bind (fun r => match r with | .inl o => some o | .inr (_, S25) => (zp S25 a0 9 13 (.int (1 : Int32))).bind (fun S26 => some ((), S26)))))))) else some ((), S))
set_option maxHeartbeats 4000000 in
set_option maxRecDepth 100000 in
theorem zt_X9_sortBlocks {l : Launch} {V : zm_V} {N : Nat} {S : zm_S} {out : (Unit × zm_S)} {d : Nat} {a0 : Nat} (hd : 3 ≤ d) (h : zf_X9_sortBlocks N a0 S = some out) : zm_Met l zk_E V yX9_sortBlocks (.code yX9_sortBlocks cX9_sortBlocks 3 none) d [.ref a0] S 0 0 (zo_v out) zo_x := by
  refine zm_of (by decide +kernel) (Nat.le_of_ble_eq_true rfl) ?_
  intro p e R s m args below meth c hRR hX hr hxt
  have hR : R.frames = d ∧ R.locals = 64 * d := by rw [hRR]; exact ⟨rfl, rfl⟩
  have hX : zm_X p R s m args meth c RX9 "sortBlocks" cX9_sortBlocks 3 zk_E V 0 0 := hX
  unfold zf_X9_sortBlocks at h
  refine zw_sub (lv' := [(0, .ref a0)]) (List.forall_mem_cons.mpr ⟨rfl, zs_nil⟩) ?_
  refine zw_aload_n hX dX9_sortBlocks_0 rfl ?_
  obtain ⟨v1, g, h⟩ := zb_some h
  refine zw_geti hX zl_X9_70 dX9_sortBlocks_1 g ?_
  refine zw_if_eq (tgt := 8) hX dX9_sortBlocks_4 (by decide) (fun c4 => ?_) (fun c4 => ?_)
  · rw [if_pos c4] at h
    refine zw_aload_n hX dX9_sortBlocks_8 rfl ?_
    obtain ⟨b2, g, h⟩ := zb_some h
    refine zw_getr hX zl_X9_54 dX9_sortBlocks_9 g ?_
    refine zw_iconst (v := (-1 : Int32)) hX dX9_sortBlocks_12 (by decide) ?_
    obtain ⟨r5, g, h⟩ := zb_some h
    refine zc_Sv (as := [.ref b2, .int (-1 : Int32)]) hX (zt_J7_fill_53178 (d := d - 1) (by omega) g) zl_X9_64 dX9_sortBlocks_13 ⟨rfl, rfl, Nat.le_of_ble_eq_true rfl⟩ ⟨by omega, by omega⟩ ?_
    refine zw_aload_n hX dX9_sortBlocks_16 rfl ?_
    refine zw_iconst (v := (0 : Int32)) hX dX9_sortBlocks_17 (by decide) ?_
    obtain ⟨S6, g, h⟩ := zb_some h
    refine zw_putv hX zl_X9_77 zt_9_14 dX9_sortBlocks_18 rfl rfl g ?_
    refine zw_iconst (v := (0 : Int32)) hX dX9_sortBlocks_21 (by decide) ?_
    refine zw_istore_n hX dX9_sortBlocks_22 (by decide) ?_
    obtain ⟨r, g, h⟩ := zb_some h
    refine zw_sub (lv' := [(0, .ref a0), (1, .int (0 : Int32))]) (List.forall_mem_cons.mpr ⟨rfl, (List.forall_mem_cons.mpr ⟨rfl, zs_nil⟩)⟩) ?_
    refine zt_X9_sortBlocks_L23 hX hr hR hd (res := r) (out := out) a0 ?_ ?_ N _ _ g
    · intro o ho
      subst ho
      exact Option.some.inj h
    · intro  S17 hx
      subst hx
      try dsimp only at h
      refine zw_aload_n hX dX9_sortBlocks_66 rfl ?_
      obtain ⟨v18, g, h⟩ := zb_some h
      refine zw_geti hX zl_X9_77 dX9_sortBlocks_67 g ?_
      refine zw_istore_n hX dX9_sortBlocks_70 (by decide) ?_
      refine zw_iconst (v := (0 : Int32)) hX dX9_sortBlocks_71 (by decide) ?_
      refine zw_istore_n hX dX9_sortBlocks_72 (by decide) ?_
      obtain ⟨r, g, h⟩ := zb_some h
      refine zw_sub (lv' := [(0, .ref a0), (1, .int v18), (2, .int (0 : Int32))]) (List.forall_mem_cons.mpr ⟨rfl, (List.forall_mem_cons.mpr ⟨rfl, (List.forall_mem_cons.mpr ⟨rfl, zs_nil⟩)⟩)⟩) ?_
      refine zt_X9_sortBlocks_L73 hX hr hR hd (res := r) (out := out) a0 ?_ ?_ N _ _ _ g
      · intro o ho
        subst ho
        exact Option.some.inj h
      · intro  S25 hx
        subst hx
        try dsimp only at h
        refine zw_aload_n hX dX9_sortBlocks_106 rfl ?_
        refine zw_iconst (v := (1 : Int32)) hX dX9_sortBlocks_107 (by decide) ?_
        obtain ⟨S26, g, h⟩ := zb_some h
        refine zw_putv hX zl_X9_70 zt_9_13 dX9_sortBlocks_108 rfl (by decide) g ?_
        obtain rfl := Option.some.inj h
        exact zw_vret hX hr dX9_sortBlocks_111 ⟨rfl, rfl⟩
  · rw [if_neg c4] at h
    obtain rfl := Option.some.inj h
    exact zw_vret hX hr dX9_sortBlocks_7 ⟨rfl, rfl⟩
def zf_X9_blockFact (N : Nat) (a0 : Nat) (i1 : Int32) (i2 : Int32) (S : zm_S) : Option (Int32 × zm_S) := if (i2).toInt = 0 then (zg_r S a0 9 6).bind (fun b6 => (za_x S 0 b6 i1).bind (fun v7 => some (v7, S))) else if (i2).toInt = 1 then (zg_r S a0 9 7).bind (fun b8 => (za_r S b8 i1).bind (fun b9 => (za_x S 0 b9 (0 : Int32)).bind (fun v10 => some (v10, S)))) else if (i2).toInt = 2 then (zg_r S a0 9 7).bind (fun b11 => (za_r S b11 i1).bind (fun b12 => (za_x S 0 b12 (1 : Int32)).bind (fun v13 => some (v13, S)))) else (zi S a0 9).bind (fun _ => (zf_X9_sortBlocks N a0 S).bind (fun r3 => (zg_r r3.2 a0 9 16).bind (fun b4 => (za_x r3.2 0 b4 i1).bind (fun v5 => some (v5, r3.2)))))
set_option maxHeartbeats 4000000 in
set_option maxRecDepth 100000 in
theorem zt_X9_blockFact {l : Launch} {V : zm_V} {N : Nat} {S : zm_S} {out : (Int32 × zm_S)} {d : Nat} {a0 : Nat} {i1 : Int32} {i2 : Int32} (hd : 4 ≤ d) (h : zf_X9_blockFact N a0 i1 i2 S = some out) : zm_Met l zk_E V yX9_blockFact (.code yX9_blockFact cX9_blockFact 3 (some .int)) d [.ref a0, .int i1, .int i2] S 0 0 (zo_i out) zo_x := by
  refine zm_of (by decide +kernel) (Nat.le_of_ble_eq_true rfl) ?_
  intro p e R s m args below meth c hRR hX hr hxt
  have hR : R.frames = d ∧ R.locals = 64 * d := by rw [hRR]; exact ⟨rfl, rfl⟩
  have hX : zm_X p R s m args meth c RX9 "blockFact" cX9_blockFact 3 zk_E V 0 0 := hX
  unfold zf_X9_blockFact at h
  refine zw_sub (lv' := [(0, .ref a0), (1, .int i1), (2, .int i2)]) (List.forall_mem_cons.mpr ⟨rfl, (List.forall_mem_cons.mpr ⟨rfl, (List.forall_mem_cons.mpr ⟨rfl, zs_nil⟩)⟩)⟩) ?_
  refine zw_iload_n hX dX9_blockFact_0 rfl ?_
  by_cases c1_0 : (i2).toInt = 0
  · rw [if_pos c1_0] at h
    refine zw_tableIn (off := 27) (tgt := 28) hX dX9_blockFact_1 (by rw [c1_0]; decide) (by rw [c1_0]; decide) (by rw [c1_0]; decide) (by decide) ?_
    refine zw_aload_n hX dX9_blockFact_28 rfl ?_
    obtain ⟨b6, g, h⟩ := zb_some h
    refine zw_getr hX zl_X9_29 dX9_blockFact_29 g ?_
    refine zw_iload_n hX dX9_blockFact_32 rfl ?_
    obtain ⟨v7, g, h⟩ := zb_some h
    refine zw_xi hX dX9_blockFact_33 g ?_
    obtain rfl := Option.some.inj h
    exact zw_iret hX hr dX9_blockFact_34 rfl ⟨rfl, rfl⟩
  rw [if_neg c1_0] at h
  by_cases c1_1 : (i2).toInt = 1
  · rw [if_pos c1_1] at h
    refine zw_tableIn (off := 34) (tgt := 35) hX dX9_blockFact_1 (by rw [c1_1]; decide) (by rw [c1_1]; decide) (by rw [c1_1]; decide) (by decide) ?_
    refine zw_aload_n hX dX9_blockFact_35 rfl ?_
    obtain ⟨b8, g, h⟩ := zb_some h
    refine zw_getr hX zl_X9_32 dX9_blockFact_36 g ?_
    refine zw_iload_n hX dX9_blockFact_39 rfl ?_
    obtain ⟨b9, g, h⟩ := zb_some h
    refine zw_xr hX dX9_blockFact_40 g ?_
    refine zw_iconst (v := (0 : Int32)) hX dX9_blockFact_41 (by decide) ?_
    obtain ⟨v10, g, h⟩ := zb_some h
    refine zw_xi hX dX9_blockFact_42 g ?_
    obtain rfl := Option.some.inj h
    exact zw_iret hX hr dX9_blockFact_43 rfl ⟨rfl, rfl⟩
  rw [if_neg c1_1] at h
  by_cases c1_2 : (i2).toInt = 2
  · rw [if_pos c1_2] at h
    refine zw_tableIn (off := 43) (tgt := 44) hX dX9_blockFact_1 (by rw [c1_2]; decide) (by rw [c1_2]; decide) (by rw [c1_2]; decide) (by decide) ?_
    refine zw_aload_n hX dX9_blockFact_44 rfl ?_
    obtain ⟨b11, g, h⟩ := zb_some h
    refine zw_getr hX zl_X9_32 dX9_blockFact_45 g ?_
    refine zw_iload_n hX dX9_blockFact_48 rfl ?_
    obtain ⟨b12, g, h⟩ := zb_some h
    refine zw_xr hX dX9_blockFact_49 g ?_
    refine zw_iconst (v := (1 : Int32)) hX dX9_blockFact_50 (by decide) ?_
    obtain ⟨v13, g, h⟩ := zb_some h
    refine zw_xi hX dX9_blockFact_51 g ?_
    obtain rfl := Option.some.inj h
    exact zw_iret hX hr dX9_blockFact_52 rfl ⟨rfl, rfl⟩
  rw [if_neg c1_2] at h
  refine zw_tableOut (tgt := 53) hX dX9_blockFact_1 (by omega) (by decide) ?_
  refine zw_aload_n hX dX9_blockFact_53 rfl ?_
  obtain ⟨_, gi, h⟩ := zb_some h
  obtain ⟨r3, g, h⟩ := zb_some h
  refine zc_Vv (as := []) hX gi (zt_X9_sortBlocks (d := d - 1) (by omega) g) zl_X9_74 rfl dX9_blockFact_54 ⟨rfl, rfl, Nat.le_of_ble_eq_true rfl⟩ ⟨by omega, by omega⟩ ?_
  refine zw_aload_n hX dX9_blockFact_57 rfl ?_
  obtain ⟨b4, g, h⟩ := zb_some h
  refine zw_getr hX zl_X9_54 dX9_blockFact_58 g ?_
  refine zw_iload_n hX dX9_blockFact_61 rfl ?_
  obtain ⟨v5, g, h⟩ := zb_some h
  refine zw_xi hX dX9_blockFact_62 g ?_
  obtain rfl := Option.some.inj h
  exact zw_iret hX hr dX9_blockFact_63 rfl ⟨rfl, rfl⟩
def zf_X9_lacksInput_L2 (N : Nat) : Nat → Nat → Int32 → Int32 → zm_S → Option ((Int32 × zm_S) ⊕ ((Unit) × zm_S))
  | 0, _, _, _, _ => none
  | n + 1, a0, i1, i2, S => (zg_r S a0 9 1).bind (fun b1 => (za_x S 0 b1 i1).bind (fun v2 => (za_x S 0 5 v2).bind (fun v3 => if v3 ≤ i2 then some (.inr ((), S)) else (zg_r S a0 9 5).bind (fun b4 => (za_r S b4 i1).bind (fun b5 => (za_x S 0 b5 i2).bind (fun v6 => if v6 = (-1 : Int32) then some (.inl ((1 : Int32), S)) else zf_X9_lacksInput_L2 N n a0 i1 (i2 + (1 : Int32)) S))))))
set_option maxHeartbeats 4000000 in
set_option maxRecDepth 100000 in
theorem zt_X9_lacksInput_L2 {p : Program} {l : Launch} {e : Env} {R : Room} {s : State} {m : MethodId} {args : Array Value} {below : List Frame} {meth : Method} {c : Code} {V : zm_V} {mc ms d rc rs : Nat} (hX : zm_X p R s m args meth c RX9 "lacksInput" cX9_lacksInput 3 zk_E V mc ms) (hr : meth.sig.returnType = (some .boolean)) (hR : R.frames = d ∧ R.locals = 64 * d) (hd : 1 ≤ d) {N : Nat} {res : (Int32 × zm_S) ⊕ ((Unit) × zm_S)} {out : (Int32 × zm_S)} (a0 : Nat) (i1 : Int32) (hf : ∀ o, res = .inl o → o = out) (hk : ∀ (S' : zm_S), res = .inr ((), S') → zw p l e R s m args below meth c (vx_MQ below (zm_Qc zk_E V (zo_i out)) (zm_XC zk_E V zo_x) args s mc ms (fun q => V.2.2.2.1 ≤ q)) 3 zk_E V mc ms 36 [] [] S' rc rs) : ∀ (n : Nat) (i2 : Int32) (S : zm_S), zf_X9_lacksInput_L2 N n a0 i1 i2 S = some res → zw p l e R s m args below meth c (vx_MQ below (zm_Qc zk_E V (zo_i out)) (zm_XC zk_E V zo_x) args s mc ms (fun q => V.2.2.2.1 ≤ q)) 3 zk_E V mc ms 2 [(0, .ref a0), (1, .int i1), (2, .int i2)] [] S rc rs := by
  intro n
  induction n with
  | zero => intro i2 S h; cases h
  | succ n ih =>
    intro i2 S h
    rw [zf_X9_lacksInput_L2] at h
    refine zw_iload_n hX dX9_lacksInput_2 rfl ?_
    refine zw_gets (C := "TowerHouse$Program") (n := "INPUTS") (d := "[I") (k := 5) hX (List.mem_of_getElem? (i := 4) rfl) (by decide) zl_X9_92 dX9_lacksInput_3 ?_
    refine zw_aload_n hX dX9_lacksInput_6 rfl ?_
    obtain ⟨b1, g, h⟩ := zb_some h
    refine zw_getr hX zl_X9_11 dX9_lacksInput_7 g ?_
    refine zw_iload_n hX dX9_lacksInput_10 rfl ?_
    obtain ⟨v2, g, h⟩ := zb_some h
    refine zw_xi hX dX9_lacksInput_11 g ?_
    obtain ⟨v3, g, h⟩ := zb_some h
    refine zw_xi hX dX9_lacksInput_12 g ?_
    refine zw_icmp_ge (tgt := 36) hX dX9_lacksInput_13 (by decide) (fun c13 => ?_) (fun c13 => ?_)
    · rw [if_pos c13] at h
      refine zw_sub (lv' := []) zs_nil ?_
      exact hk  _ (Option.some.inj h).symm
    · rw [if_neg c13] at h
      refine zw_aload_n hX dX9_lacksInput_16 rfl ?_
      obtain ⟨b4, g, h⟩ := zb_some h
      refine zw_getr hX zl_X9_26 dX9_lacksInput_17 g ?_
      refine zw_iload_n hX dX9_lacksInput_20 rfl ?_
      obtain ⟨b5, g, h⟩ := zb_some h
      refine zw_xr hX dX9_lacksInput_21 g ?_
      refine zw_iload_n hX dX9_lacksInput_22 rfl ?_
      obtain ⟨v6, g, h⟩ := zb_some h
      refine zw_xi hX dX9_lacksInput_23 g ?_
      refine zw_iconst (v := (-1 : Int32)) hX dX9_lacksInput_24 (by decide) ?_
      refine zw_icmp_ne (tgt := 30) hX dX9_lacksInput_25 (by decide) (fun c25 => ?_) (fun c25 => ?_)
      · rw [if_neg c25] at h
        refine zw_iinc (v := (i2 + (1 : Int32))) hX dX9_lacksInput_30 rfl rfl (by decide) ?_
        refine zw_goto (tgt := 2) hX dX9_lacksInput_33 (by decide) ?_
        refine zw_sub (lv' := [(0, .ref a0), (1, .int i1), (2, .int (i2 + (1 : Int32)))]) (List.forall_mem_cons.mpr ⟨rfl, (List.forall_mem_cons.mpr ⟨rfl, (List.forall_mem_cons.mpr ⟨rfl, zs_nil⟩)⟩)⟩) ?_
        exact ih _ _ h
      · rw [if_pos c25] at h
        refine zw_iconst (v := (1 : Int32)) hX dX9_lacksInput_28 (by decide) ?_
        have hz := hf _ (Option.some.inj h).symm
        subst hz
        exact zw_iret hX hr dX9_lacksInput_29 rfl ⟨rfl, rfl⟩
def zf_X9_lacksInput (N : Nat) (a0 : Nat) (i1 : Int32) (S : zm_S) : Option (Int32 × zm_S) := (zf_X9_lacksInput_L2 N N a0 i1 (0 : Int32) S).bind (fun r => match r with | .inl o => some o | .inr (_, S7) => some ((0 : Int32), S7))
set_option maxHeartbeats 4000000 in
set_option maxRecDepth 100000 in
theorem zt_X9_lacksInput {l : Launch} {V : zm_V} {N : Nat} {S : zm_S} {out : (Int32 × zm_S)} {d : Nat} {a0 : Nat} {i1 : Int32} (hd : 1 ≤ d) (h : zf_X9_lacksInput N a0 i1 S = some out) : zm_Met l zk_E V yX9_lacksInput (.code yX9_lacksInput cX9_lacksInput 3 (some .boolean)) d [.ref a0, .int i1] S 0 0 (zo_i out) zo_x := by
  refine zm_of (by decide +kernel) (Nat.le_of_ble_eq_true rfl) ?_
  intro p e R s m args below meth c hRR hX hr hxt
  have hR : R.frames = d ∧ R.locals = 64 * d := by rw [hRR]; exact ⟨rfl, rfl⟩
  have hX : zm_X p R s m args meth c RX9 "lacksInput" cX9_lacksInput 3 zk_E V 0 0 := hX
  unfold zf_X9_lacksInput at h
  refine zw_sub (lv' := [(0, .ref a0), (1, .int i1)]) (List.forall_mem_cons.mpr ⟨rfl, (List.forall_mem_cons.mpr ⟨rfl, zs_nil⟩)⟩) ?_
  refine zw_iconst (v := (0 : Int32)) hX dX9_lacksInput_0 (by decide) ?_
  refine zw_istore_n hX dX9_lacksInput_1 (by decide) ?_
  obtain ⟨r, g, h⟩ := zb_some h
  refine zw_sub (lv' := [(0, .ref a0), (1, .int i1), (2, .int (0 : Int32))]) (List.forall_mem_cons.mpr ⟨rfl, (List.forall_mem_cons.mpr ⟨rfl, (List.forall_mem_cons.mpr ⟨rfl, zs_nil⟩)⟩)⟩) ?_
  refine zt_X9_lacksInput_L2 hX hr hR hd (res := r) (out := out) a0 i1 ?_ ?_ N _ _ g
  · intro o ho
    subst ho
    exact Option.some.inj h
  · intro  S7 hx
    subst hx
    try dsimp only at h
    refine zw_iconst (v := (0 : Int32)) hX dX9_lacksInput_36 (by decide) ?_
    obtain rfl := Option.some.inj h
    exact zw_iret hX hr dX9_lacksInput_37 rfl ⟨rfl, rfl⟩
