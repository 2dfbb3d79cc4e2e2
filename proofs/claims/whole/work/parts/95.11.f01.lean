/-! ===== functions of methods, by program (wip/whole/tools/gen11.py) ===== -/
theorem dX0_init_0 : decode cX0_init 0 = .ok (.aload_n 0, 1) := by decide +kernel
theorem dX0_init_1 : decode cX0_init 1 = .ok (.invokespecial 3, 3) := by decide +kernel
theorem dX0_init_4 : decode cX0_init 4 = .ok (.aload_n 0, 1) := by decide +kernel
theorem dX0_init_5 : decode cX0_init 5 = .ok (.iconst 0, 1) := by decide +kernel
theorem dX0_init_6 : decode cX0_init 6 = .ok (.newarray .int, 2) := by decide +kernel
theorem dX0_init_8 : decode cX0_init 8 = .ok (.putfield 9, 3) := by decide +kernel
theorem dX0_init_11 : decode cX0_init 11 = .ok (.aload_n 0, 1) := by decide +kernel
theorem dX0_init_12 : decode cX0_init 12 = .ok (.iconst 0, 1) := by decide +kernel
theorem dX0_init_13 : decode cX0_init 13 = .ok (.newarray .int, 2) := by decide +kernel
theorem dX0_init_15 : decode cX0_init 15 = .ok (.putfield 15, 3) := by decide +kernel
theorem dX0_init_18 : decode cX0_init 18 = .ok (.aload_n 0, 1) := by decide +kernel
theorem dX0_init_19 : decode cX0_init 19 = .ok (.iconst 0, 1) := by decide +kernel
theorem dX0_init_20 : decode cX0_init 20 = .ok (.newarray .long, 2) := by decide +kernel
theorem dX0_init_22 : decode cX0_init 22 = .ok (.putfield 18, 3) := by decide +kernel
theorem dX0_init_25 : decode cX0_init 25 = .ok (.aload_n 0, 1) := by decide +kernel
theorem dX0_init_26 : decode cX0_init 26 = .ok (.bipush 60, 2) := by decide +kernel
theorem dX0_init_28 : decode cX0_init 28 = .ok (.iconst 3, 1) := by decide +kernel
theorem dX0_init_29 : decode cX0_init 29 = .ok (.multianewarray 22 2, 4) := by decide +kernel
theorem dX0_init_33 : decode cX0_init 33 = .ok (.putfield 24, 3) := by decide +kernel
theorem dX0_init_36 : decode cX0_init 36 = .ok (.aload_n 0, 1) := by decide +kernel
theorem dX0_init_37 : decode cX0_init 37 = .ok (.bipush 16, 2) := by decide +kernel
theorem dX0_init_39 : decode cX0_init 39 = .ok (.bipush 6, 2) := by decide +kernel
theorem dX0_init_41 : decode cX0_init 41 = .ok (.multianewarray 22 2, 4) := by decide +kernel
theorem dX0_init_45 : decode cX0_init 45 = .ok (.putfield 27, 3) := by decide +kernel
theorem dX0_init_48 : decode cX0_init 48 = .ok (.aload_n 0, 1) := by decide +kernel
theorem dX0_init_49 : decode cX0_init 49 = .ok (.sipush 1536, 3) := by decide +kernel
theorem dX0_init_52 : decode cX0_init 52 = .ok (.newarray .int, 2) := by decide +kernel
theorem dX0_init_54 : decode cX0_init 54 = .ok (.putfield 30, 3) := by decide +kernel
theorem dX0_init_57 : decode cX0_init 57 = .ok (.aload_n 0, 1) := by decide +kernel
theorem dX0_init_58 : decode cX0_init 58 = .ok (.sipush 400, 3) := by decide +kernel
theorem dX0_init_61 : decode cX0_init 61 = .ok (.newarray .int, 2) := by decide +kernel
theorem dX0_init_63 : decode cX0_init 63 = .ok (.putfield 33, 3) := by decide +kernel
theorem dX0_init_66 : decode cX0_init 66 = .ok (.aload_n 0, 1) := by decide +kernel
theorem dX0_init_67 : decode cX0_init 67 = .ok (.aload_n 1, 1) := by decide +kernel
theorem dX0_init_68 : decode cX0_init 68 = .ok (.putfield 36, 3) := by decide +kernel
theorem dX0_init_71 : decode cX0_init 71 = .ok (.aload_n 0, 1) := by decide +kernel
theorem dX0_init_72 : decode cX0_init 72 = .ok (.aload_n 2, 1) := by decide +kernel
theorem dX0_init_73 : decode cX0_init 73 = .ok (.putfield 40, 3) := by decide +kernel
theorem dX0_init_76 : decode cX0_init 76 = .ok (.aload_n 0, 1) := by decide +kernel
theorem dX0_init_77 : decode cX0_init 77 = .ok (.aload_n 3, 1) := by decide +kernel
theorem dX0_init_78 : decode cX0_init 78 = .ok (.putfield 44, 3) := by decide +kernel
theorem dX0_init_81 : decode cX0_init 81 = .ok (.return_, 1) := by decide +kernel
theorem dX8_fromOf_0 : decode cX8_fromOf 0 = .ok (.aload_n 0, 1) := by decide +kernel
theorem dX8_fromOf_1 : decode cX8_fromOf 1 = .ok (.getfield 20, 3) := by decide +kernel
theorem dX8_fromOf_4 : decode cX8_fromOf 4 = .ok (.iload_n 1, 1) := by decide +kernel
theorem dX8_fromOf_5 : decode cX8_fromOf 5 = .ok (.aaload, 1) := by decide +kernel
theorem dX8_fromOf_6 : decode cX8_fromOf 6 = .ok (.iconst 3, 1) := by decide +kernel
theorem dX8_fromOf_7 : decode cX8_fromOf 7 = .ok (.iload_n 2, 1) := by decide +kernel
theorem dX8_fromOf_8 : decode cX8_fromOf 8 = .ok (.imul, 1) := by decide +kernel
theorem dX8_fromOf_9 : decode cX8_fromOf 9 = .ok (.iaload, 1) := by decide +kernel
theorem dX8_fromOf_10 : decode cX8_fromOf 10 = .ok (.ireturn, 1) := by decide +kernel
theorem dX8_toOf_0 : decode cX8_toOf 0 = .ok (.aload_n 0, 1) := by decide +kernel
theorem dX8_toOf_1 : decode cX8_toOf 1 = .ok (.getfield 20, 3) := by decide +kernel
theorem dX8_toOf_4 : decode cX8_toOf 4 = .ok (.iload_n 1, 1) := by decide +kernel
theorem dX8_toOf_5 : decode cX8_toOf 5 = .ok (.aaload, 1) := by decide +kernel
theorem dX8_toOf_6 : decode cX8_toOf 6 = .ok (.iconst 3, 1) := by decide +kernel
theorem dX8_toOf_7 : decode cX8_toOf 7 = .ok (.iload_n 2, 1) := by decide +kernel
theorem dX8_toOf_8 : decode cX8_toOf 8 = .ok (.imul, 1) := by decide +kernel
theorem dX8_toOf_9 : decode cX8_toOf 9 = .ok (.iconst 1, 1) := by decide +kernel
theorem dX8_toOf_10 : decode cX8_toOf 10 = .ok (.iadd, 1) := by decide +kernel
theorem dX8_toOf_11 : decode cX8_toOf 11 = .ok (.iaload, 1) := by decide +kernel
theorem dX8_toOf_12 : decode cX8_toOf 12 = .ok (.ireturn, 1) := by decide +kernel
theorem dX8_isLevel_0 : decode cX8_isLevel 0 = .ok (.aload_n 0, 1) := by decide +kernel
theorem dX8_isLevel_1 : decode cX8_isLevel 1 = .ok (.getfield 13, 3) := by decide +kernel
theorem dX8_isLevel_4 : decode cX8_isLevel 4 = .ok (.iload_n 1, 1) := by decide +kernel
theorem dX8_isLevel_5 : decode cX8_isLevel 5 = .ok (.aaload, 1) := by decide +kernel
theorem dX8_isLevel_6 : decode cX8_isLevel 6 = .ok (.iconst 1, 1) := by decide +kernel
theorem dX8_isLevel_7 : decode cX8_isLevel 7 = .ok (.iaload, 1) := by decide +kernel
theorem dX8_isLevel_8 : decode cX8_isLevel 8 = .ok (.aload_n 0, 1) := by decide +kernel
theorem dX8_isLevel_9 : decode cX8_isLevel 9 = .ok (.getfield 13, 3) := by decide +kernel
theorem dX8_isLevel_12 : decode cX8_isLevel 12 = .ok (.iload_n 1, 1) := by decide +kernel
theorem dX8_isLevel_13 : decode cX8_isLevel 13 = .ok (.aaload, 1) := by decide +kernel
theorem dX8_isLevel_14 : decode cX8_isLevel 14 = .ok (.iconst 3, 1) := by decide +kernel
theorem dX8_isLevel_15 : decode cX8_isLevel 15 = .ok (.iaload, 1) := by decide +kernel
theorem dX8_isLevel_16 : decode cX8_isLevel 16 = .ok (.if_icmp .ne 7, 3) := by decide +kernel
theorem dX8_isLevel_23 : decode cX8_isLevel 23 = .ok (.iconst 0, 1) := by decide +kernel
theorem dX8_isLevel_24 : decode cX8_isLevel 24 = .ok (.ireturn, 1) := by decide +kernel
theorem dX8_isLevel_19 : decode cX8_isLevel 19 = .ok (.iconst 1, 1) := by decide +kernel
theorem dX8_isLevel_20 : decode cX8_isLevel 20 = .ok (.goto 4, 3) := by decide +kernel
theorem dX2_unitX_0 : decode cX2_unitX 0 = .ok (.aload_n 0, 1) := by decide +kernel
theorem dX2_unitX_1 : decode cX2_unitX 1 = .ok (.getfield 54, 3) := by decide +kernel
theorem dX2_unitX_4 : decode cX2_unitX 4 = .ok (.getfield 103, 3) := by decide +kernel
theorem dX2_unitX_7 : decode cX2_unitX 7 = .ok (.iload_n 1, 1) := by decide +kernel
theorem dX2_unitX_8 : decode cX2_unitX 8 = .ok (.aaload, 1) := by decide +kernel
theorem dX2_unitX_9 : decode cX2_unitX 9 = .ok (.iconst 0, 1) := by decide +kernel
theorem dX2_unitX_10 : decode cX2_unitX 10 = .ok (.iaload, 1) := by decide +kernel
theorem dX2_unitX_11 : decode cX2_unitX 11 = .ok (.aload_n 0, 1) := by decide +kernel
theorem dX2_unitX_12 : decode cX2_unitX 12 = .ok (.getfield 54, 3) := by decide +kernel
theorem dX2_unitX_15 : decode cX2_unitX 15 = .ok (.iload_n 1, 1) := by decide +kernel
theorem dX2_unitX_16 : decode cX2_unitX 16 = .ok (.invokevirtual 99, 3) := by decide +kernel
theorem dX2_unitX_19 : decode cX2_unitX 19 = .ok (.ifCond .eq 7, 3) := by decide +kernel
theorem dX2_unitX_26 : decode cX2_unitX 26 = .ok (.iconst 0, 1) := by decide +kernel
theorem dX2_unitX_27 : decode cX2_unitX 27 = .ok (.iadd, 1) := by decide +kernel
theorem dX2_unitX_28 : decode cX2_unitX 28 = .ok (.ireturn, 1) := by decide +kernel
theorem dX2_unitX_22 : decode cX2_unitX 22 = .ok (.iload_n 2, 1) := by decide +kernel
theorem dX2_unitX_23 : decode cX2_unitX 23 = .ok (.goto 4, 3) := by decide +kernel
theorem dX2_unitY_0 : decode cX2_unitY 0 = .ok (.aload_n 0, 1) := by decide +kernel
theorem dX2_unitY_1 : decode cX2_unitY 1 = .ok (.getfield 54, 3) := by decide +kernel
theorem dX2_unitY_4 : decode cX2_unitY 4 = .ok (.getfield 103, 3) := by decide +kernel
theorem dX2_unitY_7 : decode cX2_unitY 7 = .ok (.iload_n 1, 1) := by decide +kernel
theorem dX2_unitY_8 : decode cX2_unitY 8 = .ok (.aaload, 1) := by decide +kernel
theorem dX2_unitY_9 : decode cX2_unitY 9 = .ok (.iconst 1, 1) := by decide +kernel
theorem dX2_unitY_10 : decode cX2_unitY 10 = .ok (.iaload, 1) := by decide +kernel
theorem dX2_unitY_11 : decode cX2_unitY 11 = .ok (.aload_n 0, 1) := by decide +kernel
theorem dX2_unitY_12 : decode cX2_unitY 12 = .ok (.getfield 54, 3) := by decide +kernel
theorem dX2_unitY_15 : decode cX2_unitY 15 = .ok (.iload_n 1, 1) := by decide +kernel
theorem dX2_unitY_16 : decode cX2_unitY 16 = .ok (.invokevirtual 99, 3) := by decide +kernel
theorem dX2_unitY_19 : decode cX2_unitY 19 = .ok (.ifCond .eq 7, 3) := by decide +kernel
theorem dX2_unitY_26 : decode cX2_unitY 26 = .ok (.iload_n 2, 1) := by decide +kernel
theorem dX2_unitY_27 : decode cX2_unitY 27 = .ok (.iadd, 1) := by decide +kernel
theorem dX2_unitY_28 : decode cX2_unitY 28 = .ok (.ireturn, 1) := by decide +kernel
theorem dX2_unitY_22 : decode cX2_unitY 22 = .ok (.iconst 0, 1) := by decide +kernel
theorem dX2_unitY_23 : decode cX2_unitY 23 = .ok (.goto 4, 3) := by decide +kernel
theorem dX2_isPointOn_0 : decode cX2_isPointOn 0 = .ok (.aload_n 0, 1) := by decide +kernel
theorem dX2_isPointOn_1 : decode cX2_isPointOn 1 = .ok (.getfield 16, 3) := by decide +kernel
theorem dX2_isPointOn_4 : decode cX2_isPointOn 4 = .ok (.aload_n 0, 1) := by decide +kernel
theorem dX2_isPointOn_5 : decode cX2_isPointOn 5 = .ok (.iload_n 1, 1) := by decide +kernel
theorem dX2_isPointOn_6 : decode cX2_isPointOn 6 = .ok (.iload_n 2, 1) := by decide +kernel
theorem dX2_isPointOn_7 : decode cX2_isPointOn 7 = .ok (.invokevirtual 204, 3) := by decide +kernel
theorem dX2_isPointOn_10 : decode cX2_isPointOn 10 = .ok (.bipush 25, 2) := by decide +kernel
theorem dX2_isPointOn_12 : decode cX2_isPointOn 12 = .ok (.imul, 1) := by decide +kernel
theorem dX2_isPointOn_13 : decode cX2_isPointOn 13 = .ok (.aload_n 0, 1) := by decide +kernel
theorem dX2_isPointOn_14 : decode cX2_isPointOn 14 = .ok (.iload_n 1, 1) := by decide +kernel
theorem dX2_isPointOn_15 : decode cX2_isPointOn 15 = .ok (.iload_n 2, 1) := by decide +kernel
theorem dX2_isPointOn_16 : decode cX2_isPointOn 16 = .ok (.invokevirtual 207, 3) := by decide +kernel
theorem dX2_isPointOn_19 : decode cX2_isPointOn 19 = .ok (.iadd, 1) := by decide +kernel
theorem dX2_isPointOn_20 : decode cX2_isPointOn 20 = .ok (.baload, 1) := by decide +kernel
theorem dX2_isPointOn_21 : decode cX2_isPointOn 21 = .ok (.ireturn, 1) := by decide +kernel
theorem dX2_spaceAt_0 : decode cX2_spaceAt 0 = .ok (.iload_n 1, 1) := by decide +kernel
theorem dX2_spaceAt_1 : decode cX2_spaceAt 1 = .ok (.ifCond .lt 33, 3) := by decide +kernel
theorem dX2_spaceAt_34 : decode cX2_spaceAt 34 = .ok (.iconst (-1), 1) := by decide +kernel
theorem dX2_spaceAt_35 : decode cX2_spaceAt 35 = .ok (.ireturn, 1) := by decide +kernel
theorem dX2_spaceAt_4 : decode cX2_spaceAt 4 = .ok (.iload_n 1, 1) := by decide +kernel
theorem dX2_spaceAt_5 : decode cX2_spaceAt 5 = .ok (.bipush 24, 2) := by decide +kernel
theorem dX2_spaceAt_7 : decode cX2_spaceAt 7 = .ok (.if_icmp .ge 27, 3) := by decide +kernel
theorem dX2_spaceAt_10 : decode cX2_spaceAt 10 = .ok (.iload_n 2, 1) := by decide +kernel
theorem dX2_spaceAt_11 : decode cX2_spaceAt 11 = .ok (.ifCond .lt 23, 3) := by decide +kernel
theorem dX2_spaceAt_14 : decode cX2_spaceAt 14 = .ok (.iload_n 2, 1) := by decide +kernel
theorem dX2_spaceAt_15 : decode cX2_spaceAt 15 = .ok (.bipush 24, 2) := by decide +kernel
theorem dX2_spaceAt_17 : decode cX2_spaceAt 17 = .ok (.if_icmp .ge 17, 3) := by decide +kernel
theorem dX2_spaceAt_20 : decode cX2_spaceAt 20 = .ok (.aload_n 0, 1) := by decide +kernel
theorem dX2_spaceAt_21 : decode cX2_spaceAt 21 = .ok (.getfield 20, 3) := by decide +kernel
theorem dX2_spaceAt_24 : decode cX2_spaceAt 24 = .ok (.iload_n 1, 1) := by decide +kernel
theorem dX2_spaceAt_25 : decode cX2_spaceAt 25 = .ok (.bipush 24, 2) := by decide +kernel
theorem dX2_spaceAt_27 : decode cX2_spaceAt 27 = .ok (.imul, 1) := by decide +kernel
theorem dX2_spaceAt_28 : decode cX2_spaceAt 28 = .ok (.iload_n 2, 1) := by decide +kernel
theorem dX2_spaceAt_29 : decode cX2_spaceAt 29 = .ok (.iadd, 1) := by decide +kernel
theorem dX2_spaceAt_30 : decode cX2_spaceAt 30 = .ok (.iaload, 1) := by decide +kernel
theorem dX2_spaceAt_31 : decode cX2_spaceAt 31 = .ok (.goto 4, 3) := by decide +kernel
theorem dX2_roomLeft_0 : decode cX2_roomLeft 0 = .ok (.aload_n 0, 1) := by decide +kernel
theorem dX2_roomLeft_1 : decode cX2_roomLeft 1 = .ok (.iload_n 1, 1) := by decide +kernel
theorem dX2_roomLeft_2 : decode cX2_roomLeft 2 = .ok (.iload_n 2, 1) := by decide +kernel
theorem dX2_roomLeft_3 : decode cX2_roomLeft 3 = .ok (.invokevirtual 204, 3) := by decide +kernel
theorem dX2_roomLeft_6 : decode cX2_roomLeft 6 = .ok (.istore_n 3, 1) := by decide +kernel
theorem dX2_roomLeft_7 : decode cX2_roomLeft 7 = .ok (.aload_n 0, 1) := by decide +kernel
theorem dX2_roomLeft_8 : decode cX2_roomLeft 8 = .ok (.iload_n 1, 1) := by decide +kernel
theorem dX2_roomLeft_9 : decode cX2_roomLeft 9 = .ok (.iload_n 2, 1) := by decide +kernel
theorem dX2_roomLeft_10 : decode cX2_roomLeft 10 = .ok (.invokevirtual 207, 3) := by decide +kernel
theorem dX2_roomLeft_13 : decode cX2_roomLeft 13 = .ok (.istore 4, 2) := by decide +kernel
theorem dX2_roomLeft_15 : decode cX2_roomLeft 15 = .ok (.aload_n 0, 1) := by decide +kernel
theorem dX2_roomLeft_16 : decode cX2_roomLeft 16 = .ok (.getfield 54, 3) := by decide +kernel
theorem dX2_roomLeft_19 : decode cX2_roomLeft 19 = .ok (.iload_n 1, 1) := by decide +kernel
theorem dX2_roomLeft_20 : decode cX2_roomLeft 20 = .ok (.invokevirtual 99, 3) := by decide +kernel
theorem dX2_roomLeft_23 : decode cX2_roomLeft 23 = .ok (.ifCond .eq 13, 3) := by decide +kernel
theorem dX2_roomLeft_36 : decode cX2_roomLeft 36 = .ok (.aload_n 0, 1) := by decide +kernel
theorem dX2_roomLeft_37 : decode cX2_roomLeft 37 = .ok (.iload_n 3, 1) := by decide +kernel
theorem dX2_roomLeft_38 : decode cX2_roomLeft 38 = .ok (.iconst 1, 1) := by decide +kernel
theorem dX2_roomLeft_39 : decode cX2_roomLeft 39 = .ok (.isub, 1) := by decide +kernel
theorem dX2_roomLeft_40 : decode cX2_roomLeft 40 = .ok (.iload 4, 2) := by decide +kernel
theorem dX2_roomLeft_42 : decode cX2_roomLeft 42 = .ok (.invokevirtual 136, 3) := by decide +kernel
theorem dX2_roomLeft_45 : decode cX2_roomLeft 45 = .ok (.ireturn, 1) := by decide +kernel
theorem dX2_roomLeft_26 : decode cX2_roomLeft 26 = .ok (.aload_n 0, 1) := by decide +kernel
theorem dX2_roomLeft_27 : decode cX2_roomLeft 27 = .ok (.iload_n 3, 1) := by decide +kernel
theorem dX2_roomLeft_28 : decode cX2_roomLeft 28 = .ok (.iload 4, 2) := by decide +kernel
theorem dX2_roomLeft_30 : decode cX2_roomLeft 30 = .ok (.invokevirtual 136, 3) := by decide +kernel
theorem dX2_roomLeft_33 : decode cX2_roomLeft 33 = .ok (.goto 12, 3) := by decide +kernel
theorem dX2_roomRight_0 : decode cX2_roomRight 0 = .ok (.aload_n 0, 1) := by decide +kernel
theorem dX2_roomRight_1 : decode cX2_roomRight 1 = .ok (.iload_n 1, 1) := by decide +kernel
theorem dX2_roomRight_2 : decode cX2_roomRight 2 = .ok (.iload_n 2, 1) := by decide +kernel
theorem dX2_roomRight_3 : decode cX2_roomRight 3 = .ok (.invokevirtual 204, 3) := by decide +kernel
theorem dX2_roomRight_6 : decode cX2_roomRight 6 = .ok (.istore_n 3, 1) := by decide +kernel
theorem dX2_roomRight_7 : decode cX2_roomRight 7 = .ok (.aload_n 0, 1) := by decide +kernel
theorem dX2_roomRight_8 : decode cX2_roomRight 8 = .ok (.iload_n 1, 1) := by decide +kernel
theorem dX2_roomRight_9 : decode cX2_roomRight 9 = .ok (.iload_n 2, 1) := by decide +kernel
theorem dX2_roomRight_10 : decode cX2_roomRight 10 = .ok (.invokevirtual 207, 3) := by decide +kernel
theorem dX2_roomRight_13 : decode cX2_roomRight 13 = .ok (.istore 4, 2) := by decide +kernel
theorem dX2_roomRight_15 : decode cX2_roomRight 15 = .ok (.aload_n 0, 1) := by decide +kernel
theorem dX2_roomRight_16 : decode cX2_roomRight 16 = .ok (.getfield 54, 3) := by decide +kernel
theorem dX2_roomRight_19 : decode cX2_roomRight 19 = .ok (.iload_n 1, 1) := by decide +kernel
theorem dX2_roomRight_20 : decode cX2_roomRight 20 = .ok (.invokevirtual 99, 3) := by decide +kernel
theorem dX2_roomRight_23 : decode cX2_roomRight 23 = .ok (.ifCond .eq 15, 3) := by decide +kernel
theorem dX2_roomRight_38 : decode cX2_roomRight 38 = .ok (.aload_n 0, 1) := by decide +kernel
theorem dX2_roomRight_39 : decode cX2_roomRight 39 = .ok (.iload_n 3, 1) := by decide +kernel
theorem dX2_roomRight_40 : decode cX2_roomRight 40 = .ok (.iload 4, 2) := by decide +kernel
theorem dX2_roomRight_42 : decode cX2_roomRight 42 = .ok (.invokevirtual 136, 3) := by decide +kernel
theorem dX2_roomRight_45 : decode cX2_roomRight 45 = .ok (.ireturn, 1) := by decide +kernel
theorem dX2_roomRight_26 : decode cX2_roomRight 26 = .ok (.aload_n 0, 1) := by decide +kernel
theorem dX2_roomRight_27 : decode cX2_roomRight 27 = .ok (.iload_n 3, 1) := by decide +kernel
theorem dX2_roomRight_28 : decode cX2_roomRight 28 = .ok (.iload 4, 2) := by decide +kernel
theorem dX2_roomRight_30 : decode cX2_roomRight 30 = .ok (.iconst 1, 1) := by decide +kernel
theorem dX2_roomRight_31 : decode cX2_roomRight 31 = .ok (.isub, 1) := by decide +kernel
theorem dX2_roomRight_32 : decode cX2_roomRight 32 = .ok (.invokevirtual 136, 3) := by decide +kernel
theorem dX2_roomRight_35 : decode cX2_roomRight 35 = .ok (.goto 10, 3) := by decide +kernel
theorem dX0_notePortal_0 : decode cX0_notePortal 0 = .ok (.iload_n 1, 1) := by decide +kernel
theorem dX0_notePortal_1 : decode cX0_notePortal 1 = .ok (.bipush 13, 2) := by decide +kernel
theorem dX0_notePortal_3 : decode cX0_notePortal 3 = .ok (.imul, 1) := by decide +kernel
theorem dX0_notePortal_4 : decode cX0_notePortal 4 = .ok (.istore 4, 2) := by decide +kernel
theorem dX0_notePortal_6 : decode cX0_notePortal 6 = .ok (.aload_n 0, 1) := by decide +kernel
theorem dX0_notePortal_7 : decode cX0_notePortal 7 = .ok (.getfield 36, 3) := by decide +kernel
theorem dX0_notePortal_10 : decode cX0_notePortal 10 = .ok (.iload_n 2, 1) := by decide +kernel
theorem dX0_notePortal_11 : decode cX0_notePortal 11 = .ok (.invokevirtual 101, 3) := by decide +kernel
theorem dX0_notePortal_14 : decode cX0_notePortal 14 = .ok (.istore 5, 2) := by decide +kernel
theorem dX0_notePortal_16 : decode cX0_notePortal 16 = .ok (.aload_n 0, 1) := by decide +kernel
theorem dX0_notePortal_17 : decode cX0_notePortal 17 = .ok (.getfield 40, 3) := by decide +kernel
theorem dX0_notePortal_20 : decode cX0_notePortal 20 = .ok (.iload_n 2, 1) := by decide +kernel
theorem dX0_notePortal_21 : decode cX0_notePortal 21 = .ok (.iload_n 3, 1) := by decide +kernel
theorem dX0_notePortal_22 : decode cX0_notePortal 22 = .ok (.invokevirtual 105, 3) := by decide +kernel
theorem dX0_notePortal_25 : decode cX0_notePortal 25 = .ok (.istore 6, 2) := by decide +kernel
theorem dX0_notePortal_27 : decode cX0_notePortal 27 = .ok (.aload_n 0, 1) := by decide +kernel
theorem dX0_notePortal_28 : decode cX0_notePortal 28 = .ok (.getfield 40, 3) := by decide +kernel
theorem dX0_notePortal_31 : decode cX0_notePortal 31 = .ok (.iload_n 2, 1) := by decide +kernel
theorem dX0_notePortal_32 : decode cX0_notePortal 32 = .ok (.iload_n 3, 1) := by decide +kernel
theorem dX0_notePortal_33 : decode cX0_notePortal 33 = .ok (.invokevirtual 108, 3) := by decide +kernel
theorem dX0_notePortal_36 : decode cX0_notePortal 36 = .ok (.istore 7, 2) := by decide +kernel
theorem dX0_notePortal_38 : decode cX0_notePortal 38 = .ok (.aload_n 0, 1) := by decide +kernel
theorem dX0_notePortal_39 : decode cX0_notePortal 39 = .ok (.getfield 9, 3) := by decide +kernel
theorem dX0_notePortal_42 : decode cX0_notePortal 42 = .ok (.iload 4, 2) := by decide +kernel
theorem dX0_notePortal_44 : decode cX0_notePortal 44 = .ok (.iconst 2, 1) := by decide +kernel
theorem dX0_notePortal_45 : decode cX0_notePortal 45 = .ok (.iadd, 1) := by decide +kernel
theorem dX0_notePortal_46 : decode cX0_notePortal 46 = .ok (.iload_n 2, 1) := by decide +kernel
theorem dX0_notePortal_47 : decode cX0_notePortal 47 = .ok (.iastore, 1) := by decide +kernel
theorem dX0_notePortal_48 : decode cX0_notePortal 48 = .ok (.aload_n 0, 1) := by decide +kernel
theorem dX0_notePortal_49 : decode cX0_notePortal 49 = .ok (.getfield 9, 3) := by decide +kernel
theorem dX0_notePortal_52 : decode cX0_notePortal 52 = .ok (.iload 4, 2) := by decide +kernel
theorem dX0_notePortal_54 : decode cX0_notePortal 54 = .ok (.iconst 4, 1) := by decide +kernel
theorem dX0_notePortal_55 : decode cX0_notePortal 55 = .ok (.iadd, 1) := by decide +kernel
theorem dX0_notePortal_56 : decode cX0_notePortal 56 = .ok (.iload 5, 2) := by decide +kernel
theorem dX0_notePortal_58 : decode cX0_notePortal 58 = .ok (.ifCond .eq 8, 3) := by decide +kernel
theorem dX0_notePortal_66 : decode cX0_notePortal 66 = .ok (.iload 6, 2) := by decide +kernel
theorem dX0_notePortal_68 : decode cX0_notePortal 68 = .ok (.iconst 1, 1) := by decide +kernel
theorem dX0_notePortal_69 : decode cX0_notePortal 69 = .ok (.isub, 1) := by decide +kernel
theorem dX0_notePortal_70 : decode cX0_notePortal 70 = .ok (.iastore, 1) := by decide +kernel
theorem dX0_notePortal_71 : decode cX0_notePortal 71 = .ok (.aload_n 0, 1) := by decide +kernel
theorem dX0_notePortal_72 : decode cX0_notePortal 72 = .ok (.getfield 9, 3) := by decide +kernel
theorem dX0_notePortal_75 : decode cX0_notePortal 75 = .ok (.iload 4, 2) := by decide +kernel
theorem dX0_notePortal_77 : decode cX0_notePortal 77 = .ok (.iconst 4, 1) := by decide +kernel
theorem dX0_notePortal_78 : decode cX0_notePortal 78 = .ok (.iadd, 1) := by decide +kernel
theorem dX0_notePortal_79 : decode cX0_notePortal 79 = .ok (.iconst 1, 1) := by decide +kernel
theorem dX0_notePortal_80 : decode cX0_notePortal 80 = .ok (.iadd, 1) := by decide +kernel
theorem dX0_notePortal_81 : decode cX0_notePortal 81 = .ok (.iload 7, 2) := by decide +kernel
theorem dX0_notePortal_83 : decode cX0_notePortal 83 = .ok (.iastore, 1) := by decide +kernel
theorem dX0_notePortal_84 : decode cX0_notePortal 84 = .ok (.aload_n 0, 1) := by decide +kernel
theorem dX0_notePortal_85 : decode cX0_notePortal 85 = .ok (.getfield 9, 3) := by decide +kernel
theorem dX0_notePortal_88 : decode cX0_notePortal 88 = .ok (.iload 4, 2) := by decide +kernel
theorem dX0_notePortal_90 : decode cX0_notePortal 90 = .ok (.bipush 6, 2) := by decide +kernel
theorem dX0_notePortal_92 : decode cX0_notePortal 92 = .ok (.iadd, 1) := by decide +kernel
theorem dX0_notePortal_93 : decode cX0_notePortal 93 = .ok (.iload 6, 2) := by decide +kernel
theorem dX0_notePortal_95 : decode cX0_notePortal 95 = .ok (.iastore, 1) := by decide +kernel
theorem dX0_notePortal_96 : decode cX0_notePortal 96 = .ok (.aload_n 0, 1) := by decide +kernel
theorem dX0_notePortal_97 : decode cX0_notePortal 97 = .ok (.getfield 9, 3) := by decide +kernel
theorem dX0_notePortal_100 : decode cX0_notePortal 100 = .ok (.iload 4, 2) := by decide +kernel
theorem dX0_notePortal_102 : decode cX0_notePortal 102 = .ok (.bipush 6, 2) := by decide +kernel
theorem dX0_notePortal_104 : decode cX0_notePortal 104 = .ok (.iadd, 1) := by decide +kernel
theorem dX0_notePortal_105 : decode cX0_notePortal 105 = .ok (.iconst 1, 1) := by decide +kernel
theorem dX0_notePortal_106 : decode cX0_notePortal 106 = .ok (.iadd, 1) := by decide +kernel
theorem dX0_notePortal_107 : decode cX0_notePortal 107 = .ok (.iload 5, 2) := by decide +kernel
theorem dX0_notePortal_109 : decode cX0_notePortal 109 = .ok (.ifCond .eq 10, 3) := by decide +kernel
theorem dX0_notePortal_119 : decode cX0_notePortal 119 = .ok (.iload 7, 2) := by decide +kernel
theorem dX0_notePortal_121 : decode cX0_notePortal 121 = .ok (.iastore, 1) := by decide +kernel
theorem dX0_notePortal_122 : decode cX0_notePortal 122 = .ok (.aload_n 0, 1) := by decide +kernel
theorem dX0_notePortal_123 : decode cX0_notePortal 123 = .ok (.getfield 9, 3) := by decide +kernel
theorem dX0_notePortal_126 : decode cX0_notePortal 126 = .ok (.iload 4, 2) := by decide +kernel
theorem dX0_notePortal_128 : decode cX0_notePortal 128 = .ok (.bipush 11, 2) := by decide +kernel
theorem dX0_notePortal_130 : decode cX0_notePortal 130 = .ok (.iadd, 1) := by decide +kernel
theorem dX0_notePortal_131 : decode cX0_notePortal 131 = .ok (.iconst (-1), 1) := by decide +kernel
theorem dX0_notePortal_132 : decode cX0_notePortal 132 = .ok (.iastore, 1) := by decide +kernel
theorem dX0_notePortal_133 : decode cX0_notePortal 133 = .ok (.return_, 1) := by decide +kernel
theorem dX0_notePortal_112 : decode cX0_notePortal 112 = .ok (.iload 7, 2) := by decide +kernel
theorem dX0_notePortal_114 : decode cX0_notePortal 114 = .ok (.iconst 1, 1) := by decide +kernel
theorem dX0_notePortal_115 : decode cX0_notePortal 115 = .ok (.isub, 1) := by decide +kernel
theorem dX0_notePortal_116 : decode cX0_notePortal 116 = .ok (.goto 5, 3) := by decide +kernel
theorem dX0_notePortal_61 : decode cX0_notePortal 61 = .ok (.iload 6, 2) := by decide +kernel
theorem dX0_notePortal_63 : decode cX0_notePortal 63 = .ok (.goto 7, 3) := by decide +kernel
theorem dX0_setFact_0 : decode cX0_setFact 0 = .ok (.aload_n 0, 1) := by decide +kernel
theorem dX0_setFact_1 : decode cX0_setFact 1 = .ok (.getfield 9, 3) := by decide +kernel
theorem dX0_setFact_4 : decode cX0_setFact 4 = .ok (.iload_n 1, 1) := by decide +kernel
theorem dX0_setFact_5 : decode cX0_setFact 5 = .ok (.bipush 13, 2) := by decide +kernel
theorem dX0_setFact_7 : decode cX0_setFact 7 = .ok (.imul, 1) := by decide +kernel
theorem dX0_setFact_8 : decode cX0_setFact 8 = .ok (.iload_n 2, 1) := by decide +kernel
theorem dX0_setFact_9 : decode cX0_setFact 9 = .ok (.iadd, 1) := by decide +kernel
theorem dX0_setFact_10 : decode cX0_setFact 10 = .ok (.iload_n 3, 1) := by decide +kernel
theorem dX0_setFact_11 : decode cX0_setFact 11 = .ok (.iastore, 1) := by decide +kernel
theorem dX0_setFact_12 : decode cX0_setFact 12 = .ok (.return_, 1) := by decide +kernel
theorem dX10_outside_0 : decode cX10_outside 0 = .ok (.aload_n 0, 1) := by decide +kernel
theorem dX10_outside_1 : decode cX10_outside 1 = .ok (.getfield 44, 3) := by decide +kernel
theorem dX10_outside_4 : decode cX10_outside 4 = .ok (.getfield 48, 3) := by decide +kernel
theorem dX10_outside_7 : decode cX10_outside 7 = .ok (.ireturn, 1) := by decide +kernel
theorem dX0_roomFor_0 : decode cX0_roomFor 0 = .ok (.iload_n 1, 1) := by decide +kernel
theorem dX0_roomFor_1 : decode cX0_roomFor 1 = .ok (.iconst (-1), 1) := by decide +kernel
theorem dX0_roomFor_2 : decode cX0_roomFor 2 = .ok (.if_icmp .ne 13, 3) := by decide +kernel
theorem dX0_roomFor_15 : decode cX0_roomFor 15 = .ok (.iload_n 1, 1) := by decide +kernel
theorem dX0_roomFor_16 : decode cX0_roomFor 16 = .ok (.ireturn, 1) := by decide +kernel
theorem dX0_roomFor_5 : decode cX0_roomFor 5 = .ok (.aload_n 0, 1) := by decide +kernel
theorem dX0_roomFor_6 : decode cX0_roomFor 6 = .ok (.getfield 44, 3) := by decide +kernel
theorem dX0_roomFor_9 : decode cX0_roomFor 9 = .ok (.invokevirtual 111, 3) := by decide +kernel
theorem dX0_roomFor_12 : decode cX0_roomFor 12 = .ok (.goto 4, 3) := by decide +kernel
theorem dX0_scanDoor_0 : decode cX0_scanDoor 0 = .ok (.aload_n 0, 1) := by decide +kernel
theorem dX0_scanDoor_1 : decode cX0_scanDoor 1 = .ok (.getfield 36, 3) := by decide +kernel
theorem dX0_scanDoor_4 : decode cX0_scanDoor 4 = .ok (.iload_n 1, 1) := by decide +kernel
theorem dX0_scanDoor_5 : decode cX0_scanDoor 5 = .ok (.iload_n 2, 1) := by decide +kernel
theorem dX0_scanDoor_6 : decode cX0_scanDoor 6 = .ok (.invokevirtual 71, 3) := by decide +kernel
theorem dX0_scanDoor_9 : decode cX0_scanDoor 9 = .ok (.istore 5, 2) := by decide +kernel
theorem dX0_scanDoor_11 : decode cX0_scanDoor 11 = .ok (.aload_n 0, 1) := by decide +kernel
theorem dX0_scanDoor_12 : decode cX0_scanDoor 12 = .ok (.getfield 36, 3) := by decide +kernel
theorem dX0_scanDoor_15 : decode cX0_scanDoor 15 = .ok (.iload_n 1, 1) := by decide +kernel
theorem dX0_scanDoor_16 : decode cX0_scanDoor 16 = .ok (.iload_n 2, 1) := by decide +kernel
theorem dX0_scanDoor_17 : decode cX0_scanDoor 17 = .ok (.invokevirtual 75, 3) := by decide +kernel
theorem dX0_scanDoor_20 : decode cX0_scanDoor 20 = .ok (.istore 6, 2) := by decide +kernel
theorem dX0_scanDoor_22 : decode cX0_scanDoor 22 = .ok (.iload 5, 2) := by decide +kernel
theorem dX0_scanDoor_24 : decode cX0_scanDoor 24 = .ok (.istore 7, 2) := by decide +kernel
theorem dX0_scanDoor_26 : decode cX0_scanDoor 26 = .ok (.iload 7, 2) := by decide +kernel
theorem dX0_scanDoor_28 : decode cX0_scanDoor 28 = .ok (.iload 6, 2) := by decide +kernel
theorem dX0_scanDoor_30 : decode cX0_scanDoor 30 = .ok (.if_icmp .ge 127, 3) := by decide +kernel
theorem dX0_scanDoor_33 : decode cX0_scanDoor 33 = .ok (.iload 7, 2) := by decide +kernel
theorem dX0_scanDoor_35 : decode cX0_scanDoor 35 = .ok (.iload 5, 2) := by decide +kernel
theorem dX0_scanDoor_37 : decode cX0_scanDoor 37 = .ok (.if_icmp .eq 16, 3) := by decide +kernel
theorem dX0_scanDoor_53 : decode cX0_scanDoor 53 = .ok (.iconst 1, 1) := by decide +kernel
theorem dX0_scanDoor_54 : decode cX0_scanDoor 54 = .ok (.goto 4, 3) := by decide +kernel
theorem dX0_scanDoor_58 : decode cX0_scanDoor 58 = .ok (.istore 8, 2) := by decide +kernel
theorem dX0_scanDoor_60 : decode cX0_scanDoor 60 = .ok (.aload_n 0, 1) := by decide +kernel
theorem dX0_scanDoor_61 : decode cX0_scanDoor 61 = .ok (.getfield 40, 3) := by decide +kernel
theorem dX0_scanDoor_64 : decode cX0_scanDoor 64 = .ok (.iload_n 1, 1) := by decide +kernel
theorem dX0_scanDoor_65 : decode cX0_scanDoor 65 = .ok (.iload 7, 2) := by decide +kernel
theorem dX0_scanDoor_67 : decode cX0_scanDoor 67 = .ok (.invokevirtual 84, 3) := by decide +kernel
theorem dX0_scanDoor_70 : decode cX0_scanDoor 70 = .ok (.istore 9, 2) := by decide +kernel
theorem dX0_scanDoor_72 : decode cX0_scanDoor 72 = .ok (.aload_n 0, 1) := by decide +kernel
theorem dX0_scanDoor_73 : decode cX0_scanDoor 73 = .ok (.getfield 40, 3) := by decide +kernel
theorem dX0_scanDoor_76 : decode cX0_scanDoor 76 = .ok (.iload_n 1, 1) := by decide +kernel
theorem dX0_scanDoor_77 : decode cX0_scanDoor 77 = .ok (.iload 7, 2) := by decide +kernel
theorem dX0_scanDoor_79 : decode cX0_scanDoor 79 = .ok (.invokevirtual 87, 3) := by decide +kernel
theorem dX0_scanDoor_82 : decode cX0_scanDoor 82 = .ok (.istore 10, 2) := by decide +kernel
theorem dX0_scanDoor_84 : decode cX0_scanDoor 84 = .ok (.iload 8, 2) := by decide +kernel
theorem dX0_scanDoor_86 : decode cX0_scanDoor 86 = .ok (.ifCond .eq 65, 3) := by decide +kernel
theorem dX0_scanDoor_151 : decode cX0_scanDoor 151 = .ok (.iinc 7 1, 3) := by decide +kernel
theorem dX0_scanDoor_154 : decode cX0_scanDoor 154 = .ok (.goto (-128), 3) := by decide +kernel
theorem dX0_scanDoor_89 : decode cX0_scanDoor 89 = .ok (.iload 9, 2) := by decide +kernel
theorem dX0_scanDoor_91 : decode cX0_scanDoor 91 = .ok (.iload 10, 2) := by decide +kernel
theorem dX0_scanDoor_93 : decode cX0_scanDoor 93 = .ok (.if_icmp .eq 58, 3) := by decide +kernel
theorem dX0_scanDoor_96 : decode cX0_scanDoor 96 = .ok (.iload 4, 2) := by decide +kernel
theorem dX0_scanDoor_98 : decode cX0_scanDoor 98 = .ok (.ifCond .eq 50, 3) := by decide +kernel
theorem dX0_scanDoor_148 : decode cX0_scanDoor 148 = .ok (.iinc 3 1, 3) := by decide +kernel
theorem dX0_scanDoor_101 : decode cX0_scanDoor 101 = .ok (.iload_n 3, 1) := by decide +kernel
theorem dX0_scanDoor_102 : decode cX0_scanDoor 102 = .ok (.aload_n 0, 1) := by decide +kernel
theorem dX0_scanDoor_103 : decode cX0_scanDoor 103 = .ok (.getfield 56, 3) := by decide +kernel
theorem dX0_scanDoor_106 : decode cX0_scanDoor 106 = .ok (.if_icmp .ge 42, 3) := by decide +kernel
theorem dX0_scanDoor_109 : decode cX0_scanDoor 109 = .ok (.aload_n 0, 1) := by decide +kernel
theorem dX0_scanDoor_110 : decode cX0_scanDoor 110 = .ok (.iload_n 3, 1) := by decide +kernel
theorem dX0_scanDoor_111 : decode cX0_scanDoor 111 = .ok (.iload_n 1, 1) := by decide +kernel
theorem dX0_scanDoor_112 : decode cX0_scanDoor 112 = .ok (.iload 7, 2) := by decide +kernel
theorem dX0_scanDoor_114 : decode cX0_scanDoor 114 = .ok (.invokevirtual 90, 3) := by decide +kernel
theorem dX0_scanDoor_117 : decode cX0_scanDoor 117 = .ok (.aload_n 0, 1) := by decide +kernel
theorem dX0_scanDoor_118 : decode cX0_scanDoor 118 = .ok (.iload_n 3, 1) := by decide +kernel
theorem dX0_scanDoor_119 : decode cX0_scanDoor 119 = .ok (.iconst 3, 1) := by decide +kernel
theorem dX0_scanDoor_120 : decode cX0_scanDoor 120 = .ok (.iload_n 2, 1) := by decide +kernel
theorem dX0_scanDoor_121 : decode cX0_scanDoor 121 = .ok (.invokevirtual 94, 3) := by decide +kernel
theorem dX0_scanDoor_124 : decode cX0_scanDoor 124 = .ok (.aload_n 0, 1) := by decide +kernel
theorem dX0_scanDoor_125 : decode cX0_scanDoor 125 = .ok (.iload_n 3, 1) := by decide +kernel
theorem dX0_scanDoor_126 : decode cX0_scanDoor 126 = .ok (.iconst 0, 1) := by decide +kernel
theorem dX0_scanDoor_127 : decode cX0_scanDoor 127 = .ok (.aload_n 0, 1) := by decide +kernel
theorem dX0_scanDoor_128 : decode cX0_scanDoor 128 = .ok (.iload 9, 2) := by decide +kernel
theorem dX0_scanDoor_130 : decode cX0_scanDoor 130 = .ok (.invokevirtual 97, 3) := by decide +kernel
theorem dX0_scanDoor_133 : decode cX0_scanDoor 133 = .ok (.invokevirtual 94, 3) := by decide +kernel
theorem dX0_scanDoor_136 : decode cX0_scanDoor 136 = .ok (.aload_n 0, 1) := by decide +kernel
theorem dX0_scanDoor_137 : decode cX0_scanDoor 137 = .ok (.iload_n 3, 1) := by decide +kernel
theorem dX0_scanDoor_138 : decode cX0_scanDoor 138 = .ok (.iconst 1, 1) := by decide +kernel
theorem dX0_scanDoor_139 : decode cX0_scanDoor 139 = .ok (.aload_n 0, 1) := by decide +kernel
theorem dX0_scanDoor_140 : decode cX0_scanDoor 140 = .ok (.iload 10, 2) := by decide +kernel
theorem dX0_scanDoor_142 : decode cX0_scanDoor 142 = .ok (.invokevirtual 97, 3) := by decide +kernel
theorem dX0_scanDoor_145 : decode cX0_scanDoor 145 = .ok (.invokevirtual 94, 3) := by decide +kernel
theorem dX0_scanDoor_40 : decode cX0_scanDoor 40 = .ok (.aload_n 0, 1) := by decide +kernel
theorem dX0_scanDoor_41 : decode cX0_scanDoor 41 = .ok (.getfield 40, 3) := by decide +kernel
theorem dX0_scanDoor_44 : decode cX0_scanDoor 44 = .ok (.iload_n 1, 1) := by decide +kernel
theorem dX0_scanDoor_45 : decode cX0_scanDoor 45 = .ok (.iload 7, 2) := by decide +kernel
theorem dX0_scanDoor_47 : decode cX0_scanDoor 47 = .ok (.invokevirtual 78, 3) := by decide +kernel
theorem dX0_scanDoor_50 : decode cX0_scanDoor 50 = .ok (.ifCond .eq 7, 3) := by decide +kernel
theorem dX0_scanDoor_57 : decode cX0_scanDoor 57 = .ok (.iconst 0, 1) := by decide +kernel
theorem dX0_scanDoor_157 : decode cX0_scanDoor 157 = .ok (.iload_n 3, 1) := by decide +kernel
theorem dX0_scanDoor_158 : decode cX0_scanDoor 158 = .ok (.ireturn, 1) := by decide +kernel
theorem dX0_scanLines_0 : decode cX0_scanLines 0 = .ok (.iconst 0, 1) := by decide +kernel
theorem dX0_scanLines_1 : decode cX0_scanLines 1 = .ok (.istore_n 2, 1) := by decide +kernel
theorem dX0_scanLines_2 : decode cX0_scanLines 2 = .ok (.iconst 0, 1) := by decide +kernel
theorem dX0_scanLines_3 : decode cX0_scanLines 3 = .ok (.istore_n 3, 1) := by decide +kernel
theorem dX0_scanLines_4 : decode cX0_scanLines 4 = .ok (.iload_n 3, 1) := by decide +kernel
theorem dX0_scanLines_5 : decode cX0_scanLines 5 = .ok (.aload_n 0, 1) := by decide +kernel
theorem dX0_scanLines_6 : decode cX0_scanLines 6 = .ok (.getfield 36, 3) := by decide +kernel
theorem dX0_scanLines_9 : decode cX0_scanLines 9 = .ok (.getfield 59, 3) := by decide +kernel
theorem dX0_scanLines_12 : decode cX0_scanLines 12 = .ok (.if_icmp .ge 42, 3) := by decide +kernel
theorem dX0_scanLines_15 : decode cX0_scanLines 15 = .ok (.iconst 0, 1) := by decide +kernel
theorem dX0_scanLines_16 : decode cX0_scanLines 16 = .ok (.istore 4, 2) := by decide +kernel
theorem dX0_scanLines_18 : decode cX0_scanLines 18 = .ok (.iload 4, 2) := by decide +kernel
theorem dX0_scanLines_20 : decode cX0_scanLines 20 = .ok (.aload_n 0, 1) := by decide +kernel
theorem dX0_scanLines_21 : decode cX0_scanLines 21 = .ok (.getfield 36, 3) := by decide +kernel
theorem dX0_scanLines_24 : decode cX0_scanLines 24 = .ok (.getfield 64, 3) := by decide +kernel
theorem dX0_scanLines_27 : decode cX0_scanLines 27 = .ok (.iload_n 3, 1) := by decide +kernel
theorem dX0_scanLines_28 : decode cX0_scanLines 28 = .ok (.iaload, 1) := by decide +kernel
theorem dX0_scanLines_29 : decode cX0_scanLines 29 = .ok (.if_icmp .ge 19, 3) := by decide +kernel
theorem dX0_scanLines_32 : decode cX0_scanLines 32 = .ok (.aload_n 0, 1) := by decide +kernel
theorem dX0_scanLines_33 : decode cX0_scanLines 33 = .ok (.iload_n 3, 1) := by decide +kernel
theorem dX0_scanLines_34 : decode cX0_scanLines 34 = .ok (.iload 4, 2) := by decide +kernel
theorem dX0_scanLines_36 : decode cX0_scanLines 36 = .ok (.iload_n 2, 1) := by decide +kernel
theorem dX0_scanLines_37 : decode cX0_scanLines 37 = .ok (.iload_n 1, 1) := by decide +kernel
theorem dX0_scanLines_38 : decode cX0_scanLines 38 = .ok (.invokevirtual 67, 3) := by decide +kernel
theorem dX0_scanLines_41 : decode cX0_scanLines 41 = .ok (.istore_n 2, 1) := by decide +kernel
theorem dX0_scanLines_42 : decode cX0_scanLines 42 = .ok (.iinc 4 1, 3) := by decide +kernel
theorem dX0_scanLines_45 : decode cX0_scanLines 45 = .ok (.goto (-27), 3) := by decide +kernel
theorem dX0_scanLines_48 : decode cX0_scanLines 48 = .ok (.iinc 3 1, 3) := by decide +kernel
theorem dX0_scanLines_51 : decode cX0_scanLines 51 = .ok (.goto (-47), 3) := by decide +kernel
theorem dX0_scanLines_54 : decode cX0_scanLines 54 = .ok (.iload_n 2, 1) := by decide +kernel
theorem dX0_scanLines_55 : decode cX0_scanLines 55 = .ok (.ireturn, 1) := by decide +kernel
theorem dX0_findPortals_0 : decode cX0_findPortals 0 = .ok (.aload_n 0, 1) := by decide +kernel
theorem dX0_findPortals_1 : decode cX0_findPortals 1 = .ok (.iconst 0, 1) := by decide +kernel
theorem dX0_findPortals_2 : decode cX0_findPortals 2 = .ok (.invokevirtual 48, 3) := by decide +kernel
theorem dX0_findPortals_5 : decode cX0_findPortals 5 = .ok (.istore_n 1, 1) := by decide +kernel
theorem dX0_findPortals_6 : decode cX0_findPortals 6 = .ok (.aload_n 0, 1) := by decide +kernel
theorem dX0_findPortals_7 : decode cX0_findPortals 7 = .ok (.iload_n 1, 1) := by decide +kernel
theorem dX0_findPortals_8 : decode cX0_findPortals 8 = .ok (.bipush 13, 2) := by decide +kernel
theorem dX0_findPortals_10 : decode cX0_findPortals 10 = .ok (.imul, 1) := by decide +kernel
theorem dX0_findPortals_11 : decode cX0_findPortals 11 = .ok (.newarray .int, 2) := by decide +kernel
theorem dX0_findPortals_13 : decode cX0_findPortals 13 = .ok (.putfield 9, 3) := by decide +kernel
theorem dX0_findPortals_16 : decode cX0_findPortals 16 = .ok (.aload_n 0, 1) := by decide +kernel
theorem dX0_findPortals_17 : decode cX0_findPortals 17 = .ok (.iload_n 1, 1) := by decide +kernel
theorem dX0_findPortals_18 : decode cX0_findPortals 18 = .ok (.bipush 20, 2) := by decide +kernel
theorem dX0_findPortals_20 : decode cX0_findPortals 20 = .ok (.imul, 1) := by decide +kernel
theorem dX0_findPortals_21 : decode cX0_findPortals 21 = .ok (.iconst 3, 1) := by decide +kernel
theorem dX0_findPortals_22 : decode cX0_findPortals 22 = .ok (.imul, 1) := by decide +kernel
theorem dX0_findPortals_23 : decode cX0_findPortals 23 = .ok (.newarray .int, 2) := by decide +kernel
theorem dX0_findPortals_25 : decode cX0_findPortals 25 = .ok (.putfield 15, 3) := by decide +kernel
theorem dX0_findPortals_28 : decode cX0_findPortals 28 = .ok (.aload_n 0, 1) := by decide +kernel
theorem dX0_findPortals_29 : decode cX0_findPortals 29 = .ok (.iload_n 1, 1) := by decide +kernel
theorem dX0_findPortals_30 : decode cX0_findPortals 30 = .ok (.bipush 63, 2) := by decide +kernel
theorem dX0_findPortals_32 : decode cX0_findPortals 32 = .ok (.iadd, 1) := by decide +kernel
theorem dX0_findPortals_33 : decode cX0_findPortals 33 = .ok (.bipush 64, 2) := by decide +kernel
theorem dX0_findPortals_35 : decode cX0_findPortals 35 = .ok (.idiv, 1) := by decide +kernel
theorem dX0_findPortals_36 : decode cX0_findPortals 36 = .ok (.putfield 52, 3) := by decide +kernel
theorem dX0_findPortals_39 : decode cX0_findPortals 39 = .ok (.aload_n 0, 1) := by decide +kernel
theorem dX0_findPortals_40 : decode cX0_findPortals 40 = .ok (.iload_n 1, 1) := by decide +kernel
theorem dX0_findPortals_41 : decode cX0_findPortals 41 = .ok (.aload_n 0, 1) := by decide +kernel
theorem dX0_findPortals_42 : decode cX0_findPortals 42 = .ok (.getfield 52, 3) := by decide +kernel
theorem dX0_findPortals_45 : decode cX0_findPortals 45 = .ok (.imul, 1) := by decide +kernel
theorem dX0_findPortals_46 : decode cX0_findPortals 46 = .ok (.newarray .long, 2) := by decide +kernel
theorem dX0_findPortals_48 : decode cX0_findPortals 48 = .ok (.putfield 18, 3) := by decide +kernel
theorem dX0_findPortals_51 : decode cX0_findPortals 51 = .ok (.aload_n 0, 1) := by decide +kernel
theorem dX0_findPortals_52 : decode cX0_findPortals 52 = .ok (.iload_n 1, 1) := by decide +kernel
theorem dX0_findPortals_53 : decode cX0_findPortals 53 = .ok (.putfield 56, 3) := by decide +kernel
theorem dX0_findPortals_56 : decode cX0_findPortals 56 = .ok (.aload_n 0, 1) := by decide +kernel
theorem dX0_findPortals_57 : decode cX0_findPortals 57 = .ok (.iconst 1, 1) := by decide +kernel
theorem dX0_findPortals_58 : decode cX0_findPortals 58 = .ok (.invokevirtual 48, 3) := by decide +kernel
theorem dX0_findPortals_61 : decode cX0_findPortals 61 = .ok (.pop, 1) := by decide +kernel
theorem dX0_findPortals_62 : decode cX0_findPortals 62 = .ok (.return_, 1) := by decide +kernel
theorem dX0_factOf_0 : decode cX0_factOf 0 = .ok (.aload_n 0, 1) := by decide +kernel
theorem dX0_factOf_1 : decode cX0_factOf 1 = .ok (.getfield 9, 3) := by decide +kernel
theorem dX0_factOf_4 : decode cX0_factOf 4 = .ok (.iload_n 1, 1) := by decide +kernel
theorem dX0_factOf_5 : decode cX0_factOf 5 = .ok (.bipush 13, 2) := by decide +kernel
theorem dX0_factOf_7 : decode cX0_factOf 7 = .ok (.imul, 1) := by decide +kernel
theorem dX0_factOf_8 : decode cX0_factOf 8 = .ok (.iload_n 2, 1) := by decide +kernel
theorem dX0_factOf_9 : decode cX0_factOf 9 = .ok (.iadd, 1) := by decide +kernel
theorem dX0_factOf_10 : decode cX0_factOf 10 = .ok (.iaload, 1) := by decide +kernel
theorem dX0_factOf_11 : decode cX0_factOf 11 = .ok (.ireturn, 1) := by decide +kernel
theorem dX0_isRoomOf_0 : decode cX0_isRoomOf 0 = .ok (.aload_n 0, 1) := by decide +kernel
theorem dX0_isRoomOf_1 : decode cX0_isRoomOf 1 = .ok (.iload_n 1, 1) := by decide +kernel
theorem dX0_isRoomOf_2 : decode cX0_isRoomOf 2 = .ok (.iconst 0, 1) := by decide +kernel
theorem dX0_isRoomOf_3 : decode cX0_isRoomOf 3 = .ok (.invokevirtual 117, 3) := by decide +kernel
theorem dX0_isRoomOf_6 : decode cX0_isRoomOf 6 = .ok (.iload_n 2, 1) := by decide +kernel
theorem dX0_isRoomOf_7 : decode cX0_isRoomOf 7 = .ok (.if_icmp .eq 13, 3) := by decide +kernel
theorem dX0_isRoomOf_20 : decode cX0_isRoomOf 20 = .ok (.iconst 1, 1) := by decide +kernel
theorem dX0_isRoomOf_21 : decode cX0_isRoomOf 21 = .ok (.goto 4, 3) := by decide +kernel
theorem dX0_isRoomOf_25 : decode cX0_isRoomOf 25 = .ok (.ireturn, 1) := by decide +kernel
theorem dX0_isRoomOf_10 : decode cX0_isRoomOf 10 = .ok (.aload_n 0, 1) := by decide +kernel
theorem dX0_isRoomOf_11 : decode cX0_isRoomOf 11 = .ok (.iload_n 1, 1) := by decide +kernel
theorem dX0_isRoomOf_12 : decode cX0_isRoomOf 12 = .ok (.iconst 1, 1) := by decide +kernel
theorem dX0_isRoomOf_13 : decode cX0_isRoomOf 13 = .ok (.invokevirtual 117, 3) := by decide +kernel
theorem dX0_isRoomOf_16 : decode cX0_isRoomOf 16 = .ok (.iload_n 2, 1) := by decide +kernel
theorem dX0_isRoomOf_17 : decode cX0_isRoomOf 17 = .ok (.if_icmp .ne 7, 3) := by decide +kernel
theorem dX0_isRoomOf_24 : decode cX0_isRoomOf 24 = .ok (.iconst 0, 1) := by decide +kernel
theorem dX0_isOff_0 : decode cX0_isOff 0 = .ok (.aload_n 0, 1) := by decide +kernel
theorem dX0_isOff_1 : decode cX0_isOff 1 = .ok (.iload_n 1, 1) := by decide +kernel
theorem dX0_isOff_2 : decode cX0_isOff 2 = .ok (.bipush 11, 2) := by decide +kernel
theorem dX0_isOff_4 : decode cX0_isOff 4 = .ok (.invokevirtual 117, 3) := by decide +kernel
theorem dX0_isOff_7 : decode cX0_isOff 7 = .ok (.iconst (-1), 1) := by decide +kernel
theorem dX0_isOff_8 : decode cX0_isOff 8 = .ok (.if_icmp .eq 7, 3) := by decide +kernel
theorem dX0_isOff_15 : decode cX0_isOff 15 = .ok (.iconst 0, 1) := by decide +kernel
theorem dX0_isOff_16 : decode cX0_isOff 16 = .ok (.ireturn, 1) := by decide +kernel
theorem dX0_isOff_11 : decode cX0_isOff 11 = .ok (.iconst 1, 1) := by decide +kernel
theorem dX0_isOff_12 : decode cX0_isOff 12 = .ok (.goto 4, 3) := by decide +kernel
theorem dX0_hasRoomForRows_0 : decode cX0_hasRoomForRows 0 = .ok (.aload_n 0, 1) := by decide +kernel
theorem dX0_hasRoomForRows_1 : decode cX0_hasRoomForRows 1 = .ok (.iload_n 1, 1) := by decide +kernel
theorem dX0_hasRoomForRows_2 : decode cX0_hasRoomForRows 2 = .ok (.invokevirtual 120, 3) := by decide +kernel
theorem dX0_hasRoomForRows_5 : decode cX0_hasRoomForRows 5 = .ok (.ifCond .eq 17, 3) := by decide +kernel
theorem dX0_hasRoomForRows_22 : decode cX0_hasRoomForRows 22 = .ok (.iconst 1, 1) := by decide +kernel
theorem dX0_hasRoomForRows_23 : decode cX0_hasRoomForRows 23 = .ok (.goto 4, 3) := by decide +kernel
theorem dX0_hasRoomForRows_27 : decode cX0_hasRoomForRows 27 = .ok (.ireturn, 1) := by decide +kernel
theorem dX0_hasRoomForRows_8 : decode cX0_hasRoomForRows 8 = .ok (.aload_n 0, 1) := by decide +kernel
theorem dX0_hasRoomForRows_9 : decode cX0_hasRoomForRows 9 = .ok (.iload_n 1, 1) := by decide +kernel
theorem dX0_hasRoomForRows_10 : decode cX0_hasRoomForRows 10 = .ok (.bipush 12, 2) := by decide +kernel
theorem dX0_hasRoomForRows_12 : decode cX0_hasRoomForRows 12 = .ok (.invokevirtual 117, 3) := by decide +kernel
theorem dX0_hasRoomForRows_15 : decode cX0_hasRoomForRows 15 = .ok (.iload_n 2, 1) := by decide +kernel
theorem dX0_hasRoomForRows_16 : decode cX0_hasRoomForRows 16 = .ok (.iadd, 1) := by decide +kernel
theorem dX0_hasRoomForRows_17 : decode cX0_hasRoomForRows 17 = .ok (.bipush 20, 2) := by decide +kernel
theorem dX0_hasRoomForRows_19 : decode cX0_hasRoomForRows 19 = .ok (.if_icmp .gt 7, 3) := by decide +kernel
theorem dX0_hasRoomForRows_26 : decode cX0_hasRoomForRows 26 = .ok (.iconst 0, 1) := by decide +kernel
theorem dX0_addCard_0 : decode cX0_addCard 0 = .ok (.aload_n 0, 1) := by decide +kernel
theorem dX0_addCard_1 : decode cX0_addCard 1 = .ok (.getfield 123, 3) := by decide +kernel
theorem dX0_addCard_4 : decode cX0_addCard 4 = .ok (.bipush 60, 2) := by decide +kernel
theorem dX0_addCard_6 : decode cX0_addCard 6 = .ok (.if_icmp .lt 5, 3) := by decide +kernel
theorem dX0_addCard_11 : decode cX0_addCard 11 = .ok (.aload_n 0, 1) := by decide +kernel
theorem dX0_addCard_12 : decode cX0_addCard 12 = .ok (.getfield 24, 3) := by decide +kernel
theorem dX0_addCard_15 : decode cX0_addCard 15 = .ok (.aload_n 0, 1) := by decide +kernel
theorem dX0_addCard_16 : decode cX0_addCard 16 = .ok (.getfield 123, 3) := by decide +kernel
theorem dX0_addCard_19 : decode cX0_addCard 19 = .ok (.aaload, 1) := by decide +kernel
theorem dX0_addCard_20 : decode cX0_addCard 20 = .ok (.astore_n 3, 1) := by decide +kernel
theorem dX0_addCard_21 : decode cX0_addCard 21 = .ok (.aload_n 3, 1) := by decide +kernel
theorem dX0_addCard_22 : decode cX0_addCard 22 = .ok (.iconst 0, 1) := by decide +kernel
theorem dX0_addCard_23 : decode cX0_addCard 23 = .ok (.iload_n 1, 1) := by decide +kernel
theorem dX0_addCard_24 : decode cX0_addCard 24 = .ok (.iastore, 1) := by decide +kernel
theorem dX0_addCard_25 : decode cX0_addCard 25 = .ok (.aload_n 3, 1) := by decide +kernel
theorem dX0_addCard_26 : decode cX0_addCard 26 = .ok (.iconst 1, 1) := by decide +kernel
theorem dX0_addCard_27 : decode cX0_addCard 27 = .ok (.iload_n 2, 1) := by decide +kernel
theorem dX0_addCard_28 : decode cX0_addCard 28 = .ok (.iastore, 1) := by decide +kernel
theorem dX0_addCard_29 : decode cX0_addCard 29 = .ok (.aload_n 3, 1) := by decide +kernel
theorem dX0_addCard_30 : decode cX0_addCard 30 = .ok (.iconst 2, 1) := by decide +kernel
theorem dX0_addCard_31 : decode cX0_addCard 31 = .ok (.aload_n 0, 1) := by decide +kernel
theorem dX0_addCard_32 : decode cX0_addCard 32 = .ok (.getfield 126, 3) := by decide +kernel
theorem dX0_addCard_35 : decode cX0_addCard 35 = .ok (.iastore, 1) := by decide +kernel
theorem dX0_addCard_36 : decode cX0_addCard 36 = .ok (.aload_n 0, 1) := by decide +kernel
theorem dX0_addCard_37 : decode cX0_addCard 37 = .ok (.dup, 1) := by decide +kernel
theorem dX0_addCard_38 : decode cX0_addCard 38 = .ok (.getfield 126, 3) := by decide +kernel
theorem dX0_addCard_41 : decode cX0_addCard 41 = .ok (.iconst 1, 1) := by decide +kernel
theorem dX0_addCard_42 : decode cX0_addCard 42 = .ok (.iadd, 1) := by decide +kernel
theorem dX0_addCard_43 : decode cX0_addCard 43 = .ok (.putfield 126, 3) := by decide +kernel
theorem dX0_addCard_46 : decode cX0_addCard 46 = .ok (.aload_n 0, 1) := by decide +kernel
theorem dX0_addCard_47 : decode cX0_addCard 47 = .ok (.dup, 1) := by decide +kernel
theorem dX0_addCard_48 : decode cX0_addCard 48 = .ok (.getfield 123, 3) := by decide +kernel
theorem dX0_addCard_51 : decode cX0_addCard 51 = .ok (.iconst 1, 1) := by decide +kernel
theorem dX0_addCard_52 : decode cX0_addCard 52 = .ok (.iadd, 1) := by decide +kernel
theorem dX0_addCard_53 : decode cX0_addCard 53 = .ok (.putfield 123, 3) := by decide +kernel
theorem dX0_addCard_56 : decode cX0_addCard 56 = .ok (.aload_n 0, 1) := by decide +kernel
theorem dX0_addCard_57 : decode cX0_addCard 57 = .ok (.getfield 123, 3) := by decide +kernel
theorem dX0_addCard_60 : decode cX0_addCard 60 = .ok (.iconst 1, 1) := by decide +kernel
theorem dX0_addCard_61 : decode cX0_addCard 61 = .ok (.isub, 1) := by decide +kernel
theorem dX0_addCard_62 : decode cX0_addCard 62 = .ok (.ireturn, 1) := by decide +kernel
theorem dX0_addCard_9 : decode cX0_addCard 9 = .ok (.iconst (-1), 1) := by decide +kernel
theorem dX0_addCard_10 : decode cX0_addCard 10 = .ok (.ireturn, 1) := by decide +kernel
theorem dX0_addRight_0 : decode cX0_addRight 0 = .ok (.aload_n 0, 1) := by decide +kernel
theorem dX0_addRight_1 : decode cX0_addRight 1 = .ok (.getfield 129, 3) := by decide +kernel
theorem dX0_addRight_4 : decode cX0_addRight 4 = .ok (.bipush 16, 2) := by decide +kernel
theorem dX0_addRight_6 : decode cX0_addRight 6 = .ok (.if_icmp .lt 5, 3) := by decide +kernel
theorem dX0_addRight_11 : decode cX0_addRight 11 = .ok (.aload_n 0, 1) := by decide +kernel
theorem dX0_addRight_12 : decode cX0_addRight 12 = .ok (.getfield 27, 3) := by decide +kernel
theorem dX0_addRight_15 : decode cX0_addRight 15 = .ok (.aload_n 0, 1) := by decide +kernel
theorem dX0_addRight_16 : decode cX0_addRight 16 = .ok (.getfield 129, 3) := by decide +kernel
theorem dX0_addRight_19 : decode cX0_addRight 19 = .ok (.aaload, 1) := by decide +kernel
theorem dX0_addRight_20 : decode cX0_addRight 20 = .ok (.astore 6, 2) := by decide +kernel
theorem dX0_addRight_22 : decode cX0_addRight 22 = .ok (.aload 6, 2) := by decide +kernel
theorem dX0_addRight_24 : decode cX0_addRight 24 = .ok (.iconst 0, 1) := by decide +kernel
theorem dX0_addRight_25 : decode cX0_addRight 25 = .ok (.iload_n 1, 1) := by decide +kernel
theorem dX0_addRight_26 : decode cX0_addRight 26 = .ok (.iastore, 1) := by decide +kernel
theorem dX0_addRight_27 : decode cX0_addRight 27 = .ok (.aload 6, 2) := by decide +kernel
theorem dX0_addRight_29 : decode cX0_addRight 29 = .ok (.iconst 1, 1) := by decide +kernel
theorem dX0_addRight_30 : decode cX0_addRight 30 = .ok (.iload_n 2, 1) := by decide +kernel
theorem dX0_addRight_31 : decode cX0_addRight 31 = .ok (.iastore, 1) := by decide +kernel
theorem dX0_addRight_32 : decode cX0_addRight 32 = .ok (.aload 6, 2) := by decide +kernel
theorem dX0_addRight_34 : decode cX0_addRight 34 = .ok (.iconst 2, 1) := by decide +kernel
theorem dX0_addRight_35 : decode cX0_addRight 35 = .ok (.iload_n 3, 1) := by decide +kernel
theorem dX0_addRight_36 : decode cX0_addRight 36 = .ok (.iastore, 1) := by decide +kernel
theorem dX0_addRight_37 : decode cX0_addRight 37 = .ok (.aload 6, 2) := by decide +kernel
theorem dX0_addRight_39 : decode cX0_addRight 39 = .ok (.iconst 3, 1) := by decide +kernel
theorem dX0_addRight_40 : decode cX0_addRight 40 = .ok (.iload 4, 2) := by decide +kernel
theorem dX0_addRight_42 : decode cX0_addRight 42 = .ok (.iastore, 1) := by decide +kernel
theorem dX0_addRight_43 : decode cX0_addRight 43 = .ok (.aload 6, 2) := by decide +kernel
theorem dX0_addRight_45 : decode cX0_addRight 45 = .ok (.iconst 4, 1) := by decide +kernel
theorem dX0_addRight_46 : decode cX0_addRight 46 = .ok (.iload 5, 2) := by decide +kernel
theorem dX0_addRight_48 : decode cX0_addRight 48 = .ok (.iastore, 1) := by decide +kernel
theorem dX0_addRight_49 : decode cX0_addRight 49 = .ok (.aload 6, 2) := by decide +kernel
theorem dX0_addRight_51 : decode cX0_addRight 51 = .ok (.iconst 5, 1) := by decide +kernel
theorem dX0_addRight_52 : decode cX0_addRight 52 = .ok (.aload_n 0, 1) := by decide +kernel
theorem dX0_addRight_53 : decode cX0_addRight 53 = .ok (.getfield 126, 3) := by decide +kernel
theorem dX0_addRight_56 : decode cX0_addRight 56 = .ok (.iastore, 1) := by decide +kernel
theorem dX0_addRight_57 : decode cX0_addRight 57 = .ok (.aload_n 0, 1) := by decide +kernel
theorem dX0_addRight_58 : decode cX0_addRight 58 = .ok (.dup, 1) := by decide +kernel
theorem dX0_addRight_59 : decode cX0_addRight 59 = .ok (.getfield 126, 3) := by decide +kernel
theorem dX0_addRight_62 : decode cX0_addRight 62 = .ok (.iconst 1, 1) := by decide +kernel
theorem dX0_addRight_63 : decode cX0_addRight 63 = .ok (.iadd, 1) := by decide +kernel
theorem dX0_addRight_64 : decode cX0_addRight 64 = .ok (.putfield 126, 3) := by decide +kernel
theorem dX0_addRight_67 : decode cX0_addRight 67 = .ok (.aload_n 0, 1) := by decide +kernel
theorem dX0_addRight_68 : decode cX0_addRight 68 = .ok (.dup, 1) := by decide +kernel
theorem dX0_addRight_69 : decode cX0_addRight 69 = .ok (.getfield 129, 3) := by decide +kernel
theorem dX0_addRight_72 : decode cX0_addRight 72 = .ok (.iconst 1, 1) := by decide +kernel
theorem dX0_addRight_73 : decode cX0_addRight 73 = .ok (.iadd, 1) := by decide +kernel
theorem dX0_addRight_74 : decode cX0_addRight 74 = .ok (.putfield 129, 3) := by decide +kernel
theorem dX0_addRight_77 : decode cX0_addRight 77 = .ok (.aload_n 0, 1) := by decide +kernel
theorem dX0_addRight_78 : decode cX0_addRight 78 = .ok (.getfield 129, 3) := by decide +kernel
theorem dX0_addRight_81 : decode cX0_addRight 81 = .ok (.iconst 1, 1) := by decide +kernel
theorem dX0_addRight_82 : decode cX0_addRight 82 = .ok (.isub, 1) := by decide +kernel
theorem dX0_addRight_83 : decode cX0_addRight 83 = .ok (.ireturn, 1) := by decide +kernel
theorem dX0_addRight_9 : decode cX0_addRight 9 = .ok (.iconst (-1), 1) := by decide +kernel
theorem dX0_addRight_10 : decode cX0_addRight 10 = .ok (.ireturn, 1) := by decide +kernel
theorem dX0_latestNote_0 : decode cX0_latestNote 0 = .ok (.aload_n 0, 1) := by decide +kernel
theorem dX0_latestNote_1 : decode cX0_latestNote 1 = .ok (.getfield 138, 3) := by decide +kernel
theorem dX0_latestNote_4 : decode cX0_latestNote 4 = .ok (.iconst 1, 1) := by decide +kernel
theorem dX0_latestNote_5 : decode cX0_latestNote 5 = .ok (.isub, 1) := by decide +kernel
theorem dX0_latestNote_6 : decode cX0_latestNote 6 = .ok (.istore_n 3, 1) := by decide +kernel
theorem dX0_latestNote_7 : decode cX0_latestNote 7 = .ok (.iload_n 3, 1) := by decide +kernel
theorem dX0_latestNote_8 : decode cX0_latestNote 8 = .ok (.ifCond .lt 46, 3) := by decide +kernel
theorem dX0_latestNote_11 : decode cX0_latestNote 11 = .ok (.aload_n 0, 1) := by decide +kernel
theorem dX0_latestNote_12 : decode cX0_latestNote 12 = .ok (.getfield 30, 3) := by decide +kernel
theorem dX0_latestNote_15 : decode cX0_latestNote 15 = .ok (.iconst 3, 1) := by decide +kernel
theorem dX0_latestNote_16 : decode cX0_latestNote 16 = .ok (.iload_n 3, 1) := by decide +kernel
theorem dX0_latestNote_17 : decode cX0_latestNote 17 = .ok (.imul, 1) := by decide +kernel
theorem dX0_latestNote_18 : decode cX0_latestNote 18 = .ok (.iaload, 1) := by decide +kernel
theorem dX0_latestNote_19 : decode cX0_latestNote 19 = .ok (.iload_n 1, 1) := by decide +kernel
theorem dX0_latestNote_20 : decode cX0_latestNote 20 = .ok (.if_icmp .ne 28, 3) := by decide +kernel
theorem dX0_latestNote_48 : decode cX0_latestNote 48 = .ok (.iinc 3 (-1), 3) := by decide +kernel
theorem dX0_latestNote_51 : decode cX0_latestNote 51 = .ok (.goto (-44), 3) := by decide +kernel
theorem dX0_latestNote_23 : decode cX0_latestNote 23 = .ok (.aload_n 0, 1) := by decide +kernel
theorem dX0_latestNote_24 : decode cX0_latestNote 24 = .ok (.getfield 30, 3) := by decide +kernel
theorem dX0_latestNote_27 : decode cX0_latestNote 27 = .ok (.iconst 3, 1) := by decide +kernel
theorem dX0_latestNote_28 : decode cX0_latestNote 28 = .ok (.iload_n 3, 1) := by decide +kernel
theorem dX0_latestNote_29 : decode cX0_latestNote 29 = .ok (.imul, 1) := by decide +kernel
theorem dX0_latestNote_30 : decode cX0_latestNote 30 = .ok (.iconst 2, 1) := by decide +kernel
theorem dX0_latestNote_31 : decode cX0_latestNote 31 = .ok (.iadd, 1) := by decide +kernel
theorem dX0_latestNote_32 : decode cX0_latestNote 32 = .ok (.iaload, 1) := by decide +kernel
theorem dX0_latestNote_33 : decode cX0_latestNote 33 = .ok (.iload_n 2, 1) := by decide +kernel
theorem dX0_latestNote_34 : decode cX0_latestNote 34 = .ok (.if_icmp .ge 14, 3) := by decide +kernel
theorem dX0_latestNote_37 : decode cX0_latestNote 37 = .ok (.aload_n 0, 1) := by decide +kernel
theorem dX0_latestNote_38 : decode cX0_latestNote 38 = .ok (.getfield 30, 3) := by decide +kernel
theorem dX0_latestNote_41 : decode cX0_latestNote 41 = .ok (.iconst 3, 1) := by decide +kernel
theorem dX0_latestNote_42 : decode cX0_latestNote 42 = .ok (.iload_n 3, 1) := by decide +kernel
theorem dX0_latestNote_43 : decode cX0_latestNote 43 = .ok (.imul, 1) := by decide +kernel
theorem dX0_latestNote_44 : decode cX0_latestNote 44 = .ok (.iconst 1, 1) := by decide +kernel
theorem dX0_latestNote_45 : decode cX0_latestNote 45 = .ok (.iadd, 1) := by decide +kernel
theorem dX0_latestNote_46 : decode cX0_latestNote 46 = .ok (.iaload, 1) := by decide +kernel
theorem dX0_latestNote_47 : decode cX0_latestNote 47 = .ok (.ireturn, 1) := by decide +kernel
theorem dX0_latestNote_54 : decode cX0_latestNote 54 = .ok (.iconst (-1), 1) := by decide +kernel
theorem dX0_latestNote_55 : decode cX0_latestNote 55 = .ok (.ireturn, 1) := by decide +kernel
theorem dX0_note_0 : decode cX0_note 0 = .ok (.aload_n 0, 1) := by decide +kernel
theorem dX0_note_1 : decode cX0_note 1 = .ok (.iload_n 1, 1) := by decide +kernel
theorem dX0_note_2 : decode cX0_note 2 = .ok (.aload_n 0, 1) := by decide +kernel
theorem dX0_note_3 : decode cX0_note 3 = .ok (.getfield 126, 3) := by decide +kernel
theorem dX0_note_6 : decode cX0_note 6 = .ok (.invokevirtual 135, 3) := by decide +kernel
theorem dX0_note_9 : decode cX0_note 9 = .ok (.istore_n 3, 1) := by decide +kernel
theorem dX0_note_10 : decode cX0_note 10 = .ok (.aload_n 0, 1) := by decide +kernel
theorem dX0_note_11 : decode cX0_note 11 = .ok (.getfield 138, 3) := by decide +kernel
theorem dX0_note_14 : decode cX0_note 14 = .ok (.sipush 512, 3) := by decide +kernel
theorem dX0_note_17 : decode cX0_note 17 = .ok (.if_icmp .ge 56, 3) := by decide +kernel
theorem dX0_note_73 : decode cX0_note 73 = .ok (.aload_n 0, 1) := by decide +kernel
theorem dX0_note_74 : decode cX0_note 74 = .ok (.dup, 1) := by decide +kernel
theorem dX0_note_75 : decode cX0_note 75 = .ok (.getfield 126, 3) := by decide +kernel
theorem dX0_note_78 : decode cX0_note 78 = .ok (.iconst 1, 1) := by decide +kernel
theorem dX0_note_79 : decode cX0_note 79 = .ok (.iadd, 1) := by decide +kernel
theorem dX0_note_80 : decode cX0_note 80 = .ok (.putfield 126, 3) := by decide +kernel
theorem dX0_note_83 : decode cX0_note 83 = .ok (.iload_n 3, 1) := by decide +kernel
theorem dX0_note_84 : decode cX0_note 84 = .ok (.ireturn, 1) := by decide +kernel
theorem dX0_note_20 : decode cX0_note 20 = .ok (.aload_n 0, 1) := by decide +kernel
theorem dX0_note_21 : decode cX0_note 21 = .ok (.getfield 30, 3) := by decide +kernel
theorem dX0_note_24 : decode cX0_note 24 = .ok (.iconst 3, 1) := by decide +kernel
theorem dX0_note_25 : decode cX0_note 25 = .ok (.aload_n 0, 1) := by decide +kernel
theorem dX0_note_26 : decode cX0_note 26 = .ok (.getfield 138, 3) := by decide +kernel
theorem dX0_note_29 : decode cX0_note 29 = .ok (.imul, 1) := by decide +kernel
theorem dX0_note_30 : decode cX0_note 30 = .ok (.iload_n 1, 1) := by decide +kernel
theorem dX0_note_31 : decode cX0_note 31 = .ok (.iastore, 1) := by decide +kernel
theorem dX0_note_32 : decode cX0_note 32 = .ok (.aload_n 0, 1) := by decide +kernel
theorem dX0_note_33 : decode cX0_note 33 = .ok (.getfield 30, 3) := by decide +kernel
theorem dX0_note_36 : decode cX0_note 36 = .ok (.iconst 3, 1) := by decide +kernel
theorem dX0_note_37 : decode cX0_note 37 = .ok (.aload_n 0, 1) := by decide +kernel
theorem dX0_note_38 : decode cX0_note 38 = .ok (.getfield 138, 3) := by decide +kernel
theorem dX0_note_41 : decode cX0_note 41 = .ok (.imul, 1) := by decide +kernel
theorem dX0_note_42 : decode cX0_note 42 = .ok (.iconst 1, 1) := by decide +kernel
theorem dX0_note_43 : decode cX0_note 43 = .ok (.iadd, 1) := by decide +kernel
theorem dX0_note_44 : decode cX0_note 44 = .ok (.iload_n 2, 1) := by decide +kernel
theorem dX0_note_45 : decode cX0_note 45 = .ok (.iastore, 1) := by decide +kernel
theorem dX0_note_46 : decode cX0_note 46 = .ok (.aload_n 0, 1) := by decide +kernel
theorem dX0_note_47 : decode cX0_note 47 = .ok (.getfield 30, 3) := by decide +kernel
theorem dX0_note_50 : decode cX0_note 50 = .ok (.iconst 3, 1) := by decide +kernel
theorem dX0_note_51 : decode cX0_note 51 = .ok (.aload_n 0, 1) := by decide +kernel
theorem dX0_note_52 : decode cX0_note 52 = .ok (.getfield 138, 3) := by decide +kernel
theorem dX0_note_55 : decode cX0_note 55 = .ok (.imul, 1) := by decide +kernel
theorem dX0_note_56 : decode cX0_note 56 = .ok (.iconst 2, 1) := by decide +kernel
theorem dX0_note_57 : decode cX0_note 57 = .ok (.iadd, 1) := by decide +kernel
theorem dX0_note_58 : decode cX0_note 58 = .ok (.aload_n 0, 1) := by decide +kernel
theorem dX0_note_59 : decode cX0_note 59 = .ok (.getfield 126, 3) := by decide +kernel
theorem dX0_note_62 : decode cX0_note 62 = .ok (.iastore, 1) := by decide +kernel
theorem dX0_note_63 : decode cX0_note 63 = .ok (.aload_n 0, 1) := by decide +kernel
theorem dX0_note_64 : decode cX0_note 64 = .ok (.dup, 1) := by decide +kernel
theorem dX0_note_65 : decode cX0_note 65 = .ok (.getfield 138, 3) := by decide +kernel
theorem dX0_note_68 : decode cX0_note 68 = .ok (.iconst 1, 1) := by decide +kernel
theorem dX0_note_69 : decode cX0_note 69 = .ok (.iadd, 1) := by decide +kernel
theorem dX0_note_70 : decode cX0_note 70 = .ok (.putfield 138, 3) := by decide +kernel
theorem dX0_tellEnd_0 : decode cX0_tellEnd 0 = .ok (.aload_n 0, 1) := by decide +kernel
theorem dX0_tellEnd_1 : decode cX0_tellEnd 1 = .ok (.iload_n 1, 1) := by decide +kernel
theorem dX0_tellEnd_2 : decode cX0_tellEnd 2 = .ok (.iload_n 2, 1) := by decide +kernel
theorem dX0_tellEnd_3 : decode cX0_tellEnd 3 = .ok (.invokevirtual 132, 3) := by decide +kernel
theorem dX0_tellEnd_6 : decode cX0_tellEnd 6 = .ok (.ireturn, 1) := by decide +kernel
theorem dX0_tellLost_0 : decode cX0_tellLost 0 = .ok (.aload_n 0, 1) := by decide +kernel
theorem dX0_tellLost_1 : decode cX0_tellLost 1 = .ok (.bipush 100, 2) := by decide +kernel
theorem dX0_tellLost_3 : decode cX0_tellLost 3 = .ok (.iload_n 1, 1) := by decide +kernel
theorem dX0_tellLost_4 : decode cX0_tellLost 4 = .ok (.iadd, 1) := by decide +kernel
theorem dX0_tellLost_5 : decode cX0_tellLost 5 = .ok (.iload_n 2, 1) := by decide +kernel
theorem dX0_tellLost_6 : decode cX0_tellLost 6 = .ok (.invokevirtual 132, 3) := by decide +kernel
theorem dX0_tellLost_9 : decode cX0_tellLost 9 = .ok (.ireturn, 1) := by decide +kernel
theorem dX0_isNoted_0 : decode cX0_isNoted 0 = .ok (.aload_n 0, 1) := by decide +kernel
theorem dX0_isNoted_1 : decode cX0_isNoted 1 = .ok (.iload_n 1, 1) := by decide +kernel
theorem dX0_isNoted_2 : decode cX0_isNoted 2 = .ok (.iload_n 2, 1) := by decide +kernel
theorem dX0_isNoted_3 : decode cX0_isNoted 3 = .ok (.invokevirtual 135, 3) := by decide +kernel
theorem dX0_isNoted_6 : decode cX0_isNoted 6 = .ok (.istore 4, 2) := by decide +kernel
theorem dX0_isNoted_8 : decode cX0_isNoted 8 = .ok (.iload 4, 2) := by decide +kernel
theorem dX0_isNoted_10 : decode cX0_isNoted 10 = .ok (.iconst (-1), 1) := by decide +kernel
theorem dX0_isNoted_11 : decode cX0_isNoted 11 = .ok (.if_icmp .eq 13, 3) := by decide +kernel
theorem dX0_isNoted_24 : decode cX0_isNoted 24 = .ok (.iconst 0, 1) := by decide +kernel
theorem dX0_isNoted_25 : decode cX0_isNoted 25 = .ok (.ireturn, 1) := by decide +kernel
theorem dX0_isNoted_14 : decode cX0_isNoted 14 = .ok (.iload 4, 2) := by decide +kernel
theorem dX0_isNoted_16 : decode cX0_isNoted 16 = .ok (.iload_n 3, 1) := by decide +kernel
theorem dX0_isNoted_17 : decode cX0_isNoted 17 = .ok (.if_icmp .gt 7, 3) := by decide +kernel
theorem dX0_isNoted_20 : decode cX0_isNoted 20 = .ok (.iconst 1, 1) := by decide +kernel
theorem dX0_isNoted_21 : decode cX0_isNoted 21 = .ok (.goto 4, 3) := by decide +kernel
theorem dX0_setTwo_0 : decode cX0_setTwo 0 = .ok (.aload_n 0, 1) := by decide +kernel
theorem dX0_setTwo_1 : decode cX0_setTwo 1 = .ok (.iload_n 1, 1) := by decide +kernel
theorem dX0_setTwo_2 : decode cX0_setTwo 2 = .ok (.bipush 10, 2) := by decide +kernel
theorem dX0_setTwo_4 : decode cX0_setTwo 4 = .ok (.invokevirtual 117, 3) := by decide +kernel
theorem dX0_setTwo_7 : decode cX0_setTwo 7 = .ok (.ifCond .eq 7, 3) := by decide +kernel
theorem dX0_setTwo_14 : decode cX0_setTwo 14 = .ok (.iconst 0, 1) := by decide +kernel
theorem dX0_setTwo_15 : decode cX0_setTwo 15 = .ok (.istore_n 3, 1) := by decide +kernel
theorem dX0_setTwo_16 : decode cX0_setTwo 16 = .ok (.aload_n 0, 1) := by decide +kernel
theorem dX0_setTwo_17 : decode cX0_setTwo 17 = .ok (.iload_n 1, 1) := by decide +kernel
theorem dX0_setTwo_18 : decode cX0_setTwo 18 = .ok (.bipush 10, 2) := by decide +kernel
theorem dX0_setTwo_20 : decode cX0_setTwo 20 = .ok (.iload_n 2, 1) := by decide +kernel
theorem dX0_setTwo_21 : decode cX0_setTwo 21 = .ok (.ifCond .eq 7, 3) := by decide +kernel
theorem dX0_setTwo_28 : decode cX0_setTwo 28 = .ok (.iconst 0, 1) := by decide +kernel
theorem dX0_setTwo_29 : decode cX0_setTwo 29 = .ok (.invokevirtual 94, 3) := by decide +kernel
theorem dX0_setTwo_32 : decode cX0_setTwo 32 = .ok (.iload_n 3, 1) := by decide +kernel
theorem dX0_setTwo_33 : decode cX0_setTwo 33 = .ok (.ireturn, 1) := by decide +kernel
theorem dX0_setTwo_24 : decode cX0_setTwo 24 = .ok (.iconst 1, 1) := by decide +kernel
theorem dX0_setTwo_25 : decode cX0_setTwo 25 = .ok (.goto 4, 3) := by decide +kernel
theorem dX0_setTwo_10 : decode cX0_setTwo 10 = .ok (.iconst 1, 1) := by decide +kernel
theorem dX0_setTwo_11 : decode cX0_setTwo 11 = .ok (.goto 4, 3) := by decide +kernel
theorem dX0_isAirlock_0 : decode cX0_isAirlock 0 = .ok (.aload_n 0, 1) := by decide +kernel
theorem dX0_isAirlock_1 : decode cX0_isAirlock 1 = .ok (.getfield 18, 3) := by decide +kernel
theorem dX0_isAirlock_4 : decode cX0_isAirlock 4 = .ok (.iload_n 1, 1) := by decide +kernel
theorem dX0_isAirlock_5 : decode cX0_isAirlock 5 = .ok (.aload_n 0, 1) := by decide +kernel
theorem dX0_isAirlock_6 : decode cX0_isAirlock 6 = .ok (.getfield 52, 3) := by decide +kernel
theorem dX0_isAirlock_9 : decode cX0_isAirlock 9 = .ok (.imul, 1) := by decide +kernel
theorem dX0_isAirlock_10 : decode cX0_isAirlock 10 = .ok (.iload_n 2, 1) := by decide +kernel
theorem dX0_isAirlock_11 : decode cX0_isAirlock 11 = .ok (.bipush 64, 2) := by decide +kernel
theorem dX0_isAirlock_13 : decode cX0_isAirlock 13 = .ok (.idiv, 1) := by decide +kernel
theorem dX0_isAirlock_14 : decode cX0_isAirlock 14 = .ok (.iadd, 1) := by decide +kernel
theorem dX0_isAirlock_15 : decode cX0_isAirlock 15 = .ok (.laload, 1) := by decide +kernel
theorem dX0_isAirlock_16 : decode cX0_isAirlock 16 = .ok (.iload_n 2, 1) := by decide +kernel
theorem dX0_isAirlock_17 : decode cX0_isAirlock 17 = .ok (.bipush 64, 2) := by decide +kernel
theorem dX0_isAirlock_19 : decode cX0_isAirlock 19 = .ok (.irem, 1) := by decide +kernel
theorem dX0_isAirlock_20 : decode cX0_isAirlock 20 = .ok (.lshr, 1) := by decide +kernel
theorem dX0_isAirlock_21 : decode cX0_isAirlock 21 = .ok (.lconst 1, 1) := by decide +kernel
theorem dX0_isAirlock_22 : decode cX0_isAirlock 22 = .ok (.land, 1) := by decide +kernel
theorem dX0_isAirlock_23 : decode cX0_isAirlock 23 = .ok (.lconst 0, 1) := by decide +kernel
theorem dX0_isAirlock_24 : decode cX0_isAirlock 24 = .ok (.lcmp, 1) := by decide +kernel
theorem dX0_isAirlock_25 : decode cX0_isAirlock 25 = .ok (.ifCond .eq 7, 3) := by decide +kernel
theorem dX0_isAirlock_32 : decode cX0_isAirlock 32 = .ok (.iconst 0, 1) := by decide +kernel
theorem dX0_isAirlock_33 : decode cX0_isAirlock 33 = .ok (.ireturn, 1) := by decide +kernel
theorem dX0_isAirlock_28 : decode cX0_isAirlock 28 = .ok (.iconst 1, 1) := by decide +kernel
theorem dX0_isAirlock_29 : decode cX0_isAirlock 29 = .ok (.goto 4, 3) := by decide +kernel
theorem dX0_setLockBit_0 : decode cX0_setLockBit 0 = .ok (.iload_n 1, 1) := by decide +kernel
theorem dX0_setLockBit_1 : decode cX0_setLockBit 1 = .ok (.aload_n 0, 1) := by decide +kernel
theorem dX0_setLockBit_2 : decode cX0_setLockBit 2 = .ok (.getfield 52, 3) := by decide +kernel
theorem dX0_setLockBit_5 : decode cX0_setLockBit 5 = .ok (.imul, 1) := by decide +kernel
theorem dX0_setLockBit_6 : decode cX0_setLockBit 6 = .ok (.iload_n 2, 1) := by decide +kernel
theorem dX0_setLockBit_7 : decode cX0_setLockBit 7 = .ok (.bipush 64, 2) := by decide +kernel
theorem dX0_setLockBit_9 : decode cX0_setLockBit 9 = .ok (.idiv, 1) := by decide +kernel
theorem dX0_setLockBit_10 : decode cX0_setLockBit 10 = .ok (.iadd, 1) := by decide +kernel
theorem dX0_setLockBit_11 : decode cX0_setLockBit 11 = .ok (.istore 4, 2) := by decide +kernel
theorem dX0_setLockBit_13 : decode cX0_setLockBit 13 = .ok (.lconst 1, 1) := by decide +kernel
theorem dX0_setLockBit_14 : decode cX0_setLockBit 14 = .ok (.iload_n 2, 1) := by decide +kernel
theorem dX0_setLockBit_15 : decode cX0_setLockBit 15 = .ok (.bipush 64, 2) := by decide +kernel
theorem dX0_setLockBit_17 : decode cX0_setLockBit 17 = .ok (.irem, 1) := by decide +kernel
theorem dX0_setLockBit_18 : decode cX0_setLockBit 18 = .ok (.lshl, 1) := by decide +kernel
theorem dX0_setLockBit_19 : decode cX0_setLockBit 19 = .ok (.lstore 5, 2) := by decide +kernel
theorem dX0_setLockBit_21 : decode cX0_setLockBit 21 = .ok (.aload_n 0, 1) := by decide +kernel
theorem dX0_setLockBit_22 : decode cX0_setLockBit 22 = .ok (.getfield 18, 3) := by decide +kernel
theorem dX0_setLockBit_25 : decode cX0_setLockBit 25 = .ok (.iload 4, 2) := by decide +kernel
theorem dX0_setLockBit_27 : decode cX0_setLockBit 27 = .ok (.iload_n 3, 1) := by decide +kernel
theorem dX0_setLockBit_28 : decode cX0_setLockBit 28 = .ok (.ifCond .eq 16, 3) := by decide +kernel
theorem dX0_setLockBit_44 : decode cX0_setLockBit 44 = .ok (.aload_n 0, 1) := by decide +kernel
theorem dX0_setLockBit_45 : decode cX0_setLockBit 45 = .ok (.getfield 18, 3) := by decide +kernel
theorem dX0_setLockBit_48 : decode cX0_setLockBit 48 = .ok (.iload 4, 2) := by decide +kernel
theorem dX0_setLockBit_50 : decode cX0_setLockBit 50 = .ok (.laload, 1) := by decide +kernel
theorem dX0_setLockBit_51 : decode cX0_setLockBit 51 = .ok (.lload 5, 2) := by decide +kernel
theorem dX0_setLockBit_53 : decode cX0_setLockBit 53 = .ok (.ldc2_w 148, 3) := by decide +kernel
theorem dX0_setLockBit_56 : decode cX0_setLockBit 56 = .ok (.lxor, 1) := by decide +kernel
theorem dX0_setLockBit_57 : decode cX0_setLockBit 57 = .ok (.land, 1) := by decide +kernel
theorem dX0_setLockBit_58 : decode cX0_setLockBit 58 = .ok (.lastore, 1) := by decide +kernel
theorem dX0_setLockBit_59 : decode cX0_setLockBit 59 = .ok (.return_, 1) := by decide +kernel
theorem dX0_setLockBit_31 : decode cX0_setLockBit 31 = .ok (.aload_n 0, 1) := by decide +kernel
theorem dX0_setLockBit_32 : decode cX0_setLockBit 32 = .ok (.getfield 18, 3) := by decide +kernel
theorem dX0_setLockBit_35 : decode cX0_setLockBit 35 = .ok (.iload 4, 2) := by decide +kernel
theorem dX0_setLockBit_37 : decode cX0_setLockBit 37 = .ok (.laload, 1) := by decide +kernel
theorem dX0_setLockBit_38 : decode cX0_setLockBit 38 = .ok (.lload 5, 2) := by decide +kernel
theorem dX0_setLockBit_40 : decode cX0_setLockBit 40 = .ok (.lor, 1) := by decide +kernel
theorem dX0_setLockBit_41 : decode cX0_setLockBit 41 = .ok (.goto 17, 3) := by decide +kernel
theorem dX0_setAirlock_0 : decode cX0_setAirlock 0 = .ok (.aload_n 0, 1) := by decide +kernel
theorem dX0_setAirlock_1 : decode cX0_setAirlock 1 = .ok (.iload_n 1, 1) := by decide +kernel
theorem dX0_setAirlock_2 : decode cX0_setAirlock 2 = .ok (.iload_n 2, 1) := by decide +kernel
theorem dX0_setAirlock_3 : decode cX0_setAirlock 3 = .ok (.invokevirtual 141, 3) := by decide +kernel
theorem dX0_setAirlock_6 : decode cX0_setAirlock 6 = .ok (.istore 4, 2) := by decide +kernel
theorem dX0_setAirlock_8 : decode cX0_setAirlock 8 = .ok (.aload_n 0, 1) := by decide +kernel
theorem dX0_setAirlock_9 : decode cX0_setAirlock 9 = .ok (.iload_n 1, 1) := by decide +kernel
theorem dX0_setAirlock_10 : decode cX0_setAirlock 10 = .ok (.iload_n 2, 1) := by decide +kernel
theorem dX0_setAirlock_11 : decode cX0_setAirlock 11 = .ok (.iload_n 3, 1) := by decide +kernel
theorem dX0_setAirlock_12 : decode cX0_setAirlock 12 = .ok (.invokevirtual 144, 3) := by decide +kernel
theorem dX0_setAirlock_15 : decode cX0_setAirlock 15 = .ok (.aload_n 0, 1) := by decide +kernel
theorem dX0_setAirlock_16 : decode cX0_setAirlock 16 = .ok (.iload_n 2, 1) := by decide +kernel
theorem dX0_setAirlock_17 : decode cX0_setAirlock 17 = .ok (.iload_n 1, 1) := by decide +kernel
theorem dX0_setAirlock_18 : decode cX0_setAirlock 18 = .ok (.iload_n 3, 1) := by decide +kernel
theorem dX0_setAirlock_19 : decode cX0_setAirlock 19 = .ok (.invokevirtual 144, 3) := by decide +kernel
theorem dX0_setAirlock_22 : decode cX0_setAirlock 22 = .ok (.iload 4, 2) := by decide +kernel
theorem dX0_setAirlock_24 : decode cX0_setAirlock 24 = .ok (.ireturn, 1) := by decide +kernel
theorem dX0_setOpen_0 : decode cX0_setOpen 0 = .ok (.iload_n 3, 1) := by decide +kernel
theorem dX0_setOpen_1 : decode cX0_setOpen 1 = .ok (.aload_n 0, 1) := by decide +kernel
theorem dX0_setOpen_2 : decode cX0_setOpen 2 = .ok (.iload_n 1, 1) := by decide +kernel
theorem dX0_setOpen_3 : decode cX0_setOpen 3 = .ok (.bipush 9, 2) := by decide +kernel
theorem dX0_setOpen_5 : decode cX0_setOpen 5 = .ok (.invokevirtual 117, 3) := by decide +kernel
theorem dX0_setOpen_8 : decode cX0_setOpen 8 = .ok (.isub, 1) := by decide +kernel
theorem dX0_setOpen_9 : decode cX0_setOpen 9 = .ok (.istore 4, 2) := by decide +kernel
theorem dX0_setOpen_11 : decode cX0_setOpen 11 = .ok (.iload_n 2, 1) := by decide +kernel
theorem dX0_setOpen_12 : decode cX0_setOpen 12 = .ok (.aload_n 0, 1) := by decide +kernel
theorem dX0_setOpen_13 : decode cX0_setOpen 13 = .ok (.iload_n 1, 1) := by decide +kernel
theorem dX0_setOpen_14 : decode cX0_setOpen 14 = .ok (.bipush 8, 2) := by decide +kernel
theorem dX0_setOpen_16 : decode cX0_setOpen 16 = .ok (.invokevirtual 117, 3) := by decide +kernel
theorem dX0_setOpen_19 : decode cX0_setOpen 19 = .ok (.ifCond .eq 7, 3) := by decide +kernel
theorem dX0_setOpen_26 : decode cX0_setOpen 26 = .ok (.iconst 0, 1) := by decide +kernel
theorem dX0_setOpen_27 : decode cX0_setOpen 27 = .ok (.if_icmp .eq 27, 3) := by decide +kernel
theorem dX0_setOpen_54 : decode cX0_setOpen 54 = .ok (.iload 4, 2) := by decide +kernel
theorem dX0_setOpen_56 : decode cX0_setOpen 56 = .ok (.ireturn, 1) := by decide +kernel
theorem dX0_setOpen_30 : decode cX0_setOpen 30 = .ok (.aload_n 0, 1) := by decide +kernel
theorem dX0_setOpen_31 : decode cX0_setOpen 31 = .ok (.iload_n 1, 1) := by decide +kernel
theorem dX0_setOpen_32 : decode cX0_setOpen 32 = .ok (.bipush 8, 2) := by decide +kernel
theorem dX0_setOpen_34 : decode cX0_setOpen 34 = .ok (.iload_n 2, 1) := by decide +kernel
theorem dX0_setOpen_35 : decode cX0_setOpen 35 = .ok (.ifCond .eq 7, 3) := by decide +kernel
theorem dX0_setOpen_42 : decode cX0_setOpen 42 = .ok (.iconst 0, 1) := by decide +kernel
theorem dX0_setOpen_43 : decode cX0_setOpen 43 = .ok (.invokevirtual 94, 3) := by decide +kernel
theorem dX0_setOpen_46 : decode cX0_setOpen 46 = .ok (.aload_n 0, 1) := by decide +kernel
theorem dX0_setOpen_47 : decode cX0_setOpen 47 = .ok (.iload_n 1, 1) := by decide +kernel
theorem dX0_setOpen_48 : decode cX0_setOpen 48 = .ok (.bipush 9, 2) := by decide +kernel
theorem dX0_setOpen_50 : decode cX0_setOpen 50 = .ok (.iload_n 3, 1) := by decide +kernel
theorem dX0_setOpen_51 : decode cX0_setOpen 51 = .ok (.invokevirtual 94, 3) := by decide +kernel
theorem dX0_setOpen_38 : decode cX0_setOpen 38 = .ok (.iconst 1, 1) := by decide +kernel
theorem dX0_setOpen_39 : decode cX0_setOpen 39 = .ok (.goto 4, 3) := by decide +kernel
theorem dX0_setOpen_22 : decode cX0_setOpen 22 = .ok (.iconst 1, 1) := by decide +kernel
theorem dX0_setOpen_23 : decode cX0_setOpen 23 = .ok (.goto 4, 3) := by decide +kernel
theorem dX0_goOff_0 : decode cX0_goOff 0 = .ok (.aload_n 0, 1) := by decide +kernel
theorem dX0_goOff_1 : decode cX0_goOff 1 = .ok (.iload_n 1, 1) := by decide +kernel
theorem dX0_goOff_2 : decode cX0_goOff 2 = .ok (.invokevirtual 120, 3) := by decide +kernel
theorem dX0_goOff_5 : decode cX0_goOff 5 = .ok (.ifCond .ne 14, 3) := by decide +kernel
theorem dX0_goOff_19 : decode cX0_goOff 19 = .ok (.iconst 0, 1) := by decide +kernel
theorem dX0_goOff_20 : decode cX0_goOff 20 = .ok (.ireturn, 1) := by decide +kernel
theorem dX0_goOff_8 : decode cX0_goOff 8 = .ok (.aload_n 0, 1) := by decide +kernel
theorem dX0_goOff_9 : decode cX0_goOff 9 = .ok (.iload_n 1, 1) := by decide +kernel
theorem dX0_goOff_10 : decode cX0_goOff 10 = .ok (.bipush 11, 2) := by decide +kernel
theorem dX0_goOff_12 : decode cX0_goOff 12 = .ok (.aload_n 0, 1) := by decide +kernel
theorem dX0_goOff_13 : decode cX0_goOff 13 = .ok (.getfield 126, 3) := by decide +kernel
theorem dX0_goOff_16 : decode cX0_goOff 16 = .ok (.invokevirtual 94, 3) := by decide +kernel
theorem dX10_isCaught_0 : decode cX10_isCaught 0 = .ok (.aload_n 0, 1) := by decide +kernel
theorem dX10_isCaught_1 : decode cX10_isCaught 1 = .ok (.getfield 29, 3) := by decide +kernel
theorem dX10_isCaught_4 : decode cX10_isCaught 4 = .ok (.iload_n 1, 1) := by decide +kernel
theorem dX10_isCaught_5 : decode cX10_isCaught 5 = .ok (.aaload, 1) := by decide +kernel
theorem dX10_isCaught_6 : decode cX10_isCaught 6 = .ok (.iconst 3, 1) := by decide +kernel
theorem dX10_isCaught_7 : decode cX10_isCaught 7 = .ok (.iaload, 1) := by decide +kernel
theorem dX10_isCaught_8 : decode cX10_isCaught 8 = .ok (.iconst (-1), 1) := by decide +kernel
theorem dX10_isCaught_9 : decode cX10_isCaught 9 = .ok (.if_icmp .eq 7, 3) := by decide +kernel
theorem dX10_isCaught_16 : decode cX10_isCaught 16 = .ok (.iconst 0, 1) := by decide +kernel
theorem dX10_isCaught_17 : decode cX10_isCaught 17 = .ok (.ireturn, 1) := by decide +kernel
theorem dX10_isCaught_12 : decode cX10_isCaught 12 = .ok (.iconst 1, 1) := by decide +kernel
theorem dX10_isCaught_13 : decode cX10_isCaught 13 = .ok (.goto 4, 3) := by decide +kernel
theorem dX10_putInto_0 : decode cX10_putInto 0 = .ok (.aload_n 0, 1) := by decide +kernel
theorem dX10_putInto_1 : decode cX10_putInto 1 = .ok (.getfield 29, 3) := by decide +kernel
theorem dX10_putInto_4 : decode cX10_putInto 4 = .ok (.iload_n 1, 1) := by decide +kernel
theorem dX10_putInto_5 : decode cX10_putInto 5 = .ok (.aaload, 1) := by decide +kernel
theorem dX10_putInto_6 : decode cX10_putInto 6 = .ok (.astore 6, 2) := by decide +kernel
theorem dX10_putInto_8 : decode cX10_putInto 8 = .ok (.iload_n 2, 1) := by decide +kernel
theorem dX10_putInto_9 : decode cX10_putInto 9 = .ok (.aload_n 0, 1) := by decide +kernel
theorem dX10_putInto_10 : decode cX10_putInto 10 = .ok (.invokevirtual 102, 3) := by decide +kernel
theorem dX10_putInto_13 : decode cX10_putInto 13 = .ok (.if_icmp .ne 7, 3) := by decide +kernel
theorem dX10_putInto_20 : decode cX10_putInto 20 = .ok (.iconst 0, 1) := by decide +kernel
theorem dX10_putInto_21 : decode cX10_putInto 21 = .ok (.istore 7, 2) := by decide +kernel
theorem dX10_putInto_23 : decode cX10_putInto 23 = .ok (.aload 6, 2) := by decide +kernel
theorem dX10_putInto_25 : decode cX10_putInto 25 = .ok (.iconst 0, 1) := by decide +kernel
theorem dX10_putInto_26 : decode cX10_putInto 26 = .ok (.iload_n 2, 1) := by decide +kernel
theorem dX10_putInto_27 : decode cX10_putInto 27 = .ok (.iastore, 1) := by decide +kernel
theorem dX10_putInto_28 : decode cX10_putInto 28 = .ok (.aload 6, 2) := by decide +kernel
theorem dX10_putInto_30 : decode cX10_putInto 30 = .ok (.iconst 1, 1) := by decide +kernel
theorem dX10_putInto_31 : decode cX10_putInto 31 = .ok (.iload 7, 2) := by decide +kernel
theorem dX10_putInto_33 : decode cX10_putInto 33 = .ok (.ifCond .eq 7, 3) := by decide +kernel
theorem dX10_putInto_40 : decode cX10_putInto 40 = .ok (.iload_n 3, 1) := by decide +kernel
theorem dX10_putInto_41 : decode cX10_putInto 41 = .ok (.iastore, 1) := by decide +kernel
theorem dX10_putInto_42 : decode cX10_putInto 42 = .ok (.aload 6, 2) := by decide +kernel
theorem dX10_putInto_44 : decode cX10_putInto 44 = .ok (.iconst 2, 1) := by decide +kernel
theorem dX10_putInto_45 : decode cX10_putInto 45 = .ok (.iload 7, 2) := by decide +kernel
theorem dX10_putInto_47 : decode cX10_putInto 47 = .ok (.ifCond .eq 7, 3) := by decide +kernel
theorem dX10_putInto_54 : decode cX10_putInto 54 = .ok (.iload 4, 2) := by decide +kernel
theorem dX10_putInto_56 : decode cX10_putInto 56 = .ok (.iastore, 1) := by decide +kernel
theorem dX10_putInto_57 : decode cX10_putInto 57 = .ok (.aload 6, 2) := by decide +kernel
theorem dX10_putInto_59 : decode cX10_putInto 59 = .ok (.iconst 5, 1) := by decide +kernel
theorem dX10_putInto_60 : decode cX10_putInto 60 = .ok (.iload 5, 2) := by decide +kernel
theorem dX10_putInto_62 : decode cX10_putInto 62 = .ok (.iastore, 1) := by decide +kernel
theorem dX10_putInto_63 : decode cX10_putInto 63 = .ok (.return_, 1) := by decide +kernel
theorem dX10_putInto_50 : decode cX10_putInto 50 = .ok (.iconst (-1), 1) := by decide +kernel
theorem dX10_putInto_51 : decode cX10_putInto 51 = .ok (.goto 5, 3) := by decide +kernel
theorem dX10_putInto_36 : decode cX10_putInto 36 = .ok (.iconst (-1), 1) := by decide +kernel
theorem dX10_putInto_37 : decode cX10_putInto 37 = .ok (.goto 4, 3) := by decide +kernel
theorem dX10_putInto_16 : decode cX10_putInto 16 = .ok (.iconst 1, 1) := by decide +kernel
theorem dX10_putInto_17 : decode cX10_putInto 17 = .ok (.goto 4, 3) := by decide +kernel
theorem dX0_comeIn_0 : decode cX0_comeIn 0 = .ok (.iload_n 3, 1) := by decide +kernel
theorem dX0_comeIn_1 : decode cX0_comeIn 1 = .ok (.aload_n 0, 1) := by decide +kernel
theorem dX0_comeIn_2 : decode cX0_comeIn 2 = .ok (.iload_n 2, 1) := by decide +kernel
theorem dX0_comeIn_3 : decode cX0_comeIn 3 = .ok (.iconst 0, 1) := by decide +kernel
theorem dX0_comeIn_4 : decode cX0_comeIn 4 = .ok (.invokevirtual 117, 3) := by decide +kernel
theorem dX0_comeIn_7 : decode cX0_comeIn 7 = .ok (.if_icmp .ne 7, 3) := by decide +kernel
theorem dX0_comeIn_14 : decode cX0_comeIn 14 = .ok (.bipush 6, 2) := by decide +kernel
theorem dX0_comeIn_16 : decode cX0_comeIn 16 = .ok (.istore 5, 2) := by decide +kernel
theorem dX0_comeIn_18 : decode cX0_comeIn 18 = .ok (.aload_n 0, 1) := by decide +kernel
theorem dX0_comeIn_19 : decode cX0_comeIn 19 = .ok (.getfield 44, 3) := by decide +kernel
theorem dX0_comeIn_22 : decode cX0_comeIn 22 = .ok (.iload_n 1, 1) := by decide +kernel
theorem dX0_comeIn_23 : decode cX0_comeIn 23 = .ok (.iload_n 3, 1) := by decide +kernel
theorem dX0_comeIn_24 : decode cX0_comeIn 24 = .ok (.aload_n 0, 1) := by decide +kernel
theorem dX0_comeIn_25 : decode cX0_comeIn 25 = .ok (.iload_n 2, 1) := by decide +kernel
theorem dX0_comeIn_26 : decode cX0_comeIn 26 = .ok (.iload 5, 2) := by decide +kernel
theorem dX0_comeIn_28 : decode cX0_comeIn 28 = .ok (.invokevirtual 117, 3) := by decide +kernel
theorem dX0_comeIn_31 : decode cX0_comeIn 31 = .ok (.aload_n 0, 1) := by decide +kernel
theorem dX0_comeIn_32 : decode cX0_comeIn 32 = .ok (.iload_n 2, 1) := by decide +kernel
theorem dX0_comeIn_33 : decode cX0_comeIn 33 = .ok (.iload 5, 2) := by decide +kernel
theorem dX0_comeIn_35 : decode cX0_comeIn 35 = .ok (.iconst 1, 1) := by decide +kernel
theorem dX0_comeIn_36 : decode cX0_comeIn 36 = .ok (.iadd, 1) := by decide +kernel
theorem dX0_comeIn_37 : decode cX0_comeIn 37 = .ok (.invokevirtual 117, 3) := by decide +kernel
theorem dX0_comeIn_40 : decode cX0_comeIn 40 = .ok (.iload 4, 2) := by decide +kernel
theorem dX0_comeIn_42 : decode cX0_comeIn 42 = .ok (.invokevirtual 176, 3) := by decide +kernel
theorem dX0_comeIn_45 : decode cX0_comeIn 45 = .ok (.return_, 1) := by decide +kernel
theorem dX0_comeIn_10 : decode cX0_comeIn 10 = .ok (.iconst 4, 1) := by decide +kernel
theorem dX0_comeIn_11 : decode cX0_comeIn 11 = .ok (.goto 5, 3) := by decide +kernel
theorem dX0_cardRefusal_0 : decode cX0_cardRefusal 0 = .ok (.aload_n 0, 1) := by decide +kernel
theorem dX0_cardRefusal_1 : decode cX0_cardRefusal 1 = .ok (.getfield 24, 3) := by decide +kernel
theorem dX0_cardRefusal_4 : decode cX0_cardRefusal 4 = .ok (.iload_n 1, 1) := by decide +kernel
theorem dX0_cardRefusal_5 : decode cX0_cardRefusal 5 = .ok (.aaload, 1) := by decide +kernel
theorem dX0_cardRefusal_6 : decode cX0_cardRefusal 6 = .ok (.iconst 2, 1) := by decide +kernel
theorem dX0_cardRefusal_7 : decode cX0_cardRefusal 7 = .ok (.iaload, 1) := by decide +kernel
theorem dX0_cardRefusal_8 : decode cX0_cardRefusal 8 = .ok (.iload_n 3, 1) := by decide +kernel
theorem dX0_cardRefusal_9 : decode cX0_cardRefusal 9 = .ok (.if_icmp .lt 5, 3) := by decide +kernel
theorem dX0_cardRefusal_14 : decode cX0_cardRefusal 14 = .ok (.aload_n 0, 1) := by decide +kernel
theorem dX0_cardRefusal_15 : decode cX0_cardRefusal 15 = .ok (.getfield 24, 3) := by decide +kernel
theorem dX0_cardRefusal_18 : decode cX0_cardRefusal 18 = .ok (.iload_n 1, 1) := by decide +kernel
theorem dX0_cardRefusal_19 : decode cX0_cardRefusal 19 = .ok (.aaload, 1) := by decide +kernel
theorem dX0_cardRefusal_20 : decode cX0_cardRefusal 20 = .ok (.iconst 1, 1) := by decide +kernel
theorem dX0_cardRefusal_21 : decode cX0_cardRefusal 21 = .ok (.iaload, 1) := by decide +kernel
theorem dX0_cardRefusal_22 : decode cX0_cardRefusal 22 = .ok (.iload_n 2, 1) := by decide +kernel
theorem dX0_cardRefusal_23 : decode cX0_cardRefusal 23 = .ok (.if_icmp .ge 5, 3) := by decide +kernel
theorem dX0_cardRefusal_28 : decode cX0_cardRefusal 28 = .ok (.aload_n 0, 1) := by decide +kernel
theorem dX0_cardRefusal_29 : decode cX0_cardRefusal 29 = .ok (.bipush 100, 2) := by decide +kernel
theorem dX0_cardRefusal_31 : decode cX0_cardRefusal 31 = .ok (.iload_n 1, 1) := by decide +kernel
theorem dX0_cardRefusal_32 : decode cX0_cardRefusal 32 = .ok (.iadd, 1) := by decide +kernel
theorem dX0_cardRefusal_33 : decode cX0_cardRefusal 33 = .ok (.iload_n 3, 1) := by decide +kernel
theorem dX0_cardRefusal_34 : decode cX0_cardRefusal 34 = .ok (.iload_n 2, 1) := by decide +kernel
theorem dX0_cardRefusal_35 : decode cX0_cardRefusal 35 = .ok (.invokevirtual 210, 3) := by decide +kernel
theorem dX0_cardRefusal_38 : decode cX0_cardRefusal 38 = .ok (.ifCond .eq 7, 3) := by decide +kernel
theorem dX0_cardRefusal_45 : decode cX0_cardRefusal 45 = .ok (.iconst 0, 1) := by decide +kernel
theorem dX0_cardRefusal_46 : decode cX0_cardRefusal 46 = .ok (.ireturn, 1) := by decide +kernel
theorem dX0_cardRefusal_41 : decode cX0_cardRefusal 41 = .ok (.iconst 3, 1) := by decide +kernel
theorem dX0_cardRefusal_42 : decode cX0_cardRefusal 42 = .ok (.goto 4, 3) := by decide +kernel
theorem dX0_cardRefusal_26 : decode cX0_cardRefusal 26 = .ok (.iconst 2, 1) := by decide +kernel
theorem dX0_cardRefusal_27 : decode cX0_cardRefusal 27 = .ok (.ireturn, 1) := by decide +kernel
theorem dX0_cardRefusal_12 : decode cX0_cardRefusal 12 = .ok (.iconst 1, 1) := by decide +kernel
theorem dX0_cardRefusal_13 : decode cX0_cardRefusal 13 = .ok (.ireturn, 1) := by decide +kernel
theorem dX10_groupOf_0 : decode cX10_groupOf 0 = .ok (.aload_n 0, 1) := by decide +kernel
theorem dX10_groupOf_1 : decode cX10_groupOf 1 = .ok (.getfield 29, 3) := by decide +kernel
theorem dX10_groupOf_4 : decode cX10_groupOf 4 = .ok (.iload_n 1, 1) := by decide +kernel
theorem dX10_groupOf_5 : decode cX10_groupOf 5 = .ok (.aaload, 1) := by decide +kernel
theorem dX10_groupOf_6 : decode cX10_groupOf 6 = .ok (.bipush 6, 2) := by decide +kernel
theorem dX10_groupOf_8 : decode cX10_groupOf 8 = .ok (.iaload, 1) := by decide +kernel
theorem dX10_groupOf_9 : decode cX10_groupOf 9 = .ok (.ireturn, 1) := by decide +kernel
theorem dX10_zoneOf_0 : decode cX10_zoneOf 0 = .ok (.iload_n 1, 1) := by decide +kernel
theorem dX10_zoneOf_1 : decode cX10_zoneOf 1 = .ok (.ifCond .lt 29, 3) := by decide +kernel
theorem dX10_zoneOf_30 : decode cX10_zoneOf 30 = .ok (.iconst (-1), 1) := by decide +kernel
theorem dX10_zoneOf_31 : decode cX10_zoneOf 31 = .ok (.ireturn, 1) := by decide +kernel
theorem dX10_zoneOf_4 : decode cX10_zoneOf 4 = .ok (.iload_n 1, 1) := by decide +kernel
theorem dX10_zoneOf_5 : decode cX10_zoneOf 5 = .ok (.aload_n 0, 1) := by decide +kernel
theorem dX10_zoneOf_6 : decode cX10_zoneOf 6 = .ok (.getfield 44, 3) := by decide +kernel
theorem dX10_zoneOf_9 : decode cX10_zoneOf 9 = .ok (.getfield 48, 3) := by decide +kernel
theorem dX10_zoneOf_12 : decode cX10_zoneOf 12 = .ok (.if_icmp .ge 18, 3) := by decide +kernel
theorem dX10_zoneOf_15 : decode cX10_zoneOf 15 = .ok (.aload_n 0, 1) := by decide +kernel
theorem dX10_zoneOf_16 : decode cX10_zoneOf 16 = .ok (.getfield 44, 3) := by decide +kernel
theorem dX10_zoneOf_19 : decode cX10_zoneOf 19 = .ok (.getfield 52, 3) := by decide +kernel
theorem dX10_zoneOf_22 : decode cX10_zoneOf 22 = .ok (.iload_n 1, 1) := by decide +kernel
theorem dX10_zoneOf_23 : decode cX10_zoneOf 23 = .ok (.iaload, 1) := by decide +kernel
theorem dX10_zoneOf_24 : decode cX10_zoneOf 24 = .ok (.bipush 10, 2) := by decide +kernel
theorem dX10_zoneOf_26 : decode cX10_zoneOf 26 = .ok (.irem, 1) := by decide +kernel
theorem dX10_zoneOf_27 : decode cX10_zoneOf 27 = .ok (.goto 4, 3) := by decide +kernel
theorem dX0_isInSpan_0 : decode cX0_isInSpan 0 = .ok (.iload_n 1, 1) := by decide +kernel
theorem dX0_isInSpan_1 : decode cX0_isInSpan 1 = .ok (.iload_n 2, 1) := by decide +kernel
theorem dX0_isInSpan_2 : decode cX0_isInSpan 2 = .ok (.if_icmp .gt 19, 3) := by decide +kernel
theorem dX0_isInSpan_21 : decode cX0_isInSpan 21 = .ok (.iload_n 1, 1) := by decide +kernel
theorem dX0_isInSpan_22 : decode cX0_isInSpan 22 = .ok (.iload_n 0, 1) := by decide +kernel
theorem dX0_isInSpan_23 : decode cX0_isInSpan 23 = .ok (.if_icmp .le 8, 3) := by decide +kernel
theorem dX0_isInSpan_31 : decode cX0_isInSpan 31 = .ok (.iconst 1, 1) := by decide +kernel
theorem dX0_isInSpan_32 : decode cX0_isInSpan 32 = .ok (.goto 4, 3) := by decide +kernel
theorem dX0_isInSpan_36 : decode cX0_isInSpan 36 = .ok (.ireturn, 1) := by decide +kernel
theorem dX0_isInSpan_26 : decode cX0_isInSpan 26 = .ok (.iload_n 0, 1) := by decide +kernel
theorem dX0_isInSpan_27 : decode cX0_isInSpan 27 = .ok (.iload_n 2, 1) := by decide +kernel
theorem dX0_isInSpan_28 : decode cX0_isInSpan 28 = .ok (.if_icmp .ge 7, 3) := by decide +kernel
theorem dX0_isInSpan_35 : decode cX0_isInSpan 35 = .ok (.iconst 0, 1) := by decide +kernel
theorem dX0_isInSpan_5 : decode cX0_isInSpan 5 = .ok (.iload_n 1, 1) := by decide +kernel
theorem dX0_isInSpan_6 : decode cX0_isInSpan 6 = .ok (.iload_n 0, 1) := by decide +kernel
theorem dX0_isInSpan_7 : decode cX0_isInSpan 7 = .ok (.if_icmp .gt 12, 3) := by decide +kernel
theorem dX0_isInSpan_19 : decode cX0_isInSpan 19 = .ok (.iconst 0, 1) := by decide +kernel
theorem dX0_isInSpan_20 : decode cX0_isInSpan 20 = .ok (.ireturn, 1) := by decide +kernel
theorem dX0_isInSpan_10 : decode cX0_isInSpan 10 = .ok (.iload_n 0, 1) := by decide +kernel
theorem dX0_isInSpan_11 : decode cX0_isInSpan 11 = .ok (.iload_n 2, 1) := by decide +kernel
theorem dX0_isInSpan_12 : decode cX0_isInSpan 12 = .ok (.if_icmp .ge 7, 3) := by decide +kernel
theorem dX0_isInSpan_15 : decode cX0_isInSpan 15 = .ok (.iconst 1, 1) := by decide +kernel
theorem dX0_isInSpan_16 : decode cX0_isInSpan 16 = .ok (.goto 4, 3) := by decide +kernel
theorem dX0_hasRight_0 : decode cX0_hasRight 0 = .ok (.iload_n 2, 1) := by decide +kernel
theorem dX0_hasRight_1 : decode cX0_hasRight 1 = .ok (.aload_n 0, 1) := by decide +kernel
theorem dX0_hasRight_2 : decode cX0_hasRight 2 = .ok (.getfield 44, 3) := by decide +kernel
theorem dX0_hasRight_5 : decode cX0_hasRight 5 = .ok (.invokevirtual 111, 3) := by decide +kernel
theorem dX0_hasRight_8 : decode cX0_hasRight 8 = .ok (.if_icmp .ne 5, 3) := by decide +kernel
theorem dX0_hasRight_13 : decode cX0_hasRight 13 = .ok (.aload_n 0, 1) := by decide +kernel
theorem dX0_hasRight_14 : decode cX0_hasRight 14 = .ok (.getfield 44, 3) := by decide +kernel
theorem dX0_hasRight_17 : decode cX0_hasRight 17 = .ok (.aload_n 0, 1) := by decide +kernel
theorem dX0_hasRight_18 : decode cX0_hasRight 18 = .ok (.getfield 24, 3) := by decide +kernel
theorem dX0_hasRight_21 : decode cX0_hasRight 21 = .ok (.iload_n 1, 1) := by decide +kernel
theorem dX0_hasRight_22 : decode cX0_hasRight 22 = .ok (.aaload, 1) := by decide +kernel
theorem dX0_hasRight_23 : decode cX0_hasRight 23 = .ok (.iconst 0, 1) := by decide +kernel
theorem dX0_hasRight_24 : decode cX0_hasRight 24 = .ok (.iaload, 1) := by decide +kernel
theorem dX0_hasRight_25 : decode cX0_hasRight 25 = .ok (.invokevirtual 213, 3) := by decide +kernel
theorem dX0_hasRight_28 : decode cX0_hasRight 28 = .ok (.istore 5, 2) := by decide +kernel
theorem dX0_hasRight_30 : decode cX0_hasRight 30 = .ok (.aload_n 0, 1) := by decide +kernel
theorem dX0_hasRight_31 : decode cX0_hasRight 31 = .ok (.getfield 44, 3) := by decide +kernel
theorem dX0_hasRight_34 : decode cX0_hasRight 34 = .ok (.iload_n 2, 1) := by decide +kernel
theorem dX0_hasRight_35 : decode cX0_hasRight 35 = .ok (.invokevirtual 216, 3) := by decide +kernel
theorem dX0_hasRight_38 : decode cX0_hasRight 38 = .ok (.istore 6, 2) := by decide +kernel
theorem dX0_hasRight_40 : decode cX0_hasRight 40 = .ok (.iconst 0, 1) := by decide +kernel
theorem dX0_hasRight_41 : decode cX0_hasRight 41 = .ok (.istore 7, 2) := by decide +kernel
theorem dX0_hasRight_43 : decode cX0_hasRight 43 = .ok (.iload 7, 2) := by decide +kernel
theorem dX0_hasRight_45 : decode cX0_hasRight 45 = .ok (.aload_n 0, 1) := by decide +kernel
theorem dX0_hasRight_46 : decode cX0_hasRight 46 = .ok (.getfield 129, 3) := by decide +kernel
theorem dX0_hasRight_49 : decode cX0_hasRight 49 = .ok (.if_icmp .ge 110, 3) := by decide +kernel
theorem dX0_hasRight_52 : decode cX0_hasRight 52 = .ok (.aload_n 0, 1) := by decide +kernel
theorem dX0_hasRight_53 : decode cX0_hasRight 53 = .ok (.getfield 27, 3) := by decide +kernel
theorem dX0_hasRight_56 : decode cX0_hasRight 56 = .ok (.iload 7, 2) := by decide +kernel
theorem dX0_hasRight_58 : decode cX0_hasRight 58 = .ok (.aaload, 1) := by decide +kernel
theorem dX0_hasRight_59 : decode cX0_hasRight 59 = .ok (.astore 8, 2) := by decide +kernel
theorem dX0_hasRight_61 : decode cX0_hasRight 61 = .ok (.aload 8, 2) := by decide +kernel
theorem dX0_hasRight_63 : decode cX0_hasRight 63 = .ok (.iconst 0, 1) := by decide +kernel
theorem dX0_hasRight_64 : decode cX0_hasRight 64 = .ok (.iaload, 1) := by decide +kernel
theorem dX0_hasRight_65 : decode cX0_hasRight 65 = .ok (.iload 5, 2) := by decide +kernel
theorem dX0_hasRight_67 : decode cX0_hasRight 67 = .ok (.if_icmp .ne 25, 3) := by decide +kernel
theorem dX0_hasRight_92 : decode cX0_hasRight 92 = .ok (.iconst 0, 1) := by decide +kernel
theorem dX0_hasRight_93 : decode cX0_hasRight 93 = .ok (.istore 9, 2) := by decide +kernel
theorem dX0_hasRight_95 : decode cX0_hasRight 95 = .ok (.aload 8, 2) := by decide +kernel
theorem dX0_hasRight_97 : decode cX0_hasRight 97 = .ok (.iconst 4, 1) := by decide +kernel
theorem dX0_hasRight_98 : decode cX0_hasRight 98 = .ok (.iaload, 1) := by decide +kernel
theorem dX0_hasRight_99 : decode cX0_hasRight 99 = .ok (.iload_n 3, 1) := by decide +kernel
theorem dX0_hasRight_100 : decode cX0_hasRight 100 = .ok (.if_icmp .gt 26, 3) := by decide +kernel
theorem dX0_hasRight_126 : decode cX0_hasRight 126 = .ok (.iconst 0, 1) := by decide +kernel
theorem dX0_hasRight_127 : decode cX0_hasRight 127 = .ok (.istore 10, 2) := by decide +kernel
theorem dX0_hasRight_129 : decode cX0_hasRight 129 = .ok (.iload 9, 2) := by decide +kernel
theorem dX0_hasRight_131 : decode cX0_hasRight 131 = .ok (.ifCond .eq 22, 3) := by decide +kernel
theorem dX0_hasRight_153 : decode cX0_hasRight 153 = .ok (.iinc 7 1, 3) := by decide +kernel
theorem dX0_hasRight_156 : decode cX0_hasRight 156 = .ok (.goto (-113), 3) := by decide +kernel
theorem dX0_hasRight_134 : decode cX0_hasRight 134 = .ok (.iload 10, 2) := by decide +kernel
theorem dX0_hasRight_136 : decode cX0_hasRight 136 = .ok (.ifCond .eq 17, 3) := by decide +kernel
theorem dX0_hasRight_139 : decode cX0_hasRight 139 = .ok (.aload_n 0, 1) := by decide +kernel
theorem dX0_hasRight_140 : decode cX0_hasRight 140 = .ok (.iload 7, 2) := by decide +kernel
theorem dX0_hasRight_142 : decode cX0_hasRight 142 = .ok (.iload 4, 2) := by decide +kernel
theorem dX0_hasRight_144 : decode cX0_hasRight 144 = .ok (.iload_n 3, 1) := by decide +kernel
theorem dX0_hasRight_145 : decode cX0_hasRight 145 = .ok (.invokevirtual 210, 3) := by decide +kernel
theorem dX0_hasRight_148 : decode cX0_hasRight 148 = .ok (.ifCond .ne 5, 3) := by decide +kernel
theorem dX0_hasRight_151 : decode cX0_hasRight 151 = .ok (.iconst 1, 1) := by decide +kernel
theorem dX0_hasRight_152 : decode cX0_hasRight 152 = .ok (.ireturn, 1) := by decide +kernel
theorem dX0_hasRight_103 : decode cX0_hasRight 103 = .ok (.iload_n 3, 1) := by decide +kernel
theorem dX0_hasRight_104 : decode cX0_hasRight 104 = .ok (.sipush 1440, 3) := by decide +kernel
theorem dX0_hasRight_107 : decode cX0_hasRight 107 = .ok (.irem, 1) := by decide +kernel
theorem dX0_hasRight_108 : decode cX0_hasRight 108 = .ok (.aload 8, 2) := by decide +kernel
theorem dX0_hasRight_110 : decode cX0_hasRight 110 = .ok (.iconst 2, 1) := by decide +kernel
theorem dX0_hasRight_111 : decode cX0_hasRight 111 = .ok (.iaload, 1) := by decide +kernel
theorem dX0_hasRight_112 : decode cX0_hasRight 112 = .ok (.aload 8, 2) := by decide +kernel
theorem dX0_hasRight_114 : decode cX0_hasRight 114 = .ok (.iconst 3, 1) := by decide +kernel
theorem dX0_hasRight_115 : decode cX0_hasRight 115 = .ok (.iaload, 1) := by decide +kernel
theorem dX0_hasRight_116 : decode cX0_hasRight 116 = .ok (.invokestatic 219, 3) := by decide +kernel
theorem dX0_hasRight_119 : decode cX0_hasRight 119 = .ok (.ifCond .eq 7, 3) := by decide +kernel
theorem dX0_hasRight_122 : decode cX0_hasRight 122 = .ok (.iconst 1, 1) := by decide +kernel
theorem dX0_hasRight_123 : decode cX0_hasRight 123 = .ok (.goto 4, 3) := by decide +kernel
theorem dX0_hasRight_70 : decode cX0_hasRight 70 = .ok (.aload 8, 2) := by decide +kernel
theorem dX0_hasRight_72 : decode cX0_hasRight 72 = .ok (.iconst 1, 1) := by decide +kernel
theorem dX0_hasRight_73 : decode cX0_hasRight 73 = .ok (.iaload, 1) := by decide +kernel
theorem dX0_hasRight_74 : decode cX0_hasRight 74 = .ok (.iload 6, 2) := by decide +kernel
theorem dX0_hasRight_76 : decode cX0_hasRight 76 = .ok (.if_icmp .ne 16, 3) := by decide +kernel
theorem dX0_hasRight_79 : decode cX0_hasRight 79 = .ok (.aload 8, 2) := by decide +kernel
theorem dX0_hasRight_81 : decode cX0_hasRight 81 = .ok (.iconst 5, 1) := by decide +kernel
theorem dX0_hasRight_82 : decode cX0_hasRight 82 = .ok (.iaload, 1) := by decide +kernel
theorem dX0_hasRight_83 : decode cX0_hasRight 83 = .ok (.iload 4, 2) := by decide +kernel
theorem dX0_hasRight_85 : decode cX0_hasRight 85 = .ok (.if_icmp .ge 7, 3) := by decide +kernel
theorem dX0_hasRight_88 : decode cX0_hasRight 88 = .ok (.iconst 1, 1) := by decide +kernel
theorem dX0_hasRight_89 : decode cX0_hasRight 89 = .ok (.goto 4, 3) := by decide +kernel
theorem dX0_hasRight_159 : decode cX0_hasRight 159 = .ok (.iconst 0, 1) := by decide +kernel
theorem dX0_hasRight_160 : decode cX0_hasRight 160 = .ok (.ireturn, 1) := by decide +kernel
theorem dX0_hasRight_11 : decode cX0_hasRight 11 = .ok (.iconst 1, 1) := by decide +kernel
theorem dX0_hasRight_12 : decode cX0_hasRight 12 = .ok (.ireturn, 1) := by decide +kernel
theorem dX0_paperRefusal_0 : decode cX0_paperRefusal 0 = .ok (.aload_n 0, 1) := by decide +kernel
theorem dX0_paperRefusal_1 : decode cX0_paperRefusal 1 = .ok (.iload_n 1, 1) := by decide +kernel
theorem dX0_paperRefusal_2 : decode cX0_paperRefusal 2 = .ok (.iload_n 3, 1) := by decide +kernel
theorem dX0_paperRefusal_3 : decode cX0_paperRefusal 3 = .ok (.iload 4, 2) := by decide +kernel
theorem dX0_paperRefusal_5 : decode cX0_paperRefusal 5 = .ok (.invokevirtual 197, 3) := by decide +kernel
theorem dX0_paperRefusal_8 : decode cX0_paperRefusal 8 = .ok (.istore 5, 2) := by decide +kernel
theorem dX0_paperRefusal_10 : decode cX0_paperRefusal 10 = .ok (.iload 5, 2) := by decide +kernel
theorem dX0_paperRefusal_12 : decode cX0_paperRefusal 12 = .ok (.ifCond .ne 19, 3) := by decide +kernel
theorem dX0_paperRefusal_31 : decode cX0_paperRefusal 31 = .ok (.iload 5, 2) := by decide +kernel
theorem dX0_paperRefusal_33 : decode cX0_paperRefusal 33 = .ok (.ireturn, 1) := by decide +kernel
theorem dX0_paperRefusal_15 : decode cX0_paperRefusal 15 = .ok (.aload_n 0, 1) := by decide +kernel
theorem dX0_paperRefusal_16 : decode cX0_paperRefusal 16 = .ok (.iload_n 1, 1) := by decide +kernel
theorem dX0_paperRefusal_17 : decode cX0_paperRefusal 17 = .ok (.iload_n 2, 1) := by decide +kernel
theorem dX0_paperRefusal_18 : decode cX0_paperRefusal 18 = .ok (.iload_n 3, 1) := by decide +kernel
theorem dX0_paperRefusal_19 : decode cX0_paperRefusal 19 = .ok (.iload 4, 2) := by decide +kernel
theorem dX0_paperRefusal_21 : decode cX0_paperRefusal 21 = .ok (.invokevirtual 200, 3) := by decide +kernel
theorem dX0_paperRefusal_24 : decode cX0_paperRefusal 24 = .ok (.ifCond .ne 7, 3) := by decide +kernel
theorem dX0_paperRefusal_27 : decode cX0_paperRefusal 27 = .ok (.iconst 5, 1) := by decide +kernel
theorem dX0_paperRefusal_28 : decode cX0_paperRefusal 28 = .ok (.goto 5, 3) := by decide +kernel
theorem dX0_noteAgainst_0 : decode cX0_noteAgainst 0 = .ok (.aload_n 0, 1) := by decide +kernel
theorem dX0_noteAgainst_1 : decode cX0_noteAgainst 1 = .ok (.getfield 168, 3) := by decide +kernel
theorem dX0_noteAgainst_4 : decode cX0_noteAgainst 4 = .ok (.bipush 100, 2) := by decide +kernel
theorem dX0_noteAgainst_6 : decode cX0_noteAgainst 6 = .ok (.if_icmp .ge 50, 3) := by decide +kernel
theorem dX0_noteAgainst_56 : decode cX0_noteAgainst 56 = .ok (.aload_n 0, 1) := by decide +kernel
theorem dX0_noteAgainst_57 : decode cX0_noteAgainst 57 = .ok (.dup, 1) := by decide +kernel
theorem dX0_noteAgainst_58 : decode cX0_noteAgainst 58 = .ok (.getfield 168, 3) := by decide +kernel
theorem dX0_noteAgainst_61 : decode cX0_noteAgainst 61 = .ok (.iconst 1, 1) := by decide +kernel
theorem dX0_noteAgainst_62 : decode cX0_noteAgainst 62 = .ok (.iadd, 1) := by decide +kernel
theorem dX0_noteAgainst_63 : decode cX0_noteAgainst 63 = .ok (.putfield 168, 3) := by decide +kernel
theorem dX0_noteAgainst_66 : decode cX0_noteAgainst 66 = .ok (.return_, 1) := by decide +kernel
theorem dX0_noteAgainst_9 : decode cX0_noteAgainst 9 = .ok (.iconst 4, 1) := by decide +kernel
theorem dX0_noteAgainst_10 : decode cX0_noteAgainst 10 = .ok (.aload_n 0, 1) := by decide +kernel
theorem dX0_noteAgainst_11 : decode cX0_noteAgainst 11 = .ok (.getfield 168, 3) := by decide +kernel
theorem dX0_noteAgainst_14 : decode cX0_noteAgainst 14 = .ok (.imul, 1) := by decide +kernel
theorem dX0_noteAgainst_15 : decode cX0_noteAgainst 15 = .ok (.istore 5, 2) := by decide +kernel
theorem dX0_noteAgainst_17 : decode cX0_noteAgainst 17 = .ok (.aload_n 0, 1) := by decide +kernel
theorem dX0_noteAgainst_18 : decode cX0_noteAgainst 18 = .ok (.getfield 33, 3) := by decide +kernel
theorem dX0_noteAgainst_21 : decode cX0_noteAgainst 21 = .ok (.iload 5, 2) := by decide +kernel
theorem dX0_noteAgainst_23 : decode cX0_noteAgainst 23 = .ok (.iload_n 1, 1) := by decide +kernel
theorem dX0_noteAgainst_24 : decode cX0_noteAgainst 24 = .ok (.iastore, 1) := by decide +kernel
theorem dX0_noteAgainst_25 : decode cX0_noteAgainst 25 = .ok (.aload_n 0, 1) := by decide +kernel
theorem dX0_noteAgainst_26 : decode cX0_noteAgainst 26 = .ok (.getfield 33, 3) := by decide +kernel
theorem dX0_noteAgainst_29 : decode cX0_noteAgainst 29 = .ok (.iload 5, 2) := by decide +kernel
theorem dX0_noteAgainst_31 : decode cX0_noteAgainst 31 = .ok (.iconst 1, 1) := by decide +kernel
theorem dX0_noteAgainst_32 : decode cX0_noteAgainst 32 = .ok (.iadd, 1) := by decide +kernel
theorem dX0_noteAgainst_33 : decode cX0_noteAgainst 33 = .ok (.iload_n 2, 1) := by decide +kernel
theorem dX0_noteAgainst_34 : decode cX0_noteAgainst 34 = .ok (.iastore, 1) := by decide +kernel
theorem dX0_noteAgainst_35 : decode cX0_noteAgainst 35 = .ok (.aload_n 0, 1) := by decide +kernel
theorem dX0_noteAgainst_36 : decode cX0_noteAgainst 36 = .ok (.getfield 33, 3) := by decide +kernel
theorem dX0_noteAgainst_39 : decode cX0_noteAgainst 39 = .ok (.iload 5, 2) := by decide +kernel
theorem dX0_noteAgainst_41 : decode cX0_noteAgainst 41 = .ok (.iconst 2, 1) := by decide +kernel
theorem dX0_noteAgainst_42 : decode cX0_noteAgainst 42 = .ok (.iadd, 1) := by decide +kernel
theorem dX0_noteAgainst_43 : decode cX0_noteAgainst 43 = .ok (.iload_n 3, 1) := by decide +kernel
theorem dX0_noteAgainst_44 : decode cX0_noteAgainst 44 = .ok (.iastore, 1) := by decide +kernel
theorem dX0_noteAgainst_45 : decode cX0_noteAgainst 45 = .ok (.aload_n 0, 1) := by decide +kernel
theorem dX0_noteAgainst_46 : decode cX0_noteAgainst 46 = .ok (.getfield 33, 3) := by decide +kernel
theorem dX0_noteAgainst_49 : decode cX0_noteAgainst 49 = .ok (.iload 5, 2) := by decide +kernel
theorem dX0_noteAgainst_51 : decode cX0_noteAgainst 51 = .ok (.iconst 3, 1) := by decide +kernel
theorem dX0_noteAgainst_52 : decode cX0_noteAgainst 52 = .ok (.iadd, 1) := by decide +kernel
theorem dX0_noteAgainst_53 : decode cX0_noteAgainst 53 = .ok (.iload 4, 2) := by decide +kernel
theorem dX0_noteAgainst_55 : decode cX0_noteAgainst 55 = .ok (.iastore, 1) := by decide +kernel
theorem dX0_takeRow_0 : decode cX0_takeRow 0 = .ok (.aload_n 0, 1) := by decide +kernel
theorem dX0_takeRow_1 : decode cX0_takeRow 1 = .ok (.getfield 24, 3) := by decide +kernel
theorem dX0_takeRow_4 : decode cX0_takeRow 4 = .ok (.iload_n 2, 1) := by decide +kernel
theorem dX0_takeRow_5 : decode cX0_takeRow 5 = .ok (.aaload, 1) := by decide +kernel
theorem dX0_takeRow_6 : decode cX0_takeRow 6 = .ok (.iconst 0, 1) := by decide +kernel
theorem dX0_takeRow_7 : decode cX0_takeRow 7 = .ok (.iaload, 1) := by decide +kernel
theorem dX0_takeRow_8 : decode cX0_takeRow 8 = .ok (.istore 6, 2) := by decide +kernel
theorem dX0_takeRow_10 : decode cX0_takeRow 10 = .ok (.aload_n 0, 1) := by decide +kernel
theorem dX0_takeRow_11 : decode cX0_takeRow 11 = .ok (.getfield 44, 3) := by decide +kernel
theorem dX0_takeRow_14 : decode cX0_takeRow 14 = .ok (.iload 6, 2) := by decide +kernel
theorem dX0_takeRow_16 : decode cX0_takeRow 16 = .ok (.invokevirtual 154, 3) := by decide +kernel
theorem dX0_takeRow_19 : decode cX0_takeRow 19 = .ok (.ifCond .ne 13, 3) := by decide +kernel
theorem dX0_takeRow_32 : decode cX0_takeRow 32 = .ok (.aload_n 0, 1) := by decide +kernel
theorem dX0_takeRow_33 : decode cX0_takeRow 33 = .ok (.iload_n 2, 1) := by decide +kernel
theorem dX0_takeRow_34 : decode cX0_takeRow 34 = .ok (.iload_n 3, 1) := by decide +kernel
theorem dX0_takeRow_35 : decode cX0_takeRow 35 = .ok (.iload 4, 2) := by decide +kernel
theorem dX0_takeRow_37 : decode cX0_takeRow 37 = .ok (.aload_n 0, 1) := by decide +kernel
theorem dX0_takeRow_38 : decode cX0_takeRow 38 = .ok (.getfield 126, 3) := by decide +kernel
theorem dX0_takeRow_41 : decode cX0_takeRow 41 = .ok (.invokevirtual 161, 3) := by decide +kernel
theorem dX0_takeRow_44 : decode cX0_takeRow 44 = .ok (.istore 7, 2) := by decide +kernel
theorem dX0_takeRow_46 : decode cX0_takeRow 46 = .ok (.iload 7, 2) := by decide +kernel
theorem dX0_takeRow_48 : decode cX0_takeRow 48 = .ok (.ifCond .eq 13, 3) := by decide +kernel
theorem dX0_takeRow_61 : decode cX0_takeRow 61 = .ok (.return_, 1) := by decide +kernel
theorem dX0_takeRow_51 : decode cX0_takeRow 51 = .ok (.aload_n 0, 1) := by decide +kernel
theorem dX0_takeRow_52 : decode cX0_takeRow 52 = .ok (.iload_n 1, 1) := by decide +kernel
theorem dX0_takeRow_53 : decode cX0_takeRow 53 = .ok (.iload_n 2, 1) := by decide +kernel
theorem dX0_takeRow_54 : decode cX0_takeRow 54 = .ok (.iload 4, 2) := by decide +kernel
theorem dX0_takeRow_56 : decode cX0_takeRow 56 = .ok (.iload 7, 2) := by decide +kernel
theorem dX0_takeRow_58 : decode cX0_takeRow 58 = .ok (.invokevirtual 165, 3) := by decide +kernel
theorem dX0_takeRow_22 : decode cX0_takeRow 22 = .ok (.aload_n 0, 1) := by decide +kernel
theorem dX0_takeRow_23 : decode cX0_takeRow 23 = .ok (.iload 6, 2) := by decide +kernel
theorem dX0_takeRow_25 : decode cX0_takeRow 25 = .ok (.iload_n 1, 1) := by decide +kernel
theorem dX0_takeRow_26 : decode cX0_takeRow 26 = .ok (.iload_n 3, 1) := by decide +kernel
theorem dX0_takeRow_27 : decode cX0_takeRow 27 = .ok (.iload 5, 2) := by decide +kernel
theorem dX0_takeRow_29 : decode cX0_takeRow 29 = .ok (.invokevirtual 157, 3) := by decide +kernel
theorem zl_X0_3 : Cond.methodLink RX0 3 Lib.objectInit ∈ zk_E.2.2.1 ∧ Cond.instanceMethod Lib.objectInit ∈ zk_E.2.2.1 ∧ Cond.code Lib.objectInit ⟨#[0xb1]⟩ 1 none ∈ zk_E.2.2.1 := ⟨zk_b2 62 (by decide +kernel) rfl, zk_b1 43 (by decide +kernel) rfl, zk_b1 44 (by decide +kernel) rfl⟩
theorem zk_ai : Cond.arrayClass .int ∈ zk_E.2.2.1 := zk_b1 75 (by decide +kernel) rfl
theorem zl_X0_9 : zm_F zk_E RX0 9 0 4 := ⟨RX0, TX0, 19, rfl, zk_i0, by decide, zk_b2 69 (by decide +kernel) rfl⟩
theorem zt_0_4 : zm_T zk_E RX0 0 4 (.array .int) false := ⟨RX0, TX0, 19, tyX0, rfl, tyX0_ok, nmX0, rfl, rfl, rfl⟩
theorem zl_X0_15 : zm_F zk_E RX0 15 0 5 := ⟨RX0, TX0, 19, rfl, zk_i0, by decide, zk_b2 70 (by decide +kernel) rfl⟩
theorem zt_0_5 : zm_T zk_E RX0 0 5 (.array .int) false := ⟨RX0, TX0, 19, tyX0, rfl, tyX0_ok, nmX0, rfl, rfl, rfl⟩
theorem zk_al : Cond.arrayClass .long ∈ zk_E.2.2.1 := zk_b1 193 (by decide +kernel) rfl
theorem zl_X0_18 : zm_F zk_E RX0 18 0 6 := ⟨RX0, TX0, 19, rfl, zk_i0, by decide, zk_b2 71 (by decide +kernel) rfl⟩
theorem zt_0_6 : zm_T zk_E RX0 0 6 (.array .long) false := ⟨RX0, TX0, 19, tyX0, rfl, tyX0_ok, nmX0, rfl, rfl, rfl⟩
theorem zl_X0_22 : Cond.classLink RX0 22 "[[I" ∈ zk_E.2.2.1 := zk_b2 63 (by decide +kernel) rfl
theorem zl_X0_24 : zm_F zk_E RX0 24 0 9 := ⟨RX0, TX0, 19, rfl, zk_i0, by decide, zk_b2 75 (by decide +kernel) rfl⟩
theorem zt_0_9 : zm_T zk_E RX0 0 9 (.array (.array .int)) true := ⟨RX0, TX0, 19, tyX0, rfl, tyX0_ok, nmX0, rfl, rfl, rfl⟩
theorem zl_X0_27 : zm_F zk_E RX0 27 0 11 := ⟨RX0, TX0, 19, rfl, zk_i0, by decide, zk_b2 78 (by decide +kernel) rfl⟩
theorem zt_0_11 : zm_T zk_E RX0 0 11 (.array (.array .int)) true := ⟨RX0, TX0, 19, tyX0, rfl, tyX0_ok, nmX0, rfl, rfl, rfl⟩
theorem zl_X0_30 : zm_F zk_E RX0 30 0 14 := ⟨RX0, TX0, 19, rfl, zk_i0, by decide, zk_b2 81 (by decide +kernel) rfl⟩
theorem zt_0_14 : zm_T zk_E RX0 0 14 (.array .int) true := ⟨RX0, TX0, 19, tyX0, rfl, tyX0_ok, nmX0, rfl, rfl, rfl⟩
theorem zl_X0_33 : zm_F zk_E RX0 33 0 16 := ⟨RX0, TX0, 19, rfl, zk_i0, by decide, zk_b2 84 (by decide +kernel) rfl⟩
theorem zt_0_16 : zm_T zk_E RX0 0 16 (.array .int) true := ⟨RX0, TX0, 19, tyX0, rfl, tyX0_ok, nmX0, rfl, rfl, rfl⟩
theorem zl_X0_36 : zm_F zk_E RX0 36 0 0 := ⟨RX0, TX0, 19, rfl, zk_i0, by decide, zk_b2 64 (by decide +kernel) rfl⟩
theorem zt_0_0 : zm_T zk_E RX0 0 0 (.object "TowerHouse$Plan") true := ⟨RX0, TX0, 19, tyX0, rfl, tyX0_ok, nmX0, rfl, rfl, rfl⟩
theorem zl_X0_40 : zm_F zk_E RX0 40 0 1 := ⟨RX0, TX0, 19, rfl, zk_i0, by decide, zk_b2 65 (by decide +kernel) rfl⟩
theorem zt_0_1 : zm_T zk_E RX0 0 1 (.object "TowerHouse$Finding") true := ⟨RX0, TX0, 19, tyX0, rfl, tyX0_ok, nmX0, rfl, rfl, rfl⟩
theorem zl_X0_44 : zm_F zk_E RX0 44 0 2 := ⟨RX0, TX0, 19, rfl, zk_i0, by decide, zk_b2 66 (by decide +kernel) rfl⟩
theorem zt_0_2 : zm_T zk_E RX0 0 2 (.object "TowerHouse$Storey") true := ⟨RX0, TX0, 19, tyX0, rfl, tyX0_ok, nmX0, rfl, rfl, rfl⟩
theorem zl_X8_20 : zm_F zk_E RX8 20 8 3 := ⟨RX8, TX8, 4, rfl, zk_i8, by decide, zk_b1 65 (by decide +kernel) rfl⟩
theorem zl_X8_13 : zm_F zk_E RX8 13 8 1 := ⟨RX8, TX8, 4, rfl, zk_i8, by decide, zk_b1 58 (by decide +kernel) rfl⟩
theorem zl_X2_54 : zm_F zk_E RX2 54 2 0 := ⟨RX2, TX2, 19, rfl, zk_i2, by decide, zk_b1 83 (by decide +kernel) rfl⟩
theorem zl_X2_103 : zm_FN zk_E RX2 103 8 1 := ⟨RX8, TX8, 4, "TowerHouse", rfl, zk_i8, by decide, zk_n1 59 (by decide +kernel) rfl⟩
theorem zl_X2_99 : zm_L zk_E RX2 99 yX8_isLevel (.code yX8_isLevel cX8_isLevel 2 (some .boolean)) 1 ∧ Cond.instanceMethod yX8_isLevel ∈ zk_E.2.2.1 ∧ Cond.selects yX8_isLevel.cls yX8_isLevel yX8_isLevel ∈ zk_E.2.2.1 := ⟨⟨zk_b5 47 (by decide +kernel) rfl, zk_b1 2 (by decide +kernel) rfl, zk_b5 44 (by decide +kernel) rfl, by decide +kernel, by decide +kernel, by decide +kernel⟩, zk_b5 45 (by decide +kernel) rfl, zk_b5 46 (by decide +kernel) rfl⟩
theorem zl_X2_16 : zm_F zk_E RX2 16 2 5 := ⟨RX2, TX2, 19, rfl, zk_i2, by decide, zk_b1 92 (by decide +kernel) rfl⟩
theorem zl_X2_204 : zm_L zk_E RX2 204 yX2_unitX (.code yX2_unitX cX2_unitX 3 (some .int)) 2 ∧ Cond.instanceMethod yX2_unitX ∈ zk_E.2.2.1 ∧ Cond.selects yX2_unitX.cls yX2_unitX yX2_unitX ∈ zk_E.2.2.1 := ⟨⟨zk_b7 12 (by decide +kernel) rfl, zk_b1 3 (by decide +kernel) rfl, zk_b7 9 (by decide +kernel) rfl, by decide +kernel, by decide +kernel, by decide +kernel⟩, zk_b7 10 (by decide +kernel) rfl, zk_b7 11 (by decide +kernel) rfl⟩
theorem zl_X2_207 : zm_L zk_E RX2 207 yX2_unitY (.code yX2_unitY cX2_unitY 3 (some .int)) 2 ∧ Cond.instanceMethod yX2_unitY ∈ zk_E.2.2.1 ∧ Cond.selects yX2_unitY.cls yX2_unitY yX2_unitY ∈ zk_E.2.2.1 := ⟨⟨zk_b7 16 (by decide +kernel) rfl, zk_b1 3 (by decide +kernel) rfl, zk_b7 13 (by decide +kernel) rfl, by decide +kernel, by decide +kernel, by decide +kernel⟩, zk_b7 14 (by decide +kernel) rfl, zk_b7 15 (by decide +kernel) rfl⟩
theorem zl_X2_20 : zm_F zk_E RX2 20 2 6 := ⟨RX2, TX2, 19, rfl, zk_i2, by decide, zk_b1 93 (by decide +kernel) rfl⟩
theorem zl_X2_136 : zm_L zk_E RX2 136 yX2_spaceAt (.code yX2_spaceAt cX2_spaceAt 3 (some .int)) 2 ∧ Cond.instanceMethod yX2_spaceAt ∈ zk_E.2.2.1 ∧ Cond.selects yX2_spaceAt.cls yX2_spaceAt yX2_spaceAt ∈ zk_E.2.2.1 := ⟨⟨zk_b5 99 (by decide +kernel) rfl, zk_b1 3 (by decide +kernel) rfl, zk_b5 96 (by decide +kernel) rfl, by decide +kernel, by decide +kernel, by decide +kernel⟩, zk_b5 97 (by decide +kernel) rfl, zk_b5 98 (by decide +kernel) rfl⟩
theorem zl_X0_101 : zm_L zk_E RX0 101 yX8_isLevel (.code yX8_isLevel cX8_isLevel 2 (some .boolean)) 1 ∧ Cond.instanceMethod yX8_isLevel ∈ zk_E.2.2.1 ∧ Cond.selects yX8_isLevel.cls yX8_isLevel yX8_isLevel ∈ zk_E.2.2.1 := ⟨⟨zk_b5 47 (by decide +kernel) rfl, zk_b1 2 (by decide +kernel) rfl, zk_b8 18 (by decide +kernel) rfl, by decide +kernel, by decide +kernel, by decide +kernel⟩, zk_b5 45 (by decide +kernel) rfl, zk_b5 46 (by decide +kernel) rfl⟩
theorem zl_X0_105 : zm_L zk_E RX0 105 yX2_unitX (.code yX2_unitX cX2_unitX 3 (some .int)) 2 ∧ Cond.instanceMethod yX2_unitX ∈ zk_E.2.2.1 ∧ Cond.selects yX2_unitX.cls yX2_unitX yX2_unitX ∈ zk_E.2.2.1 := ⟨⟨zk_b7 12 (by decide +kernel) rfl, zk_b1 3 (by decide +kernel) rfl, zk_b8 19 (by decide +kernel) rfl, by decide +kernel, by decide +kernel, by decide +kernel⟩, zk_b7 10 (by decide +kernel) rfl, zk_b7 11 (by decide +kernel) rfl⟩
theorem zl_X0_108 : zm_L zk_E RX0 108 yX2_unitY (.code yX2_unitY cX2_unitY 3 (some .int)) 2 ∧ Cond.instanceMethod yX2_unitY ∈ zk_E.2.2.1 ∧ Cond.selects yX2_unitY.cls yX2_unitY yX2_unitY ∈ zk_E.2.2.1 := ⟨⟨zk_b7 16 (by decide +kernel) rfl, zk_b1 3 (by decide +kernel) rfl, zk_b8 20 (by decide +kernel) rfl, by decide +kernel, by decide +kernel, by decide +kernel⟩, zk_b7 14 (by decide +kernel) rfl, zk_b7 15 (by decide +kernel) rfl⟩
theorem zl_X10_44 : zm_F zk_E RX10 44 10 1 := ⟨RX10, TX10, 11, rfl, zk_i10, by decide, zk_b2 21 (by decide +kernel) rfl⟩
theorem zl_X10_48 : zm_FN zk_E RX10 48 2 3 := ⟨RX2, TX2, 19, "TowerHouse", rfl, zk_i2, by decide, zk_n1 88 (by decide +kernel) rfl⟩
theorem zl_X0_111 : zm_L zk_E RX0 111 yX10_outside (.code yX10_outside cX10_outside 1 (some .int)) 0 ∧ Cond.instanceMethod yX10_outside ∈ zk_E.2.2.1 ∧ Cond.selects yX10_outside.cls yX10_outside yX10_outside ∈ zk_E.2.2.1 := ⟨⟨zk_b8 32 (by decide +kernel) rfl, zk_b1 6 (by decide +kernel) rfl, zk_b8 29 (by decide +kernel) rfl, by decide +kernel, by decide +kernel, by decide +kernel⟩, zk_b8 30 (by decide +kernel) rfl, zk_b8 31 (by decide +kernel) rfl⟩
theorem zl_X0_71 : zm_L zk_E RX0 71 yX8_fromOf (.code yX8_fromOf cX8_fromOf 3 (some .int)) 2 ∧ Cond.instanceMethod yX8_fromOf ∈ zk_E.2.2.1 ∧ Cond.selects yX8_fromOf.cls yX8_fromOf yX8_fromOf ∈ zk_E.2.2.1 := ⟨⟨zk_b7 4 (by decide +kernel) rfl, zk_b1 2 (by decide +kernel) rfl, zk_b8 6 (by decide +kernel) rfl, by decide +kernel, by decide +kernel, by decide +kernel⟩, zk_b7 2 (by decide +kernel) rfl, zk_b7 3 (by decide +kernel) rfl⟩
theorem zl_X0_75 : zm_L zk_E RX0 75 yX8_toOf (.code yX8_toOf cX8_toOf 3 (some .int)) 2 ∧ Cond.instanceMethod yX8_toOf ∈ zk_E.2.2.1 ∧ Cond.selects yX8_toOf.cls yX8_toOf yX8_toOf ∈ zk_E.2.2.1 := ⟨⟨zk_b7 0 (by decide +kernel) rfl, zk_b1 2 (by decide +kernel) rfl, zk_b8 7 (by decide +kernel) rfl, by decide +kernel, by decide +kernel, by decide +kernel⟩, zk_b6 238 (by decide +kernel) rfl, zk_b6 239 (by decide +kernel) rfl⟩
theorem zl_X0_84 : zm_L zk_E RX0 84 yX2_roomLeft (.code yX2_roomLeft cX2_roomLeft 5 (some .int)) 2 ∧ Cond.instanceMethod yX2_roomLeft ∈ zk_E.2.2.1 ∧ Cond.selects yX2_roomLeft.cls yX2_roomLeft yX2_roomLeft ∈ zk_E.2.2.1 := ⟨⟨zk_b7 8 (by decide +kernel) rfl, zk_b1 3 (by decide +kernel) rfl, zk_b8 12 (by decide +kernel) rfl, by decide +kernel, by decide +kernel, by decide +kernel⟩, zk_b7 6 (by decide +kernel) rfl, zk_b7 7 (by decide +kernel) rfl⟩
theorem zl_X0_87 : zm_L zk_E RX0 87 yX2_roomRight (.code yX2_roomRight cX2_roomRight 5 (some .int)) 2 ∧ Cond.instanceMethod yX2_roomRight ∈ zk_E.2.2.1 ∧ Cond.selects yX2_roomRight.cls yX2_roomRight yX2_roomRight ∈ zk_E.2.2.1 := ⟨⟨zk_b7 20 (by decide +kernel) rfl, zk_b1 3 (by decide +kernel) rfl, zk_b8 13 (by decide +kernel) rfl, by decide +kernel, by decide +kernel, by decide +kernel⟩, zk_b7 18 (by decide +kernel) rfl, zk_b7 19 (by decide +kernel) rfl⟩
theorem zl_X0_56 : zm_F zk_E RX0 56 0 3 := ⟨RX0, TX0, 19, rfl, zk_i0, by decide, zk_b2 67 (by decide +kernel) rfl⟩
theorem zl_X0_90 : zm_L zk_E RX0 90 yX0_notePortal (.code yX0_notePortal cX0_notePortal 8 none) 3 ∧ Cond.instanceMethod yX0_notePortal ∈ zk_E.2.2.1 ∧ Cond.selects yX0_notePortal.cls yX0_notePortal yX0_notePortal ∈ zk_E.2.2.1 := ⟨⟨zk_b8 17 (by decide +kernel) rfl, zk_b1 7 (by decide +kernel) rfl, zk_b8 14 (by decide +kernel) rfl, by decide +kernel, by decide +kernel, by decide +kernel⟩, zk_b8 16 (by decide +kernel) rfl, zk_s4 (q := (yX0_notePortal, 19)) 9 (by decide +kernel)⟩
theorem zl_X0_94 : zm_L zk_E RX0 94 yX0_setFact (.code yX0_setFact cX0_setFact 4 none) 3 ∧ Cond.instanceMethod yX0_setFact ∈ zk_E.2.2.1 ∧ Cond.selects yX0_setFact.cls yX0_setFact yX0_setFact ∈ zk_E.2.2.1 := ⟨⟨zk_b8 24 (by decide +kernel) rfl, zk_b1 7 (by decide +kernel) rfl, zk_b8 21 (by decide +kernel) rfl, by decide +kernel, by decide +kernel, by decide +kernel⟩, zk_b8 23 (by decide +kernel) rfl, zk_s4 (q := (yX0_setFact, 19)) 10 (by decide +kernel)⟩
theorem zl_X0_97 : zm_L zk_E RX0 97 yX0_roomFor (.code yX0_roomFor cX0_roomFor 2 (some .int)) 1 ∧ Cond.instanceMethod yX0_roomFor ∈ zk_E.2.2.1 ∧ Cond.selects yX0_roomFor.cls yX0_roomFor yX0_roomFor ∈ zk_E.2.2.1 := ⟨⟨zk_b8 28 (by decide +kernel) rfl, zk_b1 7 (by decide +kernel) rfl, zk_b8 25 (by decide +kernel) rfl, by decide +kernel, by decide +kernel, by decide +kernel⟩, zk_b8 27 (by decide +kernel) rfl, zk_s4 (q := (yX0_roomFor, 19)) 11 (by decide +kernel)⟩
theorem zl_X0_78 : zm_L zk_E RX0 78 yX2_isPointOn (.code yX2_isPointOn cX2_isPointOn 3 (some .boolean)) 2 ∧ Cond.instanceMethod yX2_isPointOn ∈ zk_E.2.2.1 ∧ Cond.selects yX2_isPointOn.cls yX2_isPointOn yX2_isPointOn ∈ zk_E.2.2.1 := ⟨⟨zk_b8 11 (by decide +kernel) rfl, zk_b1 3 (by decide +kernel) rfl, zk_b8 8 (by decide +kernel) rfl, by decide +kernel, by decide +kernel, by decide +kernel⟩, zk_b8 9 (by decide +kernel) rfl, zk_b8 10 (by decide +kernel) rfl⟩
theorem zl_X0_59 : zm_FN zk_E RX0 59 8 0 := ⟨RX8, TX8, 4, "TowerHouse", rfl, zk_i8, by decide, zk_n1 55 (by decide +kernel) rfl⟩
theorem zl_X0_64 : zm_FN zk_E RX0 64 8 2 := ⟨RX8, TX8, 4, "TowerHouse", rfl, zk_i8, by decide, zk_n1 61 (by decide +kernel) rfl⟩
theorem zl_X0_67 : zm_L zk_E RX0 67 yX0_scanDoor (.code yX0_scanDoor cX0_scanDoor 11 (some .int)) 4 ∧ Cond.instanceMethod yX0_scanDoor ∈ zk_E.2.2.1 ∧ Cond.selects yX0_scanDoor.cls yX0_scanDoor yX0_scanDoor ∈ zk_E.2.2.1 := ⟨⟨zk_b8 5 (by decide +kernel) rfl, zk_b1 7 (by decide +kernel) rfl, zk_b8 2 (by decide +kernel) rfl, by decide +kernel, by decide +kernel, by decide +kernel⟩, zk_b8 4 (by decide +kernel) rfl, zk_s4 (q := (yX0_scanDoor, 19)) 8 (by decide +kernel)⟩
theorem zl_X0_48 : zm_L zk_E RX0 48 yX0_scanLines (.code yX0_scanLines cX0_scanLines 5 (some .int)) 1 ∧ Cond.instanceMethod yX0_scanLines ∈ zk_E.2.2.1 ∧ Cond.selects yX0_scanLines.cls yX0_scanLines yX0_scanLines ∈ zk_E.2.2.1 := ⟨⟨zk_b8 1 (by decide +kernel) rfl, zk_b1 7 (by decide +kernel) rfl, zk_b7 238 (by decide +kernel) rfl, by decide +kernel, by decide +kernel, by decide +kernel⟩, zk_b8 0 (by decide +kernel) rfl, zk_s4 (q := (yX0_scanLines, 19)) 7 (by decide +kernel)⟩
theorem zl_X0_52 : zm_F zk_E RX0 52 0 7 := ⟨RX0, TX0, 19, rfl, zk_i0, by decide, zk_b2 72 (by decide +kernel) rfl⟩
theorem zt_0_7 : zm_T zk_E RX0 0 7 .int false := ⟨RX0, TX0, 19, tyX0, rfl, tyX0_ok, nmX0, rfl, rfl, rfl⟩
theorem zt_0_3 : zm_T zk_E RX0 0 3 .int false := ⟨RX0, TX0, 19, tyX0, rfl, tyX0_ok, nmX0, rfl, rfl, rfl⟩
theorem zl_X0_117 : zm_L zk_E RX0 117 yX0_factOf (.code yX0_factOf cX0_factOf 3 (some .int)) 2 ∧ Cond.instanceMethod yX0_factOf ∈ zk_E.2.2.1 ∧ Cond.selects yX0_factOf.cls yX0_factOf yX0_factOf ∈ zk_E.2.2.1 := ⟨⟨zk_b8 47 (by decide +kernel) rfl, zk_b1 7 (by decide +kernel) rfl, zk_b8 131 (by decide +kernel) rfl, by decide +kernel, by decide +kernel, by decide +kernel⟩, zk_b8 45 (by decide +kernel) rfl, zk_b8 46 (by decide +kernel) rfl⟩
theorem zl_X0_120 : zm_L zk_E RX0 120 yX0_isOff (.code yX0_isOff cX0_isOff 2 (some .boolean)) 1 ∧ Cond.instanceMethod yX0_isOff ∈ zk_E.2.2.1 ∧ Cond.selects yX0_isOff.cls yX0_isOff yX0_isOff ∈ zk_E.2.2.1 := ⟨⟨zk_b8 177 (by decide +kernel) rfl, zk_b1 7 (by decide +kernel) rfl, zk_b8 174 (by decide +kernel) rfl, by decide +kernel, by decide +kernel, by decide +kernel⟩, zk_b8 176 (by decide +kernel) rfl, zk_s5 (q := (yX0_isOff, 19)) 3 (by decide +kernel)⟩
theorem zl_X0_123 : zm_F zk_E RX0 123 0 8 := ⟨RX0, TX0, 19, rfl, zk_i0, by decide, zk_b2 73 (by decide +kernel) rfl⟩
theorem zl_X0_126 : zm_F zk_E RX0 126 0 12 := ⟨RX0, TX0, 19, rfl, zk_i0, by decide, zk_b2 79 (by decide +kernel) rfl⟩
theorem zt_0_12 : zm_T zk_E RX0 0 12 .int false := ⟨RX0, TX0, 19, tyX0, rfl, tyX0_ok, nmX0, rfl, rfl, rfl⟩
theorem zt_0_8 : zm_T zk_E RX0 0 8 .int false := ⟨RX0, TX0, 19, tyX0, rfl, tyX0_ok, nmX0, rfl, rfl, rfl⟩
theorem zl_X0_129 : zm_F zk_E RX0 129 0 10 := ⟨RX0, TX0, 19, rfl, zk_i0, by decide, zk_b2 76 (by decide +kernel) rfl⟩
theorem zt_0_10 : zm_T zk_E RX0 0 10 .int false := ⟨RX0, TX0, 19, tyX0, rfl, tyX0_ok, nmX0, rfl, rfl, rfl⟩
theorem zl_X0_138 : zm_F zk_E RX0 138 0 13 := ⟨RX0, TX0, 19, rfl, zk_i0, by decide, zk_b2 80 (by decide +kernel) rfl⟩
theorem zl_X0_135 : zm_L zk_E RX0 135 yX0_latestNote (.code yX0_latestNote cX0_latestNote 4 (some .int)) 2 ∧ Cond.instanceMethod yX0_latestNote ∈ zk_E.2.2.1 ∧ Cond.selects yX0_latestNote.cls yX0_latestNote yX0_latestNote ∈ zk_E.2.2.1 := ⟨⟨zk_b8 104 (by decide +kernel) rfl, zk_b1 7 (by decide +kernel) rfl, zk_b8 101 (by decide +kernel) rfl, by decide +kernel, by decide +kernel, by decide +kernel⟩, zk_b8 103 (by decide +kernel) rfl, zk_s4 (q := (yX0_latestNote, 19)) 15 (by decide +kernel)⟩
theorem zt_0_13 : zm_T zk_E RX0 0 13 .int false := ⟨RX0, TX0, 19, tyX0, rfl, tyX0_ok, nmX0, rfl, rfl, rfl⟩
theorem zl_X0_132 : zm_L zk_E RX0 132 yX0_note (.code yX0_note cX0_note 4 (some .int)) 2 ∧ Cond.instanceMethod yX0_note ∈ zk_E.2.2.1 ∧ Cond.selects yX0_note.cls yX0_note yX0_note ∈ zk_E.2.2.1 := ⟨⟨zk_b8 100 (by decide +kernel) rfl, zk_b1 7 (by decide +kernel) rfl, zk_b8 97 (by decide +kernel) rfl, by decide +kernel, by decide +kernel, by decide +kernel⟩, zk_b8 99 (by decide +kernel) rfl, zk_s4 (q := (yX0_note, 19)) 14 (by decide +kernel)⟩
theorem zl_X0_148 : Cond.constantLong RX0 148 (-1 : Int64) ∈ zk_E.2.2.1 := zk_b8 151 (by decide +kernel) rfl
theorem zl_X0_141 : zm_L zk_E RX0 141 yX0_isAirlock (.code yX0_isAirlock cX0_isAirlock 3 (some .boolean)) 2 ∧ Cond.instanceMethod yX0_isAirlock ∈ zk_E.2.2.1 ∧ Cond.selects yX0_isAirlock.cls yX0_isAirlock yX0_isAirlock ∈ zk_E.2.2.1 := ⟨⟨zk_b8 146 (by decide +kernel) rfl, zk_b1 7 (by decide +kernel) rfl, zk_b8 143 (by decide +kernel) rfl, by decide +kernel, by decide +kernel, by decide +kernel⟩, zk_b8 145 (by decide +kernel) rfl, zk_s5 (q := (yX0_isAirlock, 19)) 1 (by decide +kernel)⟩
theorem zl_X0_144 : zm_L zk_E RX0 144 yX0_setLockBit (.code yX0_setLockBit cX0_setLockBit 7 none) 3 ∧ Cond.instanceMethod yX0_setLockBit ∈ zk_E.2.2.1 ∧ Cond.selects yX0_setLockBit.cls yX0_setLockBit yX0_setLockBit ∈ zk_E.2.2.1 := ⟨⟨zk_b8 150 (by decide +kernel) rfl, zk_b1 7 (by decide +kernel) rfl, zk_b8 147 (by decide +kernel) rfl, by decide +kernel, by decide +kernel, by decide +kernel⟩, zk_b8 149 (by decide +kernel) rfl, zk_s5 (q := (yX0_setLockBit, 19)) 2 (by decide +kernel)⟩
theorem zl_X10_29 : zm_F zk_E RX10 29 10 8 := ⟨RX10, TX10, 11, rfl, zk_i10, by decide, zk_b2 31 (by decide +kernel) rfl⟩
theorem zl_X10_102 : zm_L zk_E RX10 102 yX10_outside (.code yX10_outside cX10_outside 1 (some .int)) 0 ∧ Cond.instanceMethod yX10_outside ∈ zk_E.2.2.1 ∧ Cond.selects yX10_outside.cls yX10_outside yX10_outside ∈ zk_E.2.2.1 := ⟨⟨zk_b8 32 (by decide +kernel) rfl, zk_b1 6 (by decide +kernel) rfl, zk_b8 59 (by decide +kernel) rfl, by decide +kernel, by decide +kernel, by decide +kernel⟩, zk_b8 30 (by decide +kernel) rfl, zk_b8 31 (by decide +kernel) rfl⟩
theorem zl_X0_176 : zm_L zk_E RX0 176 yX10_putInto (.code yX10_putInto cX10_putInto 8 none) 5 ∧ Cond.instanceMethod yX10_putInto ∈ zk_E.2.2.1 ∧ Cond.selects yX10_putInto.cls yX10_putInto yX10_putInto ∈ zk_E.2.2.1 := ⟨⟨zk_b8 197 (by decide +kernel) rfl, zk_b1 6 (by decide +kernel) rfl, zk_b8 194 (by decide +kernel) rfl, by decide +kernel, by decide +kernel, by decide +kernel⟩, zk_b8 195 (by decide +kernel) rfl, zk_b8 196 (by decide +kernel) rfl⟩
theorem zl_X0_210 : zm_L zk_E RX0 210 yX0_isNoted (.code yX0_isNoted cX0_isNoted 5 (some .boolean)) 3 ∧ Cond.instanceMethod yX0_isNoted ∈ zk_E.2.2.1 ∧ Cond.selects yX0_isNoted.cls yX0_isNoted yX0_isNoted ∈ zk_E.2.2.1 := ⟨⟨zk_b8 209 (by decide +kernel) rfl, zk_b1 7 (by decide +kernel) rfl, zk_b8 206 (by decide +kernel) rfl, by decide +kernel, by decide +kernel, by decide +kernel⟩, zk_b8 208 (by decide +kernel) rfl, zk_s5 (q := (yX0_isNoted, 19)) 8 (by decide +kernel)⟩
theorem zl_X10_52 : zm_FN zk_E RX10 52 2 8 := ⟨RX2, TX2, 19, "TowerHouse", rfl, zk_i2, by decide, zk_n1 97 (by decide +kernel) rfl⟩
theorem zl_X0_213 : zm_L zk_E RX0 213 yX10_groupOf (.code yX10_groupOf cX10_groupOf 2 (some .int)) 1 ∧ Cond.instanceMethod yX10_groupOf ∈ zk_E.2.2.1 ∧ Cond.selects yX10_groupOf.cls yX10_groupOf yX10_groupOf ∈ zk_E.2.2.1 := ⟨⟨zk_b8 217 (by decide +kernel) rfl, zk_b1 6 (by decide +kernel) rfl, zk_b8 214 (by decide +kernel) rfl, by decide +kernel, by decide +kernel, by decide +kernel⟩, zk_b8 215 (by decide +kernel) rfl, zk_b8 216 (by decide +kernel) rfl⟩
theorem zl_X0_216 : zm_L zk_E RX0 216 yX10_zoneOf (.code yX10_zoneOf cX10_zoneOf 2 (some .int)) 1 ∧ Cond.instanceMethod yX10_zoneOf ∈ zk_E.2.2.1 ∧ Cond.selects yX10_zoneOf.cls yX10_zoneOf yX10_zoneOf ∈ zk_E.2.2.1 := ⟨⟨zk_b8 221 (by decide +kernel) rfl, zk_b1 6 (by decide +kernel) rfl, zk_b8 218 (by decide +kernel) rfl, by decide +kernel, by decide +kernel, by decide +kernel⟩, zk_b8 219 (by decide +kernel) rfl, zk_b8 220 (by decide +kernel) rfl⟩
theorem zl_X0_219 : zm_L zk_E RX0 219 yX0_isInSpan (.code yX0_isInSpan cX0_isInSpan 3 (some .boolean)) 3 ∧ Cond.static yX0_isInSpan ∈ zk_E.2.2.1 := ⟨⟨zk_b8 224 (by decide +kernel) rfl, zk_b1 7 (by decide +kernel) rfl, zk_b8 222 (by decide +kernel) rfl, by decide +kernel, by decide +kernel, by decide +kernel⟩, zk_b8 223 (by decide +kernel) rfl⟩
theorem zl_X0_197 : zm_L zk_E RX0 197 yX0_cardRefusal (.code yX0_cardRefusal cX0_cardRefusal 4 (some .int)) 3 ∧ Cond.instanceMethod yX0_cardRefusal ∈ zk_E.2.2.1 ∧ Cond.selects yX0_cardRefusal.cls yX0_cardRefusal yX0_cardRefusal ∈ zk_E.2.2.1 := ⟨⟨zk_b8 205 (by decide +kernel) rfl, zk_b1 7 (by decide +kernel) rfl, zk_b8 202 (by decide +kernel) rfl, by decide +kernel, by decide +kernel, by decide +kernel⟩, zk_b8 204 (by decide +kernel) rfl, zk_s5 (q := (yX0_cardRefusal, 19)) 7 (by decide +kernel)⟩
theorem zl_X0_200 : zm_L zk_E RX0 200 yX0_hasRight (.code yX0_hasRight cX0_hasRight 11 (some .boolean)) 4 ∧ Cond.instanceMethod yX0_hasRight ∈ zk_E.2.2.1 ∧ Cond.selects yX0_hasRight.cls yX0_hasRight yX0_hasRight ∈ zk_E.2.2.1 := ⟨⟨zk_b8 213 (by decide +kernel) rfl, zk_b1 7 (by decide +kernel) rfl, zk_b8 210 (by decide +kernel) rfl, by decide +kernel, by decide +kernel, by decide +kernel⟩, zk_b8 212 (by decide +kernel) rfl, zk_s5 (q := (yX0_hasRight, 19)) 9 (by decide +kernel)⟩
theorem zl_X0_168 : zm_F zk_E RX0 168 0 15 := ⟨RX0, TX0, 19, rfl, zk_i0, by decide, zk_b2 82 (by decide +kernel) rfl⟩
theorem zt_0_15 : zm_T zk_E RX0 0 15 .int false := ⟨RX0, TX0, 19, tyX0, rfl, tyX0_ok, nmX0, rfl, rfl, rfl⟩
theorem zl_X0_154 : zm_L zk_E RX0 154 yX10_isCaught (.code yX10_isCaught cX10_isCaught 2 (some .boolean)) 1 ∧ Cond.instanceMethod yX10_isCaught ∈ zk_E.2.2.1 ∧ Cond.selects yX10_isCaught.cls yX10_isCaught yX10_isCaught ∈ zk_E.2.2.1 := ⟨⟨zk_b8 189 (by decide +kernel) rfl, zk_b1 6 (by decide +kernel) rfl, zk_b8 186 (by decide +kernel) rfl, by decide +kernel, by decide +kernel, by decide +kernel⟩, zk_b8 187 (by decide +kernel) rfl, zk_b8 188 (by decide +kernel) rfl⟩
theorem zl_X0_161 : zm_L zk_E RX0 161 yX0_paperRefusal (.code yX0_paperRefusal cX0_paperRefusal 6 (some .int)) 4 ∧ Cond.instanceMethod yX0_paperRefusal ∈ zk_E.2.2.1 ∧ Cond.selects yX0_paperRefusal.cls yX0_paperRefusal yX0_paperRefusal ∈ zk_E.2.2.1 := ⟨⟨zk_b8 201 (by decide +kernel) rfl, zk_b1 7 (by decide +kernel) rfl, zk_b8 198 (by decide +kernel) rfl, by decide +kernel, by decide +kernel, by decide +kernel⟩, zk_b8 200 (by decide +kernel) rfl, zk_s5 (q := (yX0_paperRefusal, 19)) 6 (by decide +kernel)⟩
theorem zl_X0_165 : zm_L zk_E RX0 165 yX0_noteAgainst (.code yX0_noteAgainst cX0_noteAgainst 6 none) 4 ∧ Cond.instanceMethod yX0_noteAgainst ∈ zk_E.2.2.1 ∧ Cond.selects yX0_noteAgainst.cls yX0_noteAgainst yX0_noteAgainst ∈ zk_E.2.2.1 := ⟨⟨zk_b8 228 (by decide +kernel) rfl, zk_b1 7 (by decide +kernel) rfl, zk_b8 225 (by decide +kernel) rfl, by decide +kernel, by decide +kernel, by decide +kernel⟩, zk_b8 227 (by decide +kernel) rfl, zk_s5 (q := (yX0_noteAgainst, 19)) 10 (by decide +kernel)⟩
theorem zl_X0_157 : zm_L zk_E RX0 157 yX0_comeIn (.code yX0_comeIn cX0_comeIn 6 none) 4 ∧ Cond.instanceMethod yX0_comeIn ∈ zk_E.2.2.1 ∧ Cond.selects yX0_comeIn.cls yX0_comeIn yX0_comeIn ∈ zk_E.2.2.1 := ⟨⟨zk_b8 193 (by decide +kernel) rfl, zk_b1 7 (by decide +kernel) rfl, zk_b8 190 (by decide +kernel) rfl, by decide +kernel, by decide +kernel, by decide +kernel⟩, zk_b8 192 (by decide +kernel) rfl, zk_s5 (q := (yX0_comeIn, 19)) 5 (by decide +kernel)⟩
set_option maxHeartbeats 4000000 in
set_option maxRecDepth 100000 in
theorem zt_X0_init {l : Launch} {V : zm_V} {N : Nat} {S : zm_S} {out : (Unit × zm_S)} {d : Nat} {a0 : Nat} {a1 : Nat} {a2 : Nat} {a3 : Nat} (hd : 2 ≤ d) (h : zf_X0_init N a0 a1 a2 a3 S = some out) : zm_Met l zk_E V yX0_init (.code yX0_init cX0_init 4 none) d [.ref a0, .ref a1, .ref a2, .ref a3] S 83 2288 (zo_v out) zo_x := by
  refine zm_of (by decide +kernel) (Nat.le_of_ble_eq_true rfl) ?_
  intro p e R s m args below meth c hRR hX hr hxt
  have hR : R.frames = d ∧ R.locals = 64 * d := by rw [hRR]; exact ⟨rfl, rfl⟩
  have hX : zm_X p R s m args meth c RX0 "<init>" cX0_init 4 zk_E V 83 2288 := hX
  unfold zf_X0_init at h
  refine zw_sub (lv' := [(0, .ref a0), (1, .ref a1), (2, .ref a2), (3, .ref a3)]) (List.forall_mem_cons.mpr ⟨rfl, (List.forall_mem_cons.mpr ⟨rfl, (List.forall_mem_cons.mpr ⟨rfl, (List.forall_mem_cons.mpr ⟨rfl, zs_nil⟩)⟩)⟩)⟩) ?_
  refine zw_aload_n hX dX0_init_0 rfl ?_
  refine zw_objInit hX zl_X0_3.1 zl_X0_3.2.1 zl_X0_3.2.2 dX0_init_1 (by omega) (by show 0 + 12 ≤ R.locals; omega) ?_
  refine zw_aload_n hX dX0_init_4 rfl ?_
  refine zw_iconst (v := (0 : Int32)) hX dX0_init_5 (by decide) ?_
  obtain ⟨S1, g, h⟩ := zb_some h
  refine zw_ni (b := 0) hX zk_ai dX0_init_6 (by omega) (by omega) (by decide) g ?_
  obtain ⟨S2, g, h⟩ := zb_some h
  refine zw_putv hX zl_X0_9 zt_0_4 dX0_init_8 rfl rfl g ?_
  refine zw_aload_n hX dX0_init_11 rfl ?_
  refine zw_iconst (v := (0 : Int32)) hX dX0_init_12 (by decide) ?_
  obtain ⟨S3, g, h⟩ := zb_some h
  refine zw_ni (b := 0) hX zk_ai dX0_init_13 (by omega) (by omega) (by decide) g ?_
  obtain ⟨S4, g, h⟩ := zb_some h
  refine zw_putv hX zl_X0_15 zt_0_5 dX0_init_15 rfl rfl g ?_
  refine zw_aload_n hX dX0_init_18 rfl ?_
  refine zw_iconst (v := (0 : Int32)) hX dX0_init_19 (by decide) ?_
  obtain ⟨S5, g, h⟩ := zb_some h
  refine zw_nl (b := 0) hX zk_al dX0_init_20 (by omega) (by omega) (by decide) g ?_
  obtain ⟨S6, g, h⟩ := zb_some h
  refine zw_putv hX zl_X0_18 zt_0_6 dX0_init_22 rfl rfl g ?_
  refine zw_aload_n hX dX0_init_25 rfl ?_
  refine zw_bipush (v := (60 : Int32)) hX dX0_init_26 (by decide) ?_
  refine zw_iconst (v := (3 : Int32)) hX dX0_init_28 (by decide) ?_
  obtain ⟨S7, g, h⟩ := zb_some h
  refine zw_mnao (N := 60) (K := 3) (t1 := 4) (t2 := 0) (ty := .int) hX rfl rfl zl_X0_22 (by decide +kernel) (Or.inl rfl) zk_ai dX0_init_29 (fun _ _ => rfl) (by decide) (by decide) rfl rfl (Nat.le_of_ble_eq_true rfl) (Nat.le_of_ble_eq_true rfl) (Nat.le_of_ble_eq_true rfl) rfl rfl (fun _ h => by cases h) (by omega) (by omega) g ?_
  obtain ⟨S8, g, h⟩ := zb_some h
  refine zw_putvF hX zl_X0_24 zt_0_9 dX0_init_33 rfl rfl g ?_
  refine zw_aload_n hX dX0_init_36 rfl ?_
  refine zw_bipush (v := (16 : Int32)) hX dX0_init_37 (by decide) ?_
  refine zw_bipush (v := (6 : Int32)) hX dX0_init_39 (by decide) ?_
  obtain ⟨S9, g, h⟩ := zb_some h
  refine zw_mnao (N := 16) (K := 6) (t1 := 4) (t2 := 0) (ty := .int) hX rfl rfl zl_X0_22 (by decide +kernel) (Or.inl rfl) zk_ai dX0_init_41 (fun _ _ => rfl) (by decide) (by decide) rfl rfl (Nat.le_of_ble_eq_true rfl) (Nat.le_of_ble_eq_true rfl) (Nat.le_of_ble_eq_true rfl) rfl rfl (fun _ h => by cases h) (by omega) (by omega) g ?_
  obtain ⟨S10, g, h⟩ := zb_some h
  refine zw_putvF hX zl_X0_27 zt_0_11 dX0_init_45 rfl rfl g ?_
  refine zw_aload_n hX dX0_init_48 rfl ?_
  refine zw_sipush (v := (1536 : Int32)) hX dX0_init_49 (by decide) ?_
  obtain ⟨S11, g, h⟩ := zb_some h
  refine zw_ni (b := 1536) hX zk_ai dX0_init_52 (by omega) (by omega) (by decide) g ?_
  obtain ⟨S12, g, h⟩ := zb_some h
  refine zw_putvF hX zl_X0_30 zt_0_14 dX0_init_54 rfl rfl g ?_
  refine zw_aload_n hX dX0_init_57 rfl ?_
  refine zw_sipush (v := (400 : Int32)) hX dX0_init_58 (by decide) ?_
  obtain ⟨S13, g, h⟩ := zb_some h
  refine zw_ni (b := 400) hX zk_ai dX0_init_61 (by omega) (by omega) (by decide) g ?_
  obtain ⟨S14, g, h⟩ := zb_some h
  refine zw_putvF hX zl_X0_33 zt_0_16 dX0_init_63 rfl rfl g ?_
  refine zw_aload_n hX dX0_init_66 rfl ?_
  refine zw_aload_n hX dX0_init_67 rfl ?_
  obtain ⟨S15, g, h⟩ := zb_some h
  refine zw_putvF hX zl_X0_36 zt_0_0 dX0_init_68 rfl rfl g ?_
  refine zw_aload_n hX dX0_init_71 rfl ?_
  refine zw_aload_n hX dX0_init_72 rfl ?_
  obtain ⟨S16, g, h⟩ := zb_some h
  refine zw_putvF hX zl_X0_40 zt_0_1 dX0_init_73 rfl rfl g ?_
  refine zw_aload_n hX dX0_init_76 rfl ?_
  refine zw_aload_n hX dX0_init_77 rfl ?_
  obtain ⟨S17, g, h⟩ := zb_some h
  refine zw_putvF hX zl_X0_44 zt_0_2 dX0_init_78 rfl rfl g ?_
  obtain rfl := Option.some.inj h
  exact zw_vret hX hr dX0_init_81 ⟨rfl, rfl⟩
set_option maxHeartbeats 4000000 in
set_option maxRecDepth 100000 in
theorem zt_X8_fromOf {l : Launch} {V : zm_V} {N : Nat} {S : zm_S} {out : (Int32 × zm_S)} {d : Nat} {a0 : Nat} {i1 : Int32} {i2 : Int32} (hd : 1 ≤ d) (h : zf_X8_fromOf N a0 i1 i2 S = some out) : zm_Met l zk_E V yX8_fromOf (.code yX8_fromOf cX8_fromOf 3 (some .int)) d [.ref a0, .int i1, .int i2] S 0 0 (zo_i out) zo_x := by
  refine zm_of (by decide +kernel) (Nat.le_of_ble_eq_true rfl) ?_
  intro p e R s m args below meth c hRR hX hr hxt
  have hR : R.frames = d ∧ R.locals = 64 * d := by rw [hRR]; exact ⟨rfl, rfl⟩
  have hX : zm_X p R s m args meth c RX8 "fromOf" cX8_fromOf 3 zk_E V 0 0 := hX
  unfold zf_X8_fromOf at h
  refine zw_sub (lv' := [(0, .ref a0), (1, .int i1), (2, .int i2)]) (List.forall_mem_cons.mpr ⟨rfl, (List.forall_mem_cons.mpr ⟨rfl, (List.forall_mem_cons.mpr ⟨rfl, zs_nil⟩)⟩)⟩) ?_
  refine zw_aload_n hX dX8_fromOf_0 rfl ?_
  obtain ⟨b1, g, h⟩ := zb_some h
  refine zw_getr hX zl_X8_20 dX8_fromOf_1 g ?_
  refine zw_iload_n hX dX8_fromOf_4 rfl ?_
  obtain ⟨b2, g, h⟩ := zb_some h
  refine zw_xr hX dX8_fromOf_5 g ?_
  refine zw_iconst (v := (3 : Int32)) hX dX8_fromOf_6 (by decide) ?_
  refine zw_iload_n hX dX8_fromOf_7 rfl ?_
  refine zw_imul hX dX8_fromOf_8 ?_
  obtain ⟨v3, g, h⟩ := zb_some h
  refine zw_xi hX dX8_fromOf_9 g ?_
  obtain rfl := Option.some.inj h
  exact zw_iret hX hr dX8_fromOf_10 rfl ⟨rfl, rfl⟩
set_option maxHeartbeats 4000000 in
set_option maxRecDepth 100000 in
theorem zt_X8_toOf {l : Launch} {V : zm_V} {N : Nat} {S : zm_S} {out : (Int32 × zm_S)} {d : Nat} {a0 : Nat} {i1 : Int32} {i2 : Int32} (hd : 1 ≤ d) (h : zf_X8_toOf N a0 i1 i2 S = some out) : zm_Met l zk_E V yX8_toOf (.code yX8_toOf cX8_toOf 3 (some .int)) d [.ref a0, .int i1, .int i2] S 0 0 (zo_i out) zo_x := by
  refine zm_of (by decide +kernel) (Nat.le_of_ble_eq_true rfl) ?_
  intro p e R s m args below meth c hRR hX hr hxt
  have hR : R.frames = d ∧ R.locals = 64 * d := by rw [hRR]; exact ⟨rfl, rfl⟩
  have hX : zm_X p R s m args meth c RX8 "toOf" cX8_toOf 3 zk_E V 0 0 := hX
  unfold zf_X8_toOf at h
  refine zw_sub (lv' := [(0, .ref a0), (1, .int i1), (2, .int i2)]) (List.forall_mem_cons.mpr ⟨rfl, (List.forall_mem_cons.mpr ⟨rfl, (List.forall_mem_cons.mpr ⟨rfl, zs_nil⟩)⟩)⟩) ?_
  refine zw_aload_n hX dX8_toOf_0 rfl ?_
  obtain ⟨b1, g, h⟩ := zb_some h
  refine zw_getr hX zl_X8_20 dX8_toOf_1 g ?_
  refine zw_iload_n hX dX8_toOf_4 rfl ?_
  obtain ⟨b2, g, h⟩ := zb_some h
  refine zw_xr hX dX8_toOf_5 g ?_
  refine zw_iconst (v := (3 : Int32)) hX dX8_toOf_6 (by decide) ?_
  refine zw_iload_n hX dX8_toOf_7 rfl ?_
  refine zw_imul hX dX8_toOf_8 ?_
  refine zw_iconst (v := (1 : Int32)) hX dX8_toOf_9 (by decide) ?_
  refine zw_iadd hX dX8_toOf_10 ?_
  obtain ⟨v3, g, h⟩ := zb_some h
  refine zw_xi hX dX8_toOf_11 g ?_
  obtain rfl := Option.some.inj h
  exact zw_iret hX hr dX8_toOf_12 rfl ⟨rfl, rfl⟩
set_option maxHeartbeats 4000000 in
set_option maxRecDepth 100000 in
theorem zt_X8_isLevel {l : Launch} {V : zm_V} {N : Nat} {S : zm_S} {out : (Int32 × zm_S)} {d : Nat} {a0 : Nat} {i1 : Int32} (hd : 1 ≤ d) (h : zf_X8_isLevel N a0 i1 S = some out) : zm_Met l zk_E V yX8_isLevel (.code yX8_isLevel cX8_isLevel 2 (some .boolean)) d [.ref a0, .int i1] S 0 0 (zo_i out) zo_x := by
  refine zm_of (by decide +kernel) (Nat.le_of_ble_eq_true rfl) ?_
  intro p e R s m args below meth c hRR hX hr hxt
  have hR : R.frames = d ∧ R.locals = 64 * d := by rw [hRR]; exact ⟨rfl, rfl⟩
  have hX : zm_X p R s m args meth c RX8 "isLevel" cX8_isLevel 2 zk_E V 0 0 := hX
  unfold zf_X8_isLevel at h
  refine zw_sub (lv' := [(0, .ref a0), (1, .int i1)]) (List.forall_mem_cons.mpr ⟨rfl, (List.forall_mem_cons.mpr ⟨rfl, zs_nil⟩)⟩) ?_
  refine zw_aload_n hX dX8_isLevel_0 rfl ?_
  obtain ⟨b1, g, h⟩ := zb_some h
  refine zw_getr hX zl_X8_13 dX8_isLevel_1 g ?_
  refine zw_iload_n hX dX8_isLevel_4 rfl ?_
  obtain ⟨b2, g, h⟩ := zb_some h
  refine zw_xr hX dX8_isLevel_5 g ?_
  refine zw_iconst (v := (1 : Int32)) hX dX8_isLevel_6 (by decide) ?_
  obtain ⟨v3, g, h⟩ := zb_some h
  refine zw_xi hX dX8_isLevel_7 g ?_
  refine zw_aload_n hX dX8_isLevel_8 rfl ?_
  obtain ⟨b4, g, h⟩ := zb_some h
  refine zw_getr hX zl_X8_13 dX8_isLevel_9 g ?_
  refine zw_iload_n hX dX8_isLevel_12 rfl ?_
  obtain ⟨b5, g, h⟩ := zb_some h
  refine zw_xr hX dX8_isLevel_13 g ?_
  refine zw_iconst (v := (3 : Int32)) hX dX8_isLevel_14 (by decide) ?_
  obtain ⟨v6, g, h⟩ := zb_some h
  refine zw_xi hX dX8_isLevel_15 g ?_
  refine zw_icmp_ne (tgt := 23) hX dX8_isLevel_16 (by decide) (fun c16 => ?_) (fun c16 => ?_)
  · rw [if_neg c16] at h
    refine zw_iconst (v := (0 : Int32)) hX dX8_isLevel_23 (by decide) ?_
    obtain rfl := Option.some.inj h
    exact zw_iret hX hr dX8_isLevel_24 rfl ⟨rfl, rfl⟩
  · rw [if_pos c16] at h
    refine zw_iconst (v := (1 : Int32)) hX dX8_isLevel_19 (by decide) ?_
    refine zw_goto (tgt := 24) hX dX8_isLevel_20 (by decide) ?_
    obtain rfl := Option.some.inj h
    exact zw_iret hX hr dX8_isLevel_24 rfl ⟨rfl, rfl⟩
set_option maxHeartbeats 4000000 in
set_option maxRecDepth 100000 in
theorem zt_X2_unitX {l : Launch} {V : zm_V} {N : Nat} {S : zm_S} {out : (Int32 × zm_S)} {d : Nat} {a0 : Nat} {i1 : Int32} {i2 : Int32} (hd : 2 ≤ d) (h : zf_X2_unitX N a0 i1 i2 S = some out) : zm_Met l zk_E V yX2_unitX (.code yX2_unitX cX2_unitX 3 (some .int)) d [.ref a0, .int i1, .int i2] S 0 0 (zo_i out) zo_x := by
  refine zm_of (by decide +kernel) (Nat.le_of_ble_eq_true rfl) ?_
  intro p e R s m args below meth c hRR hX hr hxt
  have hR : R.frames = d ∧ R.locals = 64 * d := by rw [hRR]; exact ⟨rfl, rfl⟩
  have hX : zm_X p R s m args meth c RX2 "unitX" cX2_unitX 3 zk_E V 0 0 := hX
  unfold zf_X2_unitX at h
  refine zw_sub (lv' := [(0, .ref a0), (1, .int i1), (2, .int i2)]) (List.forall_mem_cons.mpr ⟨rfl, (List.forall_mem_cons.mpr ⟨rfl, (List.forall_mem_cons.mpr ⟨rfl, zs_nil⟩)⟩)⟩) ?_
  refine zw_aload_n hX dX2_unitX_0 rfl ?_
  obtain ⟨b1, g, h⟩ := zb_some h
  refine zw_getr hX zl_X2_54 dX2_unitX_1 g ?_
  obtain ⟨b2, g, h⟩ := zb_some h
  refine zw_getNr hX zl_X2_103 dX2_unitX_4 g ?_
  refine zw_iload_n hX dX2_unitX_7 rfl ?_
  obtain ⟨b3, g, h⟩ := zb_some h
  refine zw_xr hX dX2_unitX_8 g ?_
  refine zw_iconst (v := (0 : Int32)) hX dX2_unitX_9 (by decide) ?_
  obtain ⟨v4, g, h⟩ := zb_some h
  refine zw_xi hX dX2_unitX_10 g ?_
  refine zw_aload_n hX dX2_unitX_11 rfl ?_
  obtain ⟨b5, g, h⟩ := zb_some h
  refine zw_getr hX zl_X2_54 dX2_unitX_12 g ?_
  refine zw_iload_n hX dX2_unitX_15 rfl ?_
  obtain ⟨_, gi, h⟩ := zb_some h
  obtain ⟨r7, g, h⟩ := zb_some h
  refine zc_Vi (as := [.int i1]) hX gi (zt_X8_isLevel (d := d - 1) (by omega) g) zl_X2_99 rfl dX2_unitX_16 ⟨rfl, rfl, Nat.le_of_ble_eq_true rfl⟩ ⟨by omega, by omega⟩ ?_
  refine zw_if_eq (tgt := 26) hX dX2_unitX_19 (by decide) (fun c19 => ?_) (fun c19 => ?_)
  · rw [if_pos c19] at h
    refine zw_iconst (v := (0 : Int32)) hX dX2_unitX_26 (by decide) ?_
    refine zw_iadd hX dX2_unitX_27 ?_
    obtain rfl := Option.some.inj h
    exact zw_iret hX hr dX2_unitX_28 rfl ⟨rfl, rfl⟩
  · rw [if_neg c19] at h
    refine zw_iload_n hX dX2_unitX_22 rfl ?_
    refine zw_goto (tgt := 27) hX dX2_unitX_23 (by decide) ?_
    refine zw_iadd hX dX2_unitX_27 ?_
    obtain rfl := Option.some.inj h
    exact zw_iret hX hr dX2_unitX_28 rfl ⟨rfl, rfl⟩
set_option maxHeartbeats 4000000 in
set_option maxRecDepth 100000 in
theorem zt_X2_unitY {l : Launch} {V : zm_V} {N : Nat} {S : zm_S} {out : (Int32 × zm_S)} {d : Nat} {a0 : Nat} {i1 : Int32} {i2 : Int32} (hd : 2 ≤ d) (h : zf_X2_unitY N a0 i1 i2 S = some out) : zm_Met l zk_E V yX2_unitY (.code yX2_unitY cX2_unitY 3 (some .int)) d [.ref a0, .int i1, .int i2] S 0 0 (zo_i out) zo_x := by
  refine zm_of (by decide +kernel) (Nat.le_of_ble_eq_true rfl) ?_
  intro p e R s m args below meth c hRR hX hr hxt
  have hR : R.frames = d ∧ R.locals = 64 * d := by rw [hRR]; exact ⟨rfl, rfl⟩
  have hX : zm_X p R s m args meth c RX2 "unitY" cX2_unitY 3 zk_E V 0 0 := hX
  unfold zf_X2_unitY at h
  refine zw_sub (lv' := [(0, .ref a0), (1, .int i1), (2, .int i2)]) (List.forall_mem_cons.mpr ⟨rfl, (List.forall_mem_cons.mpr ⟨rfl, (List.forall_mem_cons.mpr ⟨rfl, zs_nil⟩)⟩)⟩) ?_
  refine zw_aload_n hX dX2_unitY_0 rfl ?_
  obtain ⟨b1, g, h⟩ := zb_some h
  refine zw_getr hX zl_X2_54 dX2_unitY_1 g ?_
  obtain ⟨b2, g, h⟩ := zb_some h
  refine zw_getNr hX zl_X2_103 dX2_unitY_4 g ?_
  refine zw_iload_n hX dX2_unitY_7 rfl ?_
  obtain ⟨b3, g, h⟩ := zb_some h
  refine zw_xr hX dX2_unitY_8 g ?_
  refine zw_iconst (v := (1 : Int32)) hX dX2_unitY_9 (by decide) ?_
  obtain ⟨v4, g, h⟩ := zb_some h
  refine zw_xi hX dX2_unitY_10 g ?_
  refine zw_aload_n hX dX2_unitY_11 rfl ?_
  obtain ⟨b5, g, h⟩ := zb_some h
  refine zw_getr hX zl_X2_54 dX2_unitY_12 g ?_
  refine zw_iload_n hX dX2_unitY_15 rfl ?_
  obtain ⟨_, gi, h⟩ := zb_some h
  obtain ⟨r7, g, h⟩ := zb_some h
  refine zc_Vi (as := [.int i1]) hX gi (zt_X8_isLevel (d := d - 1) (by omega) g) zl_X2_99 rfl dX2_unitY_16 ⟨rfl, rfl, Nat.le_of_ble_eq_true rfl⟩ ⟨by omega, by omega⟩ ?_
  refine zw_if_eq (tgt := 26) hX dX2_unitY_19 (by decide) (fun c19 => ?_) (fun c19 => ?_)
  · rw [if_pos c19] at h
    refine zw_iload_n hX dX2_unitY_26 rfl ?_
    refine zw_iadd hX dX2_unitY_27 ?_
    obtain rfl := Option.some.inj h
    exact zw_iret hX hr dX2_unitY_28 rfl ⟨rfl, rfl⟩
  · rw [if_neg c19] at h
    refine zw_iconst (v := (0 : Int32)) hX dX2_unitY_22 (by decide) ?_
    refine zw_goto (tgt := 27) hX dX2_unitY_23 (by decide) ?_
    refine zw_iadd hX dX2_unitY_27 ?_
    obtain rfl := Option.some.inj h
    exact zw_iret hX hr dX2_unitY_28 rfl ⟨rfl, rfl⟩
set_option maxHeartbeats 4000000 in
set_option maxRecDepth 100000 in
theorem zt_X2_isPointOn {l : Launch} {V : zm_V} {N : Nat} {S : zm_S} {out : (Int32 × zm_S)} {d : Nat} {a0 : Nat} {i1 : Int32} {i2 : Int32} (hd : 3 ≤ d) (h : zf_X2_isPointOn N a0 i1 i2 S = some out) : zm_Met l zk_E V yX2_isPointOn (.code yX2_isPointOn cX2_isPointOn 3 (some .boolean)) d [.ref a0, .int i1, .int i2] S 0 0 (zo_i out) zo_x := by
  refine zm_of (by decide +kernel) (Nat.le_of_ble_eq_true rfl) ?_
  intro p e R s m args below meth c hRR hX hr hxt
  have hR : R.frames = d ∧ R.locals = 64 * d := by rw [hRR]; exact ⟨rfl, rfl⟩
  have hX : zm_X p R s m args meth c RX2 "isPointOn" cX2_isPointOn 3 zk_E V 0 0 := hX
  unfold zf_X2_isPointOn at h
  refine zw_sub (lv' := [(0, .ref a0), (1, .int i1), (2, .int i2)]) (List.forall_mem_cons.mpr ⟨rfl, (List.forall_mem_cons.mpr ⟨rfl, (List.forall_mem_cons.mpr ⟨rfl, zs_nil⟩)⟩)⟩) ?_
  refine zw_aload_n hX dX2_isPointOn_0 rfl ?_
  obtain ⟨b1, g, h⟩ := zb_some h
  refine zw_getr hX zl_X2_16 dX2_isPointOn_1 g ?_
  refine zw_aload_n hX dX2_isPointOn_4 rfl ?_
  refine zw_iload_n hX dX2_isPointOn_5 rfl ?_
  refine zw_iload_n hX dX2_isPointOn_6 rfl ?_
  obtain ⟨_, gi, h⟩ := zb_some h
  obtain ⟨r3, g, h⟩ := zb_some h
  refine zc_Vi (as := [.int i1, .int i2]) hX gi (zt_X2_unitX (d := d - 1) (by omega) g) zl_X2_204 rfl dX2_isPointOn_7 ⟨rfl, rfl, Nat.le_of_ble_eq_true rfl⟩ ⟨by omega, by omega⟩ ?_
  refine zw_bipush (v := (25 : Int32)) hX dX2_isPointOn_10 (by decide) ?_
  refine zw_imul hX dX2_isPointOn_12 ?_
  refine zw_aload_n hX dX2_isPointOn_13 rfl ?_
  refine zw_iload_n hX dX2_isPointOn_14 rfl ?_
  refine zw_iload_n hX dX2_isPointOn_15 rfl ?_
  obtain ⟨_, gi, h⟩ := zb_some h
  obtain ⟨r5, g, h⟩ := zb_some h
  refine zc_Vi (as := [.int i1, .int i2]) hX gi (zt_X2_unitY (d := d - 1) (by omega) g) zl_X2_207 rfl dX2_isPointOn_16 ⟨rfl, rfl, Nat.le_of_ble_eq_true rfl⟩ ⟨by omega, by omega⟩ ?_
  refine zw_iadd hX dX2_isPointOn_19 ?_
  obtain ⟨v6, g, h⟩ := zb_some h
  refine zw_xz hX dX2_isPointOn_20 g ?_
  by_cases cz : v6 = 0 ∨ v6 = 1
  · rw [if_pos cz] at h
    obtain rfl := Option.some.inj h
    exact zw_iret hX hr dX2_isPointOn_21 (zn_z cz) ⟨rfl, rfl⟩
  · rw [if_neg cz] at h
    cases h
set_option maxHeartbeats 4000000 in
set_option maxRecDepth 100000 in
theorem zt_X2_spaceAt {l : Launch} {V : zm_V} {N : Nat} {S : zm_S} {out : (Int32 × zm_S)} {d : Nat} {a0 : Nat} {i1 : Int32} {i2 : Int32} (hd : 1 ≤ d) (h : zf_X2_spaceAt N a0 i1 i2 S = some out) : zm_Met l zk_E V yX2_spaceAt (.code yX2_spaceAt cX2_spaceAt 3 (some .int)) d [.ref a0, .int i1, .int i2] S 0 0 (zo_i out) zo_x := by
  refine zm_of (by decide +kernel) (Nat.le_of_ble_eq_true rfl) ?_
  intro p e R s m args below meth c hRR hX hr hxt
  have hR : R.frames = d ∧ R.locals = 64 * d := by rw [hRR]; exact ⟨rfl, rfl⟩
  have hX : zm_X p R s m args meth c RX2 "spaceAt" cX2_spaceAt 3 zk_E V 0 0 := hX
  unfold zf_X2_spaceAt at h
  refine zw_sub (lv' := [(0, .ref a0), (1, .int i1), (2, .int i2)]) (List.forall_mem_cons.mpr ⟨rfl, (List.forall_mem_cons.mpr ⟨rfl, (List.forall_mem_cons.mpr ⟨rfl, zs_nil⟩)⟩)⟩) ?_
  refine zw_iload_n hX dX2_spaceAt_0 rfl ?_
  refine zw_if_lt (tgt := 34) hX dX2_spaceAt_1 (by decide) (fun c1 => ?_) (fun c1 => ?_)
  · rw [if_pos c1] at h
    refine zw_iconst (v := (-1 : Int32)) hX dX2_spaceAt_34 (by decide) ?_
    obtain rfl := Option.some.inj h
    exact zw_iret hX hr dX2_spaceAt_35 rfl ⟨rfl, rfl⟩
  · rw [if_neg c1] at h
    refine zw_iload_n hX dX2_spaceAt_4 rfl ?_
    refine zw_bipush (v := (24 : Int32)) hX dX2_spaceAt_5 (by decide) ?_
    refine zw_icmp_ge (tgt := 34) hX dX2_spaceAt_7 (by decide) (fun c7 => ?_) (fun c7 => ?_)
    · rw [if_pos c7] at h
      refine zw_iconst (v := (-1 : Int32)) hX dX2_spaceAt_34 (by decide) ?_
      obtain rfl := Option.some.inj h
      exact zw_iret hX hr dX2_spaceAt_35 rfl ⟨rfl, rfl⟩
    · rw [if_neg c7] at h
      refine zw_iload_n hX dX2_spaceAt_10 rfl ?_
      refine zw_if_lt (tgt := 34) hX dX2_spaceAt_11 (by decide) (fun c11 => ?_) (fun c11 => ?_)
      · rw [if_pos c11] at h
        refine zw_iconst (v := (-1 : Int32)) hX dX2_spaceAt_34 (by decide) ?_
        obtain rfl := Option.some.inj h
        exact zw_iret hX hr dX2_spaceAt_35 rfl ⟨rfl, rfl⟩
      · rw [if_neg c11] at h
        refine zw_iload_n hX dX2_spaceAt_14 rfl ?_
        refine zw_bipush (v := (24 : Int32)) hX dX2_spaceAt_15 (by decide) ?_
        refine zw_icmp_ge (tgt := 34) hX dX2_spaceAt_17 (by decide) (fun c17 => ?_) (fun c17 => ?_)
        · rw [if_pos c17] at h
          refine zw_iconst (v := (-1 : Int32)) hX dX2_spaceAt_34 (by decide) ?_
          obtain rfl := Option.some.inj h
          exact zw_iret hX hr dX2_spaceAt_35 rfl ⟨rfl, rfl⟩
        · rw [if_neg c17] at h
          refine zw_aload_n hX dX2_spaceAt_20 rfl ?_
          obtain ⟨b1, g, h⟩ := zb_some h
          refine zw_getr hX zl_X2_20 dX2_spaceAt_21 g ?_
          refine zw_iload_n hX dX2_spaceAt_24 rfl ?_
          refine zw_bipush (v := (24 : Int32)) hX dX2_spaceAt_25 (by decide) ?_
          refine zw_imul hX dX2_spaceAt_27 ?_
          refine zw_iload_n hX dX2_spaceAt_28 rfl ?_
          refine zw_iadd hX dX2_spaceAt_29 ?_
          obtain ⟨v2, g, h⟩ := zb_some h
          refine zw_xi hX dX2_spaceAt_30 g ?_
          refine zw_goto (tgt := 35) hX dX2_spaceAt_31 (by decide) ?_
          obtain rfl := Option.some.inj h
          exact zw_iret hX hr dX2_spaceAt_35 rfl ⟨rfl, rfl⟩
set_option maxHeartbeats 4000000 in
set_option maxRecDepth 100000 in
theorem zt_X2_roomLeft {l : Launch} {V : zm_V} {N : Nat} {S : zm_S} {out : (Int32 × zm_S)} {d : Nat} {a0 : Nat} {i1 : Int32} {i2 : Int32} (hd : 3 ≤ d) (h : zf_X2_roomLeft N a0 i1 i2 S = some out) : zm_Met l zk_E V yX2_roomLeft (.code yX2_roomLeft cX2_roomLeft 5 (some .int)) d [.ref a0, .int i1, .int i2] S 0 0 (zo_i out) zo_x := by
  refine zm_of (by decide +kernel) (Nat.le_of_ble_eq_true rfl) ?_
  intro p e R s m args below meth c hRR hX hr hxt
  have hR : R.frames = d ∧ R.locals = 64 * d := by rw [hRR]; exact ⟨rfl, rfl⟩
  have hX : zm_X p R s m args meth c RX2 "roomLeft" cX2_roomLeft 5 zk_E V 0 0 := hX
  unfold zf_X2_roomLeft at h
  refine zw_sub (lv' := [(0, .ref a0), (1, .int i1), (2, .int i2)]) (List.forall_mem_cons.mpr ⟨rfl, (List.forall_mem_cons.mpr ⟨rfl, (List.forall_mem_cons.mpr ⟨rfl, zs_nil⟩)⟩)⟩) ?_
  refine zw_aload_n hX dX2_roomLeft_0 rfl ?_
  refine zw_iload_n hX dX2_roomLeft_1 rfl ?_
  refine zw_iload_n hX dX2_roomLeft_2 rfl ?_
  obtain ⟨_, gi, h⟩ := zb_some h
  obtain ⟨r2, g, h⟩ := zb_some h
  refine zc_Vi (as := [.int i1, .int i2]) hX gi (zt_X2_unitX (d := d - 1) (by omega) g) zl_X2_204 rfl dX2_roomLeft_3 ⟨rfl, rfl, Nat.le_of_ble_eq_true rfl⟩ ⟨by omega, by omega⟩ ?_
  refine zw_istore_n hX dX2_roomLeft_6 (by decide) ?_
  refine zw_aload_n hX dX2_roomLeft_7 rfl ?_
  refine zw_iload_n hX dX2_roomLeft_8 rfl ?_
  refine zw_iload_n hX dX2_roomLeft_9 rfl ?_
  obtain ⟨_, gi, h⟩ := zb_some h
  obtain ⟨r4, g, h⟩ := zb_some h
  refine zc_Vi (as := [.int i1, .int i2]) hX gi (zt_X2_unitY (d := d - 1) (by omega) g) zl_X2_207 rfl dX2_roomLeft_10 ⟨rfl, rfl, Nat.le_of_ble_eq_true rfl⟩ ⟨by omega, by omega⟩ ?_
  refine zw_istore hX dX2_roomLeft_13 (by decide) ?_
  refine zw_aload_n hX dX2_roomLeft_15 rfl ?_
  obtain ⟨b5, g, h⟩ := zb_some h
  refine zw_getr hX zl_X2_54 dX2_roomLeft_16 g ?_
  refine zw_iload_n hX dX2_roomLeft_19 rfl ?_
  obtain ⟨_, gi, h⟩ := zb_some h
  obtain ⟨r7, g, h⟩ := zb_some h
  refine zc_Vi (as := [.int i1]) hX gi (zt_X8_isLevel (d := d - 1) (by omega) g) zl_X2_99 rfl dX2_roomLeft_20 ⟨rfl, rfl, Nat.le_of_ble_eq_true rfl⟩ ⟨by omega, by omega⟩ ?_
  refine zw_if_eq (tgt := 36) hX dX2_roomLeft_23 (by decide) (fun c23 => ?_) (fun c23 => ?_)
  · rw [if_pos c23] at h
    refine zw_aload_n hX dX2_roomLeft_36 rfl ?_
    refine zw_iload_n hX dX2_roomLeft_37 rfl ?_
    refine zw_iconst (v := (1 : Int32)) hX dX2_roomLeft_38 (by decide) ?_
    refine zw_isub hX dX2_roomLeft_39 ?_
    refine zw_iload hX dX2_roomLeft_40 rfl ?_
    obtain ⟨_, gi, h⟩ := zb_some h
    obtain ⟨r9, g, h⟩ := zb_some h
    refine zc_Vi (as := [.int (r2.1 - (1 : Int32)), .int r4.1]) hX gi (zt_X2_spaceAt (d := d - 1) (by omega) g) zl_X2_136 rfl dX2_roomLeft_42 ⟨rfl, rfl, Nat.le_of_ble_eq_true rfl⟩ ⟨by omega, by omega⟩ ?_
    obtain rfl := Option.some.inj h
    exact zw_iret hX hr dX2_roomLeft_45 rfl ⟨rfl, rfl⟩
  · rw [if_neg c23] at h
    refine zw_aload_n hX dX2_roomLeft_26 rfl ?_
    refine zw_iload_n hX dX2_roomLeft_27 rfl ?_
    refine zw_iload hX dX2_roomLeft_28 rfl ?_
    obtain ⟨_, gi, h⟩ := zb_some h
    obtain ⟨r11, g, h⟩ := zb_some h
    refine zc_Vi (as := [.int r2.1, .int r4.1]) hX gi (zt_X2_spaceAt (d := d - 1) (by omega) g) zl_X2_136 rfl dX2_roomLeft_30 ⟨rfl, rfl, Nat.le_of_ble_eq_true rfl⟩ ⟨by omega, by omega⟩ ?_
    refine zw_goto (tgt := 45) hX dX2_roomLeft_33 (by decide) ?_
    obtain rfl := Option.some.inj h
    exact zw_iret hX hr dX2_roomLeft_45 rfl ⟨rfl, rfl⟩
set_option maxHeartbeats 4000000 in
set_option maxRecDepth 100000 in
theorem zt_X2_roomRight {l : Launch} {V : zm_V} {N : Nat} {S : zm_S} {out : (Int32 × zm_S)} {d : Nat} {a0 : Nat} {i1 : Int32} {i2 : Int32} (hd : 3 ≤ d) (h : zf_X2_roomRight N a0 i1 i2 S = some out) : zm_Met l zk_E V yX2_roomRight (.code yX2_roomRight cX2_roomRight 5 (some .int)) d [.ref a0, .int i1, .int i2] S 0 0 (zo_i out) zo_x := by
  refine zm_of (by decide +kernel) (Nat.le_of_ble_eq_true rfl) ?_
  intro p e R s m args below meth c hRR hX hr hxt
  have hR : R.frames = d ∧ R.locals = 64 * d := by rw [hRR]; exact ⟨rfl, rfl⟩
  have hX : zm_X p R s m args meth c RX2 "roomRight" cX2_roomRight 5 zk_E V 0 0 := hX
  unfold zf_X2_roomRight at h
  refine zw_sub (lv' := [(0, .ref a0), (1, .int i1), (2, .int i2)]) (List.forall_mem_cons.mpr ⟨rfl, (List.forall_mem_cons.mpr ⟨rfl, (List.forall_mem_cons.mpr ⟨rfl, zs_nil⟩)⟩)⟩) ?_
  refine zw_aload_n hX dX2_roomRight_0 rfl ?_
  refine zw_iload_n hX dX2_roomRight_1 rfl ?_
  refine zw_iload_n hX dX2_roomRight_2 rfl ?_
  obtain ⟨_, gi, h⟩ := zb_some h
  obtain ⟨r2, g, h⟩ := zb_some h
  refine zc_Vi (as := [.int i1, .int i2]) hX gi (zt_X2_unitX (d := d - 1) (by omega) g) zl_X2_204 rfl dX2_roomRight_3 ⟨rfl, rfl, Nat.le_of_ble_eq_true rfl⟩ ⟨by omega, by omega⟩ ?_
  refine zw_istore_n hX dX2_roomRight_6 (by decide) ?_
  refine zw_aload_n hX dX2_roomRight_7 rfl ?_
  refine zw_iload_n hX dX2_roomRight_8 rfl ?_
  refine zw_iload_n hX dX2_roomRight_9 rfl ?_
  obtain ⟨_, gi, h⟩ := zb_some h
  obtain ⟨r4, g, h⟩ := zb_some h
  refine zc_Vi (as := [.int i1, .int i2]) hX gi (zt_X2_unitY (d := d - 1) (by omega) g) zl_X2_207 rfl dX2_roomRight_10 ⟨rfl, rfl, Nat.le_of_ble_eq_true rfl⟩ ⟨by omega, by omega⟩ ?_
  refine zw_istore hX dX2_roomRight_13 (by decide) ?_
  refine zw_aload_n hX dX2_roomRight_15 rfl ?_
  obtain ⟨b5, g, h⟩ := zb_some h
  refine zw_getr hX zl_X2_54 dX2_roomRight_16 g ?_
  refine zw_iload_n hX dX2_roomRight_19 rfl ?_
  obtain ⟨_, gi, h⟩ := zb_some h
  obtain ⟨r7, g, h⟩ := zb_some h
  refine zc_Vi (as := [.int i1]) hX gi (zt_X8_isLevel (d := d - 1) (by omega) g) zl_X2_99 rfl dX2_roomRight_20 ⟨rfl, rfl, Nat.le_of_ble_eq_true rfl⟩ ⟨by omega, by omega⟩ ?_
  refine zw_if_eq (tgt := 38) hX dX2_roomRight_23 (by decide) (fun c23 => ?_) (fun c23 => ?_)
  · rw [if_pos c23] at h
    refine zw_aload_n hX dX2_roomRight_38 rfl ?_
    refine zw_iload_n hX dX2_roomRight_39 rfl ?_
    refine zw_iload hX dX2_roomRight_40 rfl ?_
    obtain ⟨_, gi, h⟩ := zb_some h
    obtain ⟨r9, g, h⟩ := zb_some h
    refine zc_Vi (as := [.int r2.1, .int r4.1]) hX gi (zt_X2_spaceAt (d := d - 1) (by omega) g) zl_X2_136 rfl dX2_roomRight_42 ⟨rfl, rfl, Nat.le_of_ble_eq_true rfl⟩ ⟨by omega, by omega⟩ ?_
    obtain rfl := Option.some.inj h
    exact zw_iret hX hr dX2_roomRight_45 rfl ⟨rfl, rfl⟩
  · rw [if_neg c23] at h
    refine zw_aload_n hX dX2_roomRight_26 rfl ?_
    refine zw_iload_n hX dX2_roomRight_27 rfl ?_
    refine zw_iload hX dX2_roomRight_28 rfl ?_
    refine zw_iconst (v := (1 : Int32)) hX dX2_roomRight_30 (by decide) ?_
    refine zw_isub hX dX2_roomRight_31 ?_
    obtain ⟨_, gi, h⟩ := zb_some h
    obtain ⟨r11, g, h⟩ := zb_some h
    refine zc_Vi (as := [.int r2.1, .int (r4.1 - (1 : Int32))]) hX gi (zt_X2_spaceAt (d := d - 1) (by omega) g) zl_X2_136 rfl dX2_roomRight_32 ⟨rfl, rfl, Nat.le_of_ble_eq_true rfl⟩ ⟨by omega, by omega⟩ ?_
    refine zw_goto (tgt := 45) hX dX2_roomRight_35 (by decide) ?_
    obtain rfl := Option.some.inj h
    exact zw_iret hX hr dX2_roomRight_45 rfl ⟨rfl, rfl⟩
set_option maxHeartbeats 4000000 in
set_option maxRecDepth 100000 in
theorem zt_X0_notePortal_J121 {p : Program} {l : Launch} {e : Env} {R : Room} {s : State} {m : MethodId} {args : Array Value} {below : List Frame} {meth : Method} {c : Code} {V : zm_V} {mc ms d rc rs : Nat} (hX : zm_X p R s m args meth c RX0 "notePortal" cX0_notePortal 8 zk_E V mc ms) (hr : meth.sig.returnType = none) (hR : R.frames = d ∧ R.locals = 64 * d) (hd : 3 ≤ d) {N : Nat} {a0 : Nat} {i4 : Int32} {t0 : Nat} {t1 : Int32} {t2 : Int32} {out : (Unit × zm_S)} {S : zm_S} (h : zf_X0_notePortal_J121 N a0 i4 t0 t1 t2 S = some out) : zw p l e R s m args below meth c (vx_MQ below (zm_Qc zk_E V (zo_v out)) (zm_XC zk_E V zo_x) args s mc ms (fun q => V.2.2.2.1 ≤ q)) 8 zk_E V mc ms 121 [(0, .ref a0), (4, .int i4)] [.int t2, .int t1, .ref t0] S rc rs := by
  unfold zf_X0_notePortal_J121 at h
  obtain ⟨S19, g, h⟩ := zb_some h
  refine zw_si hX dX0_notePortal_121 g ?_
  refine zw_aload_n hX dX0_notePortal_122 rfl ?_
  obtain ⟨b20, g, h⟩ := zb_some h
  refine zw_getr hX zl_X0_9 dX0_notePortal_123 g ?_
  refine zw_iload hX dX0_notePortal_126 rfl ?_
  refine zw_bipush (v := (11 : Int32)) hX dX0_notePortal_128 (by decide) ?_
  refine zw_iadd hX dX0_notePortal_130 ?_
  refine zw_iconst (v := (-1 : Int32)) hX dX0_notePortal_131 (by decide) ?_
  obtain ⟨S21, g, h⟩ := zb_some h
  refine zw_si hX dX0_notePortal_132 g ?_
  obtain rfl := Option.some.inj h
  exact zw_vret hX hr dX0_notePortal_133 ⟨rfl, rfl⟩
set_option maxHeartbeats 4000000 in
set_option maxRecDepth 100000 in
theorem zt_X0_notePortal_J70 {p : Program} {l : Launch} {e : Env} {R : Room} {s : State} {m : MethodId} {args : Array Value} {below : List Frame} {meth : Method} {c : Code} {V : zm_V} {mc ms d rc rs : Nat} (hX : zm_X p R s m args meth c RX0 "notePortal" cX0_notePortal 8 zk_E V mc ms) (hr : meth.sig.returnType = none) (hR : R.frames = d ∧ R.locals = 64 * d) (hd : 3 ≤ d) {N : Nat} {a0 : Nat} {i4 : Int32} {i5 : Int32} {i6 : Int32} {i7 : Int32} {t0 : Nat} {t1 : Int32} {t2 : Int32} {out : (Unit × zm_S)} {S : zm_S} (h : zf_X0_notePortal_J70 N a0 i4 i5 i6 i7 t0 t1 t2 S = some out) : zw p l e R s m args below meth c (vx_MQ below (zm_Qc zk_E V (zo_v out)) (zm_XC zk_E V zo_x) args s mc ms (fun q => V.2.2.2.1 ≤ q)) 8 zk_E V mc ms 70 [(0, .ref a0), (4, .int i4), (5, .int i5), (6, .int i6), (7, .int i7)] [.int t2, .int t1, .ref t0] S rc rs := by
  unfold zf_X0_notePortal_J70 at h
  obtain ⟨S13, g, h⟩ := zb_some h
  refine zw_si hX dX0_notePortal_70 g ?_
  refine zw_aload_n hX dX0_notePortal_71 rfl ?_
  obtain ⟨b14, g, h⟩ := zb_some h
  refine zw_getr hX zl_X0_9 dX0_notePortal_72 g ?_
  refine zw_iload hX dX0_notePortal_75 rfl ?_
  refine zw_iconst (v := (4 : Int32)) hX dX0_notePortal_77 (by decide) ?_
  refine zw_iadd hX dX0_notePortal_78 ?_
  refine zw_iconst (v := (1 : Int32)) hX dX0_notePortal_79 (by decide) ?_
  refine zw_iadd hX dX0_notePortal_80 ?_
  refine zw_iload hX dX0_notePortal_81 rfl ?_
  obtain ⟨S15, g, h⟩ := zb_some h
  refine zw_si hX dX0_notePortal_83 g ?_
  refine zw_aload_n hX dX0_notePortal_84 rfl ?_
  obtain ⟨b16, g, h⟩ := zb_some h
  refine zw_getr hX zl_X0_9 dX0_notePortal_85 g ?_
  refine zw_iload hX dX0_notePortal_88 rfl ?_
  refine zw_bipush (v := (6 : Int32)) hX dX0_notePortal_90 (by decide) ?_
  refine zw_iadd hX dX0_notePortal_92 ?_
  refine zw_iload hX dX0_notePortal_93 rfl ?_
  obtain ⟨S17, g, h⟩ := zb_some h
  refine zw_si hX dX0_notePortal_95 g ?_
  refine zw_aload_n hX dX0_notePortal_96 rfl ?_
  obtain ⟨b18, g, h⟩ := zb_some h
  refine zw_getr hX zl_X0_9 dX0_notePortal_97 g ?_
  refine zw_iload hX dX0_notePortal_100 rfl ?_
  refine zw_bipush (v := (6 : Int32)) hX dX0_notePortal_102 (by decide) ?_
  refine zw_iadd hX dX0_notePortal_104 ?_
  refine zw_iconst (v := (1 : Int32)) hX dX0_notePortal_105 (by decide) ?_
  refine zw_iadd hX dX0_notePortal_106 ?_
  refine zw_iload hX dX0_notePortal_107 rfl ?_
  refine zw_if_eq (tgt := 119) hX dX0_notePortal_109 (by decide) (fun c109 => ?_) (fun c109 => ?_)
  · rw [if_pos c109] at h
    refine zw_iload hX dX0_notePortal_119 rfl ?_
    refine zw_sub (lv' := [(0, .ref a0), (4, .int i4)]) (List.forall_mem_cons.mpr ⟨rfl, (List.forall_mem_cons.mpr ⟨rfl, zs_nil⟩)⟩) ?_
    exact zt_X0_notePortal_J121 hX hr hR hd h
  · rw [if_neg c109] at h
    refine zw_iload hX dX0_notePortal_112 rfl ?_
    refine zw_iconst (v := (1 : Int32)) hX dX0_notePortal_114 (by decide) ?_
    refine zw_isub hX dX0_notePortal_115 ?_
    refine zw_goto (tgt := 121) hX dX0_notePortal_116 (by decide) ?_
    refine zw_sub (lv' := [(0, .ref a0), (4, .int i4)]) (List.forall_mem_cons.mpr ⟨rfl, (List.forall_mem_cons.mpr ⟨rfl, zs_nil⟩)⟩) ?_
    exact zt_X0_notePortal_J121 hX hr hR hd h
set_option maxHeartbeats 4000000 in
set_option maxRecDepth 100000 in
theorem zt_X0_notePortal {l : Launch} {V : zm_V} {N : Nat} {S : zm_S} {out : (Unit × zm_S)} {d : Nat} {a0 : Nat} {i1 : Int32} {i2 : Int32} {i3 : Int32} (hd : 3 ≤ d) (h : zf_X0_notePortal N a0 i1 i2 i3 S = some out) : zm_Met l zk_E V yX0_notePortal (.code yX0_notePortal cX0_notePortal 8 none) d [.ref a0, .int i1, .int i2, .int i3] S 0 0 (zo_v out) zo_x := by
  refine zm_of (by decide +kernel) (Nat.le_of_ble_eq_true rfl) ?_
  intro p e R s m args below meth c hRR hX hr hxt
  have hR : R.frames = d ∧ R.locals = 64 * d := by rw [hRR]; exact ⟨rfl, rfl⟩
  have hX : zm_X p R s m args meth c RX0 "notePortal" cX0_notePortal 8 zk_E V 0 0 := hX
  unfold zf_X0_notePortal at h
  refine zw_sub (lv' := [(0, .ref a0), (1, .int i1), (2, .int i2), (3, .int i3)]) (List.forall_mem_cons.mpr ⟨rfl, (List.forall_mem_cons.mpr ⟨rfl, (List.forall_mem_cons.mpr ⟨rfl, (List.forall_mem_cons.mpr ⟨rfl, zs_nil⟩)⟩)⟩)⟩) ?_
  refine zw_iload_n hX dX0_notePortal_0 rfl ?_
  refine zw_bipush (v := (13 : Int32)) hX dX0_notePortal_1 (by decide) ?_
  refine zw_imul hX dX0_notePortal_3 ?_
  refine zw_istore hX dX0_notePortal_4 (by decide) ?_
  refine zw_aload_n hX dX0_notePortal_6 rfl ?_
  obtain ⟨b1, g, h⟩ := zb_some h
  refine zw_getr hX zl_X0_36 dX0_notePortal_7 g ?_
  refine zw_iload_n hX dX0_notePortal_10 rfl ?_
  obtain ⟨_, gi, h⟩ := zb_some h
  obtain ⟨r3, g, h⟩ := zb_some h
  refine zc_Vi (as := [.int i2]) hX gi (zt_X8_isLevel (d := d - 1) (by omega) g) zl_X0_101 rfl dX0_notePortal_11 ⟨rfl, rfl, Nat.le_of_ble_eq_true rfl⟩ ⟨by omega, by omega⟩ ?_
  refine zw_istore hX dX0_notePortal_14 (by decide) ?_
  refine zw_aload_n hX dX0_notePortal_16 rfl ?_
  obtain ⟨b4, g, h⟩ := zb_some h
  refine zw_getr hX zl_X0_40 dX0_notePortal_17 g ?_
  refine zw_iload_n hX dX0_notePortal_20 rfl ?_
  refine zw_iload_n hX dX0_notePortal_21 rfl ?_
  obtain ⟨_, gi, h⟩ := zb_some h
  obtain ⟨r6, g, h⟩ := zb_some h
  refine zc_Vi (as := [.int i2, .int i3]) hX gi (zt_X2_unitX (d := d - 1) (by omega) g) zl_X0_105 rfl dX0_notePortal_22 ⟨rfl, rfl, Nat.le_of_ble_eq_true rfl⟩ ⟨by omega, by omega⟩ ?_
  refine zw_istore hX dX0_notePortal_25 (by decide) ?_
  refine zw_aload_n hX dX0_notePortal_27 rfl ?_
  obtain ⟨b7, g, h⟩ := zb_some h
  refine zw_getr hX zl_X0_40 dX0_notePortal_28 g ?_
  refine zw_iload_n hX dX0_notePortal_31 rfl ?_
  refine zw_iload_n hX dX0_notePortal_32 rfl ?_
  obtain ⟨_, gi, h⟩ := zb_some h
  obtain ⟨r9, g, h⟩ := zb_some h
  refine zc_Vi (as := [.int i2, .int i3]) hX gi (zt_X2_unitY (d := d - 1) (by omega) g) zl_X0_108 rfl dX0_notePortal_33 ⟨rfl, rfl, Nat.le_of_ble_eq_true rfl⟩ ⟨by omega, by omega⟩ ?_
  refine zw_istore hX dX0_notePortal_36 (by decide) ?_
  refine zw_aload_n hX dX0_notePortal_38 rfl ?_
  obtain ⟨b10, g, h⟩ := zb_some h
  refine zw_getr hX zl_X0_9 dX0_notePortal_39 g ?_
  refine zw_iload hX dX0_notePortal_42 rfl ?_
  refine zw_iconst (v := (2 : Int32)) hX dX0_notePortal_44 (by decide) ?_
  refine zw_iadd hX dX0_notePortal_45 ?_
  refine zw_iload_n hX dX0_notePortal_46 rfl ?_
  obtain ⟨S11, g, h⟩ := zb_some h
  refine zw_si hX dX0_notePortal_47 g ?_
  refine zw_aload_n hX dX0_notePortal_48 rfl ?_
  obtain ⟨b12, g, h⟩ := zb_some h
  refine zw_getr hX zl_X0_9 dX0_notePortal_49 g ?_
  refine zw_iload hX dX0_notePortal_52 rfl ?_
  refine zw_iconst (v := (4 : Int32)) hX dX0_notePortal_54 (by decide) ?_
  refine zw_iadd hX dX0_notePortal_55 ?_
  refine zw_iload hX dX0_notePortal_56 rfl ?_
  refine zw_if_eq (tgt := 66) hX dX0_notePortal_58 (by decide) (fun c58 => ?_) (fun c58 => ?_)
  · rw [if_pos c58] at h
    refine zw_iload hX dX0_notePortal_66 rfl ?_
    refine zw_iconst (v := (1 : Int32)) hX dX0_notePortal_68 (by decide) ?_
    refine zw_isub hX dX0_notePortal_69 ?_
    refine zw_sub (lv' := [(0, .ref a0), (4, .int (i1 * (13 : Int32))), (5, .int r3.1), (6, .int r6.1), (7, .int r9.1)]) (List.forall_mem_cons.mpr ⟨rfl, (List.forall_mem_cons.mpr ⟨rfl, (List.forall_mem_cons.mpr ⟨rfl, (List.forall_mem_cons.mpr ⟨rfl, (List.forall_mem_cons.mpr ⟨rfl, zs_nil⟩)⟩)⟩)⟩)⟩) ?_
    exact zt_X0_notePortal_J70 hX hr hR hd h
  · rw [if_neg c58] at h
    refine zw_iload hX dX0_notePortal_61 rfl ?_
    refine zw_goto (tgt := 70) hX dX0_notePortal_63 (by decide) ?_
    refine zw_sub (lv' := [(0, .ref a0), (4, .int (i1 * (13 : Int32))), (5, .int r3.1), (6, .int r6.1), (7, .int r9.1)]) (List.forall_mem_cons.mpr ⟨rfl, (List.forall_mem_cons.mpr ⟨rfl, (List.forall_mem_cons.mpr ⟨rfl, (List.forall_mem_cons.mpr ⟨rfl, (List.forall_mem_cons.mpr ⟨rfl, zs_nil⟩)⟩)⟩)⟩)⟩) ?_
    exact zt_X0_notePortal_J70 hX hr hR hd h
set_option maxHeartbeats 4000000 in
set_option maxRecDepth 100000 in
theorem zt_X0_setFact {l : Launch} {V : zm_V} {N : Nat} {S : zm_S} {out : (Unit × zm_S)} {d : Nat} {a0 : Nat} {i1 : Int32} {i2 : Int32} {i3 : Int32} (hd : 1 ≤ d) (h : zf_X0_setFact N a0 i1 i2 i3 S = some out) : zm_Met l zk_E V yX0_setFact (.code yX0_setFact cX0_setFact 4 none) d [.ref a0, .int i1, .int i2, .int i3] S 0 0 (zo_v out) zo_x := by
  refine zm_of (by decide +kernel) (Nat.le_of_ble_eq_true rfl) ?_
  intro p e R s m args below meth c hRR hX hr hxt
  have hR : R.frames = d ∧ R.locals = 64 * d := by rw [hRR]; exact ⟨rfl, rfl⟩
  have hX : zm_X p R s m args meth c RX0 "setFact" cX0_setFact 4 zk_E V 0 0 := hX
  unfold zf_X0_setFact at h
  refine zw_sub (lv' := [(0, .ref a0), (1, .int i1), (2, .int i2), (3, .int i3)]) (List.forall_mem_cons.mpr ⟨rfl, (List.forall_mem_cons.mpr ⟨rfl, (List.forall_mem_cons.mpr ⟨rfl, (List.forall_mem_cons.mpr ⟨rfl, zs_nil⟩)⟩)⟩)⟩) ?_
  refine zw_aload_n hX dX0_setFact_0 rfl ?_
  obtain ⟨b1, g, h⟩ := zb_some h
  refine zw_getr hX zl_X0_9 dX0_setFact_1 g ?_
  refine zw_iload_n hX dX0_setFact_4 rfl ?_
  refine zw_bipush (v := (13 : Int32)) hX dX0_setFact_5 (by decide) ?_
  refine zw_imul hX dX0_setFact_7 ?_
  refine zw_iload_n hX dX0_setFact_8 rfl ?_
  refine zw_iadd hX dX0_setFact_9 ?_
  refine zw_iload_n hX dX0_setFact_10 rfl ?_
  obtain ⟨S2, g, h⟩ := zb_some h
  refine zw_si hX dX0_setFact_11 g ?_
  obtain rfl := Option.some.inj h
  exact zw_vret hX hr dX0_setFact_12 ⟨rfl, rfl⟩
set_option maxHeartbeats 4000000 in
set_option maxRecDepth 100000 in
theorem zt_X10_outside {l : Launch} {V : zm_V} {N : Nat} {S : zm_S} {out : (Int32 × zm_S)} {d : Nat} {a0 : Nat} (hd : 1 ≤ d) (h : zf_X10_outside N a0 S = some out) : zm_Met l zk_E V yX10_outside (.code yX10_outside cX10_outside 1 (some .int)) d [.ref a0] S 0 0 (zo_i out) zo_x := by
  refine zm_of (by decide +kernel) (Nat.le_of_ble_eq_true rfl) ?_
  intro p e R s m args below meth c hRR hX hr hxt
  have hR : R.frames = d ∧ R.locals = 64 * d := by rw [hRR]; exact ⟨rfl, rfl⟩
  have hX : zm_X p R s m args meth c RX10 "outside" cX10_outside 1 zk_E V 0 0 := hX
  unfold zf_X10_outside at h
  refine zw_sub (lv' := [(0, .ref a0)]) (List.forall_mem_cons.mpr ⟨rfl, zs_nil⟩) ?_
  refine zw_aload_n hX dX10_outside_0 rfl ?_
  obtain ⟨b1, g, h⟩ := zb_some h
  refine zw_getr hX zl_X10_44 dX10_outside_1 g ?_
  obtain ⟨v2, g, h⟩ := zb_some h
  refine zw_getNi hX zl_X10_48 dX10_outside_4 g ?_
  obtain rfl := Option.some.inj h
  exact zw_iret hX hr dX10_outside_7 rfl ⟨rfl, rfl⟩
set_option maxHeartbeats 4000000 in
set_option maxRecDepth 100000 in
theorem zt_X0_roomFor {l : Launch} {V : zm_V} {N : Nat} {S : zm_S} {out : (Int32 × zm_S)} {d : Nat} {a0 : Nat} {i1 : Int32} (hd : 2 ≤ d) (h : zf_X0_roomFor N a0 i1 S = some out) : zm_Met l zk_E V yX0_roomFor (.code yX0_roomFor cX0_roomFor 2 (some .int)) d [.ref a0, .int i1] S 0 0 (zo_i out) zo_x := by
  refine zm_of (by decide +kernel) (Nat.le_of_ble_eq_true rfl) ?_
  intro p e R s m args below meth c hRR hX hr hxt
  have hR : R.frames = d ∧ R.locals = 64 * d := by rw [hRR]; exact ⟨rfl, rfl⟩
  have hX : zm_X p R s m args meth c RX0 "roomFor" cX0_roomFor 2 zk_E V 0 0 := hX
  unfold zf_X0_roomFor at h
  refine zw_sub (lv' := [(0, .ref a0), (1, .int i1)]) (List.forall_mem_cons.mpr ⟨rfl, (List.forall_mem_cons.mpr ⟨rfl, zs_nil⟩)⟩) ?_
  refine zw_iload_n hX dX0_roomFor_0 rfl ?_
  refine zw_iconst (v := (-1 : Int32)) hX dX0_roomFor_1 (by decide) ?_
  refine zw_icmp_ne (tgt := 15) hX dX0_roomFor_2 (by decide) (fun c2 => ?_) (fun c2 => ?_)
  · rw [if_neg c2] at h
    refine zw_iload_n hX dX0_roomFor_15 rfl ?_
    obtain rfl := Option.some.inj h
    exact zw_iret hX hr dX0_roomFor_16 rfl ⟨rfl, rfl⟩
  · rw [if_pos c2] at h
    refine zw_aload_n hX dX0_roomFor_5 rfl ?_
    obtain ⟨b1, g, h⟩ := zb_some h
    refine zw_getr hX zl_X0_44 dX0_roomFor_6 g ?_
    obtain ⟨_, gi, h⟩ := zb_some h
    obtain ⟨r3, g, h⟩ := zb_some h
    refine zc_Vi (as := []) hX gi (zt_X10_outside (d := d - 1) (by omega) g) zl_X0_111 rfl dX0_roomFor_9 ⟨rfl, rfl, Nat.le_of_ble_eq_true rfl⟩ ⟨by omega, by omega⟩ ?_
    refine zw_goto (tgt := 16) hX dX0_roomFor_12 (by decide) ?_
    obtain rfl := Option.some.inj h
    exact zw_iret hX hr dX0_roomFor_16 rfl ⟨rfl, rfl⟩
set_option maxHeartbeats 4000000 in
set_option maxRecDepth 100000 in
theorem zt_X0_scanDoor_J58 {p : Program} {l : Launch} {e : Env} {R : Room} {s : State} {m : MethodId} {args : Array Value} {below : List Frame} {meth : Method} {c : Code} {V : zm_V} {mc ms d rc rs : Nat} (hX : zm_X p R s m args meth c RX0 "scanDoor" cX0_scanDoor 11 zk_E V mc ms) (hr : meth.sig.returnType = (some .int)) (hR : R.frames = d ∧ R.locals = 64 * d) (hd : 4 ≤ d) {N : Nat} {k : Nat → Int32 → Int32 → Int32 → Int32 → Int32 → Int32 → Int32 → zm_S → Option ((Int32 × zm_S) ⊕ ((Int32) × zm_S))} {a0 : Nat} {i1 : Int32} {i2 : Int32} {i3 : Int32} {i4 : Int32} {i5 : Int32} {i6 : Int32} {i7 : Int32} {t0 : Int32} {res : (Int32 × zm_S) ⊕ ((Int32) × zm_S)} {out : (Int32 × zm_S)}   (hf : ∀ o, res = .inl o → o = out) (hk : ∀ (x3 : Int32) (S' : zm_S), res = .inr (x3, S') → zw p l e R s m args below meth c (vx_MQ below (zm_Qc zk_E V (zo_i out)) (zm_XC zk_E V zo_x) args s mc ms (fun q => V.2.2.2.1 ≤ q)) 11 zk_E V mc ms 157 [(3, .int x3)] [] S' rc rs) (hrec : ∀ (i3' : Int32) (i7' : Int32) (S : zm_S), k a0 i1 i2 i3' i4 i5 i6 i7' S = some res → zw p l e R s m args below meth c (vx_MQ below (zm_Qc zk_E V (zo_i out)) (zm_XC zk_E V zo_x) args s mc ms (fun q => V.2.2.2.1 ≤ q)) 11 zk_E V mc ms 26 [(0, .ref a0), (1, .int i1), (2, .int i2), (3, .int i3'), (4, .int i4), (5, .int i5), (6, .int i6), (7, .int i7')] [] S rc rs) {S : zm_S} (h : zf_X0_scanDoor_J58 N k a0 i1 i2 i3 i4 i5 i6 i7 t0 S = some res) : zw p l e R s m args below meth c (vx_MQ below (zm_Qc zk_E V (zo_i out)) (zm_XC zk_E V zo_x) args s mc ms (fun q => V.2.2.2.1 ≤ q)) 11 zk_E V mc ms 58 [(0, .ref a0), (1, .int i1), (2, .int i2), (3, .int i3), (4, .int i4), (5, .int i5), (6, .int i6), (7, .int i7)] [.int t0] S rc rs := by
  unfold zf_X0_scanDoor_J58 at h
  refine zw_istore hX dX0_scanDoor_58 (by decide) ?_
  refine zw_aload_n hX dX0_scanDoor_60 rfl ?_
  obtain ⟨b7, g, h⟩ := zb_some h
  refine zw_getr hX zl_X0_40 dX0_scanDoor_61 g ?_
  refine zw_iload_n hX dX0_scanDoor_64 rfl ?_
  refine zw_iload hX dX0_scanDoor_65 rfl ?_
  obtain ⟨_, gi, h⟩ := zb_some h
  obtain ⟨r9, g, h⟩ := zb_some h
  refine zc_Vi (as := [.int i1, .int i7]) hX gi (zt_X2_roomLeft (d := d - 1) (by omega) g) zl_X0_84 rfl dX0_scanDoor_67 ⟨rfl, rfl, Nat.le_of_ble_eq_true rfl⟩ ⟨by omega, by omega⟩ ?_
  refine zw_istore hX dX0_scanDoor_70 (by decide) ?_
  refine zw_aload_n hX dX0_scanDoor_72 rfl ?_
  obtain ⟨b10, g, h⟩ := zb_some h
  refine zw_getr hX zl_X0_40 dX0_scanDoor_73 g ?_
  refine zw_iload_n hX dX0_scanDoor_76 rfl ?_
  refine zw_iload hX dX0_scanDoor_77 rfl ?_
  obtain ⟨_, gi, h⟩ := zb_some h
  obtain ⟨r12, g, h⟩ := zb_some h
  refine zc_Vi (as := [.int i1, .int i7]) hX gi (zt_X2_roomRight (d := d - 1) (by omega) g) zl_X0_87 rfl dX0_scanDoor_79 ⟨rfl, rfl, Nat.le_of_ble_eq_true rfl⟩ ⟨by omega, by omega⟩ ?_
  refine zw_istore hX dX0_scanDoor_82 (by decide) ?_
  refine zw_iload hX dX0_scanDoor_84 rfl ?_
  refine zw_if_eq (tgt := 151) hX dX0_scanDoor_86 (by decide) (fun c86 => ?_) (fun c86 => ?_)
  · rw [if_pos c86] at h
    refine zw_iinc (v := (i7 + (1 : Int32))) hX dX0_scanDoor_151 rfl rfl (by decide) ?_
    refine zw_goto (tgt := 26) hX dX0_scanDoor_154 (by decide) ?_
    refine zw_sub (lv' := [(0, .ref a0), (1, .int i1), (2, .int i2), (3, .int i3), (4, .int i4), (5, .int i5), (6, .int i6), (7, .int (i7 + (1 : Int32)))]) (List.forall_mem_cons.mpr ⟨rfl, (List.forall_mem_cons.mpr ⟨rfl, (List.forall_mem_cons.mpr ⟨rfl, (List.forall_mem_cons.mpr ⟨rfl, (List.forall_mem_cons.mpr ⟨rfl, (List.forall_mem_cons.mpr ⟨rfl, (List.forall_mem_cons.mpr ⟨rfl, (List.forall_mem_cons.mpr ⟨rfl, zs_nil⟩)⟩)⟩)⟩)⟩)⟩)⟩)⟩) ?_
    exact hrec _ _ _ h
  · rw [if_neg c86] at h
    refine zw_iload hX dX0_scanDoor_89 rfl ?_
    refine zw_iload hX dX0_scanDoor_91 rfl ?_
    refine zw_icmp_eq (tgt := 151) hX dX0_scanDoor_93 (by decide) (fun c93 => ?_) (fun c93 => ?_)
    · rw [if_pos c93] at h
      refine zw_iinc (v := (i7 + (1 : Int32))) hX dX0_scanDoor_151 rfl rfl (by decide) ?_
      refine zw_goto (tgt := 26) hX dX0_scanDoor_154 (by decide) ?_
      refine zw_sub (lv' := [(0, .ref a0), (1, .int i1), (2, .int i2), (3, .int i3), (4, .int i4), (5, .int i5), (6, .int i6), (7, .int (i7 + (1 : Int32)))]) (List.forall_mem_cons.mpr ⟨rfl, (List.forall_mem_cons.mpr ⟨rfl, (List.forall_mem_cons.mpr ⟨rfl, (List.forall_mem_cons.mpr ⟨rfl, (List.forall_mem_cons.mpr ⟨rfl, (List.forall_mem_cons.mpr ⟨rfl, (List.forall_mem_cons.mpr ⟨rfl, (List.forall_mem_cons.mpr ⟨rfl, zs_nil⟩)⟩)⟩)⟩)⟩)⟩)⟩)⟩) ?_
      exact hrec _ _ _ h
    · rw [if_neg c93] at h
      refine zw_iload hX dX0_scanDoor_96 rfl ?_
      refine zw_if_eq (tgt := 148) hX dX0_scanDoor_98 (by decide) (fun c98 => ?_) (fun c98 => ?_)
      · rw [if_pos c98] at h
        refine zw_iinc (v := (i3 + (1 : Int32))) hX dX0_scanDoor_148 rfl rfl (by decide) ?_
        refine zw_iinc (v := (i7 + (1 : Int32))) hX dX0_scanDoor_151 rfl rfl (by decide) ?_
        refine zw_goto (tgt := 26) hX dX0_scanDoor_154 (by decide) ?_
        refine zw_sub (lv' := [(0, .ref a0), (1, .int i1), (2, .int i2), (3, .int (i3 + (1 : Int32))), (4, .int i4), (5, .int i5), (6, .int i6), (7, .int (i7 + (1 : Int32)))]) (List.forall_mem_cons.mpr ⟨rfl, (List.forall_mem_cons.mpr ⟨rfl, (List.forall_mem_cons.mpr ⟨rfl, (List.forall_mem_cons.mpr ⟨rfl, (List.forall_mem_cons.mpr ⟨rfl, (List.forall_mem_cons.mpr ⟨rfl, (List.forall_mem_cons.mpr ⟨rfl, (List.forall_mem_cons.mpr ⟨rfl, zs_nil⟩)⟩)⟩)⟩)⟩)⟩)⟩)⟩) ?_
        exact hrec _ _ _ h
      · rw [if_neg c98] at h
        refine zw_iload_n hX dX0_scanDoor_101 rfl ?_
        refine zw_aload_n hX dX0_scanDoor_102 rfl ?_
        obtain ⟨v13, g, h⟩ := zb_some h
        refine zw_geti hX zl_X0_56 dX0_scanDoor_103 g ?_
        refine zw_icmp_ge (tgt := 148) hX dX0_scanDoor_106 (by decide) (fun c106 => ?_) (fun c106 => ?_)
        · rw [if_pos c106] at h
          refine zw_iinc (v := (i3 + (1 : Int32))) hX dX0_scanDoor_148 rfl rfl (by decide) ?_
          refine zw_iinc (v := (i7 + (1 : Int32))) hX dX0_scanDoor_151 rfl rfl (by decide) ?_
          refine zw_goto (tgt := 26) hX dX0_scanDoor_154 (by decide) ?_
          refine zw_sub (lv' := [(0, .ref a0), (1, .int i1), (2, .int i2), (3, .int (i3 + (1 : Int32))), (4, .int i4), (5, .int i5), (6, .int i6), (7, .int (i7 + (1 : Int32)))]) (List.forall_mem_cons.mpr ⟨rfl, (List.forall_mem_cons.mpr ⟨rfl, (List.forall_mem_cons.mpr ⟨rfl, (List.forall_mem_cons.mpr ⟨rfl, (List.forall_mem_cons.mpr ⟨rfl, (List.forall_mem_cons.mpr ⟨rfl, (List.forall_mem_cons.mpr ⟨rfl, (List.forall_mem_cons.mpr ⟨rfl, zs_nil⟩)⟩)⟩)⟩)⟩)⟩)⟩)⟩) ?_
          exact hrec _ _ _ h
        · rw [if_neg c106] at h
          refine zw_aload_n hX dX0_scanDoor_109 rfl ?_
          refine zw_iload_n hX dX0_scanDoor_110 rfl ?_
          refine zw_iload_n hX dX0_scanDoor_111 rfl ?_
          refine zw_iload hX dX0_scanDoor_112 rfl ?_
          obtain ⟨_, gi, h⟩ := zb_some h
          obtain ⟨r15, g, h⟩ := zb_some h
          refine zc_Vv (as := [.int i3, .int i1, .int i7]) hX gi (zt_X0_notePortal (d := d - 1) (by omega) g) zl_X0_90 rfl dX0_scanDoor_114 ⟨rfl, rfl, Nat.le_of_ble_eq_true rfl⟩ ⟨by omega, by omega⟩ ?_
          refine zw_aload_n hX dX0_scanDoor_117 rfl ?_
          refine zw_iload_n hX dX0_scanDoor_118 rfl ?_
          refine zw_iconst (v := (3 : Int32)) hX dX0_scanDoor_119 (by decide) ?_
          refine zw_iload_n hX dX0_scanDoor_120 rfl ?_
          obtain ⟨_, gi, h⟩ := zb_some h
          obtain ⟨r17, g, h⟩ := zb_some h
          refine zc_Vv (as := [.int i3, .int (3 : Int32), .int i2]) hX gi (zt_X0_setFact (d := d - 1) (by omega) g) zl_X0_94 rfl dX0_scanDoor_121 ⟨rfl, rfl, Nat.le_of_ble_eq_true rfl⟩ ⟨by omega, by omega⟩ ?_
          refine zw_aload_n hX dX0_scanDoor_124 rfl ?_
          refine zw_iload_n hX dX0_scanDoor_125 rfl ?_
          refine zw_iconst (v := (0 : Int32)) hX dX0_scanDoor_126 (by decide) ?_
          refine zw_aload_n hX dX0_scanDoor_127 rfl ?_
          refine zw_iload hX dX0_scanDoor_128 rfl ?_
          obtain ⟨_, gi, h⟩ := zb_some h
          obtain ⟨r19, g, h⟩ := zb_some h
          refine zc_Vi (as := [.int r9.1]) hX gi (zt_X0_roomFor (d := d - 1) (by omega) g) zl_X0_97 rfl dX0_scanDoor_130 ⟨rfl, rfl, Nat.le_of_ble_eq_true rfl⟩ ⟨by omega, by omega⟩ ?_
          obtain ⟨_, gi, h⟩ := zb_some h
          obtain ⟨r21, g, h⟩ := zb_some h
          refine zc_Vv (as := [.int i3, .int (0 : Int32), .int r19.1]) hX gi (zt_X0_setFact (d := d - 1) (by omega) g) zl_X0_94 rfl dX0_scanDoor_133 ⟨rfl, rfl, Nat.le_of_ble_eq_true rfl⟩ ⟨by omega, by omega⟩ ?_
          refine zw_aload_n hX dX0_scanDoor_136 rfl ?_
          refine zw_iload_n hX dX0_scanDoor_137 rfl ?_
          refine zw_iconst (v := (1 : Int32)) hX dX0_scanDoor_138 (by decide) ?_
          refine zw_aload_n hX dX0_scanDoor_139 rfl ?_
          refine zw_iload hX dX0_scanDoor_140 rfl ?_
          obtain ⟨_, gi, h⟩ := zb_some h
          obtain ⟨r23, g, h⟩ := zb_some h
          refine zc_Vi (as := [.int r12.1]) hX gi (zt_X0_roomFor (d := d - 1) (by omega) g) zl_X0_97 rfl dX0_scanDoor_142 ⟨rfl, rfl, Nat.le_of_ble_eq_true rfl⟩ ⟨by omega, by omega⟩ ?_
          obtain ⟨_, gi, h⟩ := zb_some h
          obtain ⟨r25, g, h⟩ := zb_some h
          refine zc_Vv (as := [.int i3, .int (1 : Int32), .int r23.1]) hX gi (zt_X0_setFact (d := d - 1) (by omega) g) zl_X0_94 rfl dX0_scanDoor_145 ⟨rfl, rfl, Nat.le_of_ble_eq_true rfl⟩ ⟨by omega, by omega⟩ ?_
          refine zw_iinc (v := (i3 + (1 : Int32))) hX dX0_scanDoor_148 rfl rfl (by decide) ?_
          refine zw_iinc (v := (i7 + (1 : Int32))) hX dX0_scanDoor_151 rfl rfl (by decide) ?_
          refine zw_goto (tgt := 26) hX dX0_scanDoor_154 (by decide) ?_
          refine zw_sub (lv' := [(0, .ref a0), (1, .int i1), (2, .int i2), (3, .int (i3 + (1 : Int32))), (4, .int i4), (5, .int i5), (6, .int i6), (7, .int (i7 + (1 : Int32)))]) (List.forall_mem_cons.mpr ⟨rfl, (List.forall_mem_cons.mpr ⟨rfl, (List.forall_mem_cons.mpr ⟨rfl, (List.forall_mem_cons.mpr ⟨rfl, (List.forall_mem_cons.mpr ⟨rfl, (List.forall_mem_cons.mpr ⟨rfl, (List.forall_mem_cons.mpr ⟨rfl, (List.forall_mem_cons.mpr ⟨rfl, zs_nil⟩)⟩)⟩)⟩)⟩)⟩)⟩)⟩) ?_
          exact hrec _ _ _ h
set_option maxHeartbeats 4000000 in
set_option maxRecDepth 100000 in
theorem zt_X0_scanDoor_J53 {p : Program} {l : Launch} {e : Env} {R : Room} {s : State} {m : MethodId} {args : Array Value} {below : List Frame} {meth : Method} {c : Code} {V : zm_V} {mc ms d rc rs : Nat} (hX : zm_X p R s m args meth c RX0 "scanDoor" cX0_scanDoor 11 zk_E V mc ms) (hr : meth.sig.returnType = (some .int)) (hR : R.frames = d ∧ R.locals = 64 * d) (hd : 4 ≤ d) {N : Nat} {k : Nat → Int32 → Int32 → Int32 → Int32 → Int32 → Int32 → Int32 → zm_S → Option ((Int32 × zm_S) ⊕ ((Int32) × zm_S))} {a0 : Nat} {i1 : Int32} {i2 : Int32} {i3 : Int32} {i4 : Int32} {i5 : Int32} {i6 : Int32} {i7 : Int32} {res : (Int32 × zm_S) ⊕ ((Int32) × zm_S)} {out : (Int32 × zm_S)}   (hf : ∀ o, res = .inl o → o = out) (hk : ∀ (x3 : Int32) (S' : zm_S), res = .inr (x3, S') → zw p l e R s m args below meth c (vx_MQ below (zm_Qc zk_E V (zo_i out)) (zm_XC zk_E V zo_x) args s mc ms (fun q => V.2.2.2.1 ≤ q)) 11 zk_E V mc ms 157 [(3, .int x3)] [] S' rc rs) (hrec : ∀ (i3' : Int32) (i7' : Int32) (S : zm_S), k a0 i1 i2 i3' i4 i5 i6 i7' S = some res → zw p l e R s m args below meth c (vx_MQ below (zm_Qc zk_E V (zo_i out)) (zm_XC zk_E V zo_x) args s mc ms (fun q => V.2.2.2.1 ≤ q)) 11 zk_E V mc ms 26 [(0, .ref a0), (1, .int i1), (2, .int i2), (3, .int i3'), (4, .int i4), (5, .int i5), (6, .int i6), (7, .int i7')] [] S rc rs) {S : zm_S} (h : zf_X0_scanDoor_J53 N k a0 i1 i2 i3 i4 i5 i6 i7 S = some res) : zw p l e R s m args below meth c (vx_MQ below (zm_Qc zk_E V (zo_i out)) (zm_XC zk_E V zo_x) args s mc ms (fun q => V.2.2.2.1 ≤ q)) 11 zk_E V mc ms 53 [(0, .ref a0), (1, .int i1), (2, .int i2), (3, .int i3), (4, .int i4), (5, .int i5), (6, .int i6), (7, .int i7)] [] S rc rs := by
  unfold zf_X0_scanDoor_J53 at h
  refine zw_iconst (v := (1 : Int32)) hX dX0_scanDoor_53 (by decide) ?_
  refine zw_goto (tgt := 58) hX dX0_scanDoor_54 (by decide) ?_
  refine zw_sub (lv' := [(0, .ref a0), (1, .int i1), (2, .int i2), (3, .int i3), (4, .int i4), (5, .int i5), (6, .int i6), (7, .int i7)]) (List.forall_mem_cons.mpr ⟨rfl, (List.forall_mem_cons.mpr ⟨rfl, (List.forall_mem_cons.mpr ⟨rfl, (List.forall_mem_cons.mpr ⟨rfl, (List.forall_mem_cons.mpr ⟨rfl, (List.forall_mem_cons.mpr ⟨rfl, (List.forall_mem_cons.mpr ⟨rfl, (List.forall_mem_cons.mpr ⟨rfl, zs_nil⟩)⟩)⟩)⟩)⟩)⟩)⟩)⟩) ?_
  exact zt_X0_scanDoor_J58 hX hr hR hd hf hk hrec h
set_option maxHeartbeats 4000000 in
set_option maxRecDepth 100000 in
theorem zt_X0_scanDoor_L26 {p : Program} {l : Launch} {e : Env} {R : Room} {s : State} {m : MethodId} {args : Array Value} {below : List Frame} {meth : Method} {c : Code} {V : zm_V} {mc ms d rc rs : Nat} (hX : zm_X p R s m args meth c RX0 "scanDoor" cX0_scanDoor 11 zk_E V mc ms) (hr : meth.sig.returnType = (some .int)) (hR : R.frames = d ∧ R.locals = 64 * d) (hd : 4 ≤ d) {N : Nat} {res : (Int32 × zm_S) ⊕ ((Int32) × zm_S)} {out : (Int32 × zm_S)} (a0 : Nat) (i1 : Int32) (i2 : Int32) (i4 : Int32) (i5 : Int32) (i6 : Int32) (hf : ∀ o, res = .inl o → o = out) (hk : ∀ (x3 : Int32) (S' : zm_S), res = .inr (x3, S') → zw p l e R s m args below meth c (vx_MQ below (zm_Qc zk_E V (zo_i out)) (zm_XC zk_E V zo_x) args s mc ms (fun q => V.2.2.2.1 ≤ q)) 11 zk_E V mc ms 157 [(3, .int x3)] [] S' rc rs) : ∀ (n : Nat) (i3 : Int32) (i7 : Int32) (S : zm_S), zf_X0_scanDoor_L26 N n a0 i1 i2 i3 i4 i5 i6 i7 S = some res → zw p l e R s m args below meth c (vx_MQ below (zm_Qc zk_E V (zo_i out)) (zm_XC zk_E V zo_x) args s mc ms (fun q => V.2.2.2.1 ≤ q)) 11 zk_E V mc ms 26 [(0, .ref a0), (1, .int i1), (2, .int i2), (3, .int i3), (4, .int i4), (5, .int i5), (6, .int i6), (7, .int i7)] [] S rc rs := by
  intro n
  induction n with
  | zero => intro i3 i7 S h; cases h
  | succ n ih =>
    intro i3 i7 S h
    rw [zf_X0_scanDoor_L26] at h
    refine zw_iload hX dX0_scanDoor_26 rfl ?_
    refine zw_iload hX dX0_scanDoor_28 rfl ?_
    refine zw_icmp_ge (tgt := 157) hX dX0_scanDoor_30 (by decide) (fun c30 => ?_) (fun c30 => ?_)
    · rw [if_pos c30] at h
      refine zw_sub (lv' := [(3, .int i3)]) (List.forall_mem_cons.mpr ⟨rfl, zs_nil⟩) ?_
      exact hk _ _ (Option.some.inj h).symm
    · rw [if_neg c30] at h
      refine zw_iload hX dX0_scanDoor_33 rfl ?_
      refine zw_iload hX dX0_scanDoor_35 rfl ?_
      refine zw_icmp_eq (tgt := 53) hX dX0_scanDoor_37 (by decide) (fun c37 => ?_) (fun c37 => ?_)
      · rw [if_pos c37] at h
        refine zw_sub (lv' := [(0, .ref a0), (1, .int i1), (2, .int i2), (3, .int i3), (4, .int i4), (5, .int i5), (6, .int i6), (7, .int i7)]) (List.forall_mem_cons.mpr ⟨rfl, (List.forall_mem_cons.mpr ⟨rfl, (List.forall_mem_cons.mpr ⟨rfl, (List.forall_mem_cons.mpr ⟨rfl, (List.forall_mem_cons.mpr ⟨rfl, (List.forall_mem_cons.mpr ⟨rfl, (List.forall_mem_cons.mpr ⟨rfl, (List.forall_mem_cons.mpr ⟨rfl, zs_nil⟩)⟩)⟩)⟩)⟩)⟩)⟩)⟩) ?_
        exact zt_X0_scanDoor_J53 hX hr hR hd hf hk ih h
      · rw [if_neg c37] at h
        refine zw_aload_n hX dX0_scanDoor_40 rfl ?_
        obtain ⟨b26, g, h⟩ := zb_some h
        refine zw_getr hX zl_X0_40 dX0_scanDoor_41 g ?_
        refine zw_iload_n hX dX0_scanDoor_44 rfl ?_
        refine zw_iload hX dX0_scanDoor_45 rfl ?_
        obtain ⟨_, gi, h⟩ := zb_some h
        obtain ⟨r28, g, h⟩ := zb_some h
        refine zc_Vi (as := [.int i1, .int i7]) hX gi (zt_X2_isPointOn (d := d - 1) (by omega) g) zl_X0_78 rfl dX0_scanDoor_47 ⟨rfl, rfl, Nat.le_of_ble_eq_true rfl⟩ ⟨by omega, by omega⟩ ?_
        refine zw_if_eq (tgt := 57) hX dX0_scanDoor_50 (by decide) (fun c50 => ?_) (fun c50 => ?_)
        · rw [if_pos c50] at h
          refine zw_iconst (v := (0 : Int32)) hX dX0_scanDoor_57 (by decide) ?_
          refine zw_sub (lv' := [(0, .ref a0), (1, .int i1), (2, .int i2), (3, .int i3), (4, .int i4), (5, .int i5), (6, .int i6), (7, .int i7)]) (List.forall_mem_cons.mpr ⟨rfl, (List.forall_mem_cons.mpr ⟨rfl, (List.forall_mem_cons.mpr ⟨rfl, (List.forall_mem_cons.mpr ⟨rfl, (List.forall_mem_cons.mpr ⟨rfl, (List.forall_mem_cons.mpr ⟨rfl, (List.forall_mem_cons.mpr ⟨rfl, (List.forall_mem_cons.mpr ⟨rfl, zs_nil⟩)⟩)⟩)⟩)⟩)⟩)⟩)⟩) ?_
          exact zt_X0_scanDoor_J58 hX hr hR hd hf hk ih h
        · rw [if_neg c50] at h
          refine zw_sub (lv' := [(0, .ref a0), (1, .int i1), (2, .int i2), (3, .int i3), (4, .int i4), (5, .int i5), (6, .int i6), (7, .int i7)]) (List.forall_mem_cons.mpr ⟨rfl, (List.forall_mem_cons.mpr ⟨rfl, (List.forall_mem_cons.mpr ⟨rfl, (List.forall_mem_cons.mpr ⟨rfl, (List.forall_mem_cons.mpr ⟨rfl, (List.forall_mem_cons.mpr ⟨rfl, (List.forall_mem_cons.mpr ⟨rfl, (List.forall_mem_cons.mpr ⟨rfl, zs_nil⟩)⟩)⟩)⟩)⟩)⟩)⟩)⟩) ?_
          exact zt_X0_scanDoor_J53 hX hr hR hd hf hk ih h
set_option maxHeartbeats 4000000 in
set_option maxRecDepth 100000 in
theorem zt_X0_scanDoor {l : Launch} {V : zm_V} {N : Nat} {S : zm_S} {out : (Int32 × zm_S)} {d : Nat} {a0 : Nat} {i1 : Int32} {i2 : Int32} {i3 : Int32} {i4 : Int32} (hd : 4 ≤ d) (h : zf_X0_scanDoor N a0 i1 i2 i3 i4 S = some out) : zm_Met l zk_E V yX0_scanDoor (.code yX0_scanDoor cX0_scanDoor 11 (some .int)) d [.ref a0, .int i1, .int i2, .int i3, .int i4] S 0 0 (zo_i out) zo_x := by
  refine zm_of (by decide +kernel) (Nat.le_of_ble_eq_true rfl) ?_
  intro p e R s m args below meth c hRR hX hr hxt
  have hR : R.frames = d ∧ R.locals = 64 * d := by rw [hRR]; exact ⟨rfl, rfl⟩
  have hX : zm_X p R s m args meth c RX0 "scanDoor" cX0_scanDoor 11 zk_E V 0 0 := hX
  unfold zf_X0_scanDoor at h
  refine zw_sub (lv' := [(0, .ref a0), (1, .int i1), (2, .int i2), (3, .int i3), (4, .int i4)]) (List.forall_mem_cons.mpr ⟨rfl, (List.forall_mem_cons.mpr ⟨rfl, (List.forall_mem_cons.mpr ⟨rfl, (List.forall_mem_cons.mpr ⟨rfl, (List.forall_mem_cons.mpr ⟨rfl, zs_nil⟩)⟩)⟩)⟩)⟩) ?_
  refine zw_aload_n hX dX0_scanDoor_0 rfl ?_
  obtain ⟨b1, g, h⟩ := zb_some h
  refine zw_getr hX zl_X0_36 dX0_scanDoor_1 g ?_
  refine zw_iload_n hX dX0_scanDoor_4 rfl ?_
  refine zw_iload_n hX dX0_scanDoor_5 rfl ?_
  obtain ⟨_, gi, h⟩ := zb_some h
  obtain ⟨r3, g, h⟩ := zb_some h
  refine zc_Vi (as := [.int i1, .int i2]) hX gi (zt_X8_fromOf (d := d - 1) (by omega) g) zl_X0_71 rfl dX0_scanDoor_6 ⟨rfl, rfl, Nat.le_of_ble_eq_true rfl⟩ ⟨by omega, by omega⟩ ?_
  refine zw_istore hX dX0_scanDoor_9 (by decide) ?_
  refine zw_aload_n hX dX0_scanDoor_11 rfl ?_
  obtain ⟨b4, g, h⟩ := zb_some h
  refine zw_getr hX zl_X0_36 dX0_scanDoor_12 g ?_
  refine zw_iload_n hX dX0_scanDoor_15 rfl ?_
  refine zw_iload_n hX dX0_scanDoor_16 rfl ?_
  obtain ⟨_, gi, h⟩ := zb_some h
  obtain ⟨r6, g, h⟩ := zb_some h
  refine zc_Vi (as := [.int i1, .int i2]) hX gi (zt_X8_toOf (d := d - 1) (by omega) g) zl_X0_75 rfl dX0_scanDoor_17 ⟨rfl, rfl, Nat.le_of_ble_eq_true rfl⟩ ⟨by omega, by omega⟩ ?_
  refine zw_istore hX dX0_scanDoor_20 (by decide) ?_
  refine zw_iload hX dX0_scanDoor_22 rfl ?_
  refine zw_istore hX dX0_scanDoor_24 (by decide) ?_
  obtain ⟨r, g, h⟩ := zb_some h
  refine zw_sub (lv' := [(0, .ref a0), (1, .int i1), (2, .int i2), (3, .int i3), (4, .int i4), (5, .int r3.1), (6, .int r6.1), (7, .int r3.1)]) (List.forall_mem_cons.mpr ⟨rfl, (List.forall_mem_cons.mpr ⟨rfl, (List.forall_mem_cons.mpr ⟨rfl, (List.forall_mem_cons.mpr ⟨rfl, (List.forall_mem_cons.mpr ⟨rfl, (List.forall_mem_cons.mpr ⟨rfl, (List.forall_mem_cons.mpr ⟨rfl, (List.forall_mem_cons.mpr ⟨rfl, zs_nil⟩)⟩)⟩)⟩)⟩)⟩)⟩)⟩) ?_
  refine zt_X0_scanDoor_L26 hX hr hR hd (res := r) (out := out) a0 i1 i2 i4 r3.1 r6.1 ?_ ?_ N _ _ _ g
  · intro o ho
    subst ho
    exact Option.some.inj h
  · intro v30 S29 hx
    subst hx
    try dsimp only at h
    refine zw_iload_n hX dX0_scanDoor_157 rfl ?_
    obtain rfl := Option.some.inj h
    exact zw_iret hX hr dX0_scanDoor_158 rfl ⟨rfl, rfl⟩
set_option maxHeartbeats 4000000 in
set_option maxRecDepth 100000 in
theorem zt_X0_scanLines_L18 {p : Program} {l : Launch} {e : Env} {R : Room} {s : State} {m : MethodId} {args : Array Value} {below : List Frame} {meth : Method} {c : Code} {V : zm_V} {mc ms d rc rs : Nat} (hX : zm_X p R s m args meth c RX0 "scanLines" cX0_scanLines 5 zk_E V mc ms) (hr : meth.sig.returnType = (some .int)) (hR : R.frames = d ∧ R.locals = 64 * d) (hd : 5 ≤ d) {N : Nat} {res : (Int32 × zm_S) ⊕ ((Int32) × zm_S)} {out : (Int32 × zm_S)} (a0 : Nat) (i1 : Int32) (i3 : Int32) (hf : ∀ o, res = .inl o → o = out) (hk : ∀ (x2 : Int32) (S' : zm_S), res = .inr (x2, S') → zw p l e R s m args below meth c (vx_MQ below (zm_Qc zk_E V (zo_i out)) (zm_XC zk_E V zo_x) args s mc ms (fun q => V.2.2.2.1 ≤ q)) 5 zk_E V mc ms 48 [(0, .ref a0), (1, .int i1), (2, .int x2), (3, .int i3)] [] S' rc rs) : ∀ (n : Nat) (i2 : Int32) (i4 : Int32) (S : zm_S), zf_X0_scanLines_L18 N n a0 i1 i2 i3 i4 S = some res → zw p l e R s m args below meth c (vx_MQ below (zm_Qc zk_E V (zo_i out)) (zm_XC zk_E V zo_x) args s mc ms (fun q => V.2.2.2.1 ≤ q)) 5 zk_E V mc ms 18 [(0, .ref a0), (1, .int i1), (2, .int i2), (3, .int i3), (4, .int i4)] [] S rc rs := by
  intro n
  induction n with
  | zero => intro i2 i4 S h; cases h
  | succ n ih =>
    intro i2 i4 S h
    rw [zf_X0_scanLines_L18] at h
    refine zw_iload hX dX0_scanLines_18 rfl ?_
    refine zw_aload_n hX dX0_scanLines_20 rfl ?_
    obtain ⟨b3, g, h⟩ := zb_some h
    refine zw_getr hX zl_X0_36 dX0_scanLines_21 g ?_
    obtain ⟨b4, g, h⟩ := zb_some h
    refine zw_getNr hX zl_X0_64 dX0_scanLines_24 g ?_
    refine zw_iload_n hX dX0_scanLines_27 rfl ?_
    obtain ⟨v5, g, h⟩ := zb_some h
    refine zw_xi hX dX0_scanLines_28 g ?_
    refine zw_icmp_ge (tgt := 48) hX dX0_scanLines_29 (by decide) (fun c29 => ?_) (fun c29 => ?_)
    · rw [if_pos c29] at h
      refine zw_sub (lv' := [(0, .ref a0), (1, .int i1), (2, .int i2), (3, .int i3)]) (List.forall_mem_cons.mpr ⟨rfl, (List.forall_mem_cons.mpr ⟨rfl, (List.forall_mem_cons.mpr ⟨rfl, (List.forall_mem_cons.mpr ⟨rfl, zs_nil⟩)⟩)⟩)⟩) ?_
      exact hk _ _ (Option.some.inj h).symm
    · rw [if_neg c29] at h
      refine zw_aload_n hX dX0_scanLines_32 rfl ?_
      refine zw_iload_n hX dX0_scanLines_33 rfl ?_
      refine zw_iload hX dX0_scanLines_34 rfl ?_
      refine zw_iload_n hX dX0_scanLines_36 rfl ?_
      refine zw_iload_n hX dX0_scanLines_37 rfl ?_
      obtain ⟨_, gi, h⟩ := zb_some h
      obtain ⟨r7, g, h⟩ := zb_some h
      refine zc_Vi (as := [.int i3, .int i4, .int i2, .int i1]) hX gi (zt_X0_scanDoor (d := d - 1) (by omega) g) zl_X0_67 rfl dX0_scanLines_38 ⟨rfl, rfl, Nat.le_of_ble_eq_true rfl⟩ ⟨by omega, by omega⟩ ?_
      refine zw_istore_n hX dX0_scanLines_41 (by decide) ?_
      refine zw_iinc (v := (i4 + (1 : Int32))) hX dX0_scanLines_42 rfl rfl (by decide) ?_
      refine zw_goto (tgt := 18) hX dX0_scanLines_45 (by decide) ?_
      refine zw_sub (lv' := [(0, .ref a0), (1, .int i1), (2, .int r7.1), (3, .int i3), (4, .int (i4 + (1 : Int32)))]) (List.forall_mem_cons.mpr ⟨rfl, (List.forall_mem_cons.mpr ⟨rfl, (List.forall_mem_cons.mpr ⟨rfl, (List.forall_mem_cons.mpr ⟨rfl, (List.forall_mem_cons.mpr ⟨rfl, zs_nil⟩)⟩)⟩)⟩)⟩) ?_
      exact ih _ _ _ h
set_option maxHeartbeats 4000000 in
set_option maxRecDepth 100000 in
theorem zt_X0_scanLines_L4 {p : Program} {l : Launch} {e : Env} {R : Room} {s : State} {m : MethodId} {args : Array Value} {below : List Frame} {meth : Method} {c : Code} {V : zm_V} {mc ms d rc rs : Nat} (hX : zm_X p R s m args meth c RX0 "scanLines" cX0_scanLines 5 zk_E V mc ms) (hr : meth.sig.returnType = (some .int)) (hR : R.frames = d ∧ R.locals = 64 * d) (hd : 5 ≤ d) {N : Nat} {res : (Int32 × zm_S) ⊕ ((Int32) × zm_S)} {out : (Int32 × zm_S)} (a0 : Nat) (i1 : Int32) (hf : ∀ o, res = .inl o → o = out) (hk : ∀ (x2 : Int32) (S' : zm_S), res = .inr (x2, S') → zw p l e R s m args below meth c (vx_MQ below (zm_Qc zk_E V (zo_i out)) (zm_XC zk_E V zo_x) args s mc ms (fun q => V.2.2.2.1 ≤ q)) 5 zk_E V mc ms 54 [(2, .int x2)] [] S' rc rs) : ∀ (n : Nat) (i2 : Int32) (i3 : Int32) (S : zm_S), zf_X0_scanLines_L4 N n a0 i1 i2 i3 S = some res → zw p l e R s m args below meth c (vx_MQ below (zm_Qc zk_E V (zo_i out)) (zm_XC zk_E V zo_x) args s mc ms (fun q => V.2.2.2.1 ≤ q)) 5 zk_E V mc ms 4 [(0, .ref a0), (1, .int i1), (2, .int i2), (3, .int i3)] [] S rc rs := by
  intro n
  induction n with
  | zero => intro i2 i3 S h; cases h
  | succ n ih =>
    intro i2 i3 S h
    rw [zf_X0_scanLines_L4] at h
    refine zw_iload_n hX dX0_scanLines_4 rfl ?_
    refine zw_aload_n hX dX0_scanLines_5 rfl ?_
    obtain ⟨b1, g, h⟩ := zb_some h
    refine zw_getr hX zl_X0_36 dX0_scanLines_6 g ?_
    obtain ⟨v2, g, h⟩ := zb_some h
    refine zw_getNi hX zl_X0_59 dX0_scanLines_9 g ?_
    refine zw_icmp_ge (tgt := 54) hX dX0_scanLines_12 (by decide) (fun c12 => ?_) (fun c12 => ?_)
    · rw [if_pos c12] at h
      refine zw_sub (lv' := [(2, .int i2)]) (List.forall_mem_cons.mpr ⟨rfl, zs_nil⟩) ?_
      exact hk _ _ (Option.some.inj h).symm
    · rw [if_neg c12] at h
      refine zw_iconst (v := (0 : Int32)) hX dX0_scanLines_15 (by decide) ?_
      refine zw_istore hX dX0_scanLines_16 (by decide) ?_
      obtain ⟨r, g, h⟩ := zb_some h
      refine zw_sub (lv' := [(0, .ref a0), (1, .int i1), (2, .int i2), (3, .int i3), (4, .int (0 : Int32))]) (List.forall_mem_cons.mpr ⟨rfl, (List.forall_mem_cons.mpr ⟨rfl, (List.forall_mem_cons.mpr ⟨rfl, (List.forall_mem_cons.mpr ⟨rfl, (List.forall_mem_cons.mpr ⟨rfl, zs_nil⟩)⟩)⟩)⟩)⟩) ?_
      refine zt_X0_scanLines_L18 hX hr hR hd (res := r) (out := out) a0 i1 i3 ?_ ?_ N _ _ _ g
      · intro o ho
        subst ho
        exact hf _ (Option.some.inj h).symm
      · intro v9 S8 hx
        subst hx
        try dsimp only at h
        refine zw_iinc (v := (i3 + (1 : Int32))) hX dX0_scanLines_48 rfl rfl (by decide) ?_
        refine zw_goto (tgt := 4) hX dX0_scanLines_51 (by decide) ?_
        refine zw_sub (lv' := [(0, .ref a0), (1, .int i1), (2, .int v9), (3, .int (i3 + (1 : Int32)))]) (List.forall_mem_cons.mpr ⟨rfl, (List.forall_mem_cons.mpr ⟨rfl, (List.forall_mem_cons.mpr ⟨rfl, (List.forall_mem_cons.mpr ⟨rfl, zs_nil⟩)⟩)⟩)⟩) ?_
        exact ih _ _ _ h
set_option maxHeartbeats 4000000 in
set_option maxRecDepth 100000 in
theorem zt_X0_scanLines {l : Launch} {V : zm_V} {N : Nat} {S : zm_S} {out : (Int32 × zm_S)} {d : Nat} {a0 : Nat} {i1 : Int32} (hd : 5 ≤ d) (h : zf_X0_scanLines N a0 i1 S = some out) : zm_Met l zk_E V yX0_scanLines (.code yX0_scanLines cX0_scanLines 5 (some .int)) d [.ref a0, .int i1] S 0 0 (zo_i out) zo_x := by
  refine zm_of (by decide +kernel) (Nat.le_of_ble_eq_true rfl) ?_
  intro p e R s m args below meth c hRR hX hr hxt
  have hR : R.frames = d ∧ R.locals = 64 * d := by rw [hRR]; exact ⟨rfl, rfl⟩
  have hX : zm_X p R s m args meth c RX0 "scanLines" cX0_scanLines 5 zk_E V 0 0 := hX
  unfold zf_X0_scanLines at h
  refine zw_sub (lv' := [(0, .ref a0), (1, .int i1)]) (List.forall_mem_cons.mpr ⟨rfl, (List.forall_mem_cons.mpr ⟨rfl, zs_nil⟩)⟩) ?_
  refine zw_iconst (v := (0 : Int32)) hX dX0_scanLines_0 (by decide) ?_
  refine zw_istore_n hX dX0_scanLines_1 (by decide) ?_
  refine zw_iconst (v := (0 : Int32)) hX dX0_scanLines_2 (by decide) ?_
  refine zw_istore_n hX dX0_scanLines_3 (by decide) ?_
  obtain ⟨r, g, h⟩ := zb_some h
  refine zw_sub (lv' := [(0, .ref a0), (1, .int i1), (2, .int (0 : Int32)), (3, .int (0 : Int32))]) (List.forall_mem_cons.mpr ⟨rfl, (List.forall_mem_cons.mpr ⟨rfl, (List.forall_mem_cons.mpr ⟨rfl, (List.forall_mem_cons.mpr ⟨rfl, zs_nil⟩)⟩)⟩)⟩) ?_
  refine zt_X0_scanLines_L4 hX hr hR hd (res := r) (out := out) a0 i1 ?_ ?_ N _ _ _ g
  · intro o ho
    subst ho
    exact Option.some.inj h
  · intro v11 S10 hx
    subst hx
    try dsimp only at h
    refine zw_iload_n hX dX0_scanLines_54 rfl ?_
    obtain rfl := Option.some.inj h
    exact zw_iret hX hr dX0_scanLines_55 rfl ⟨rfl, rfl⟩
set_option maxHeartbeats 4000000 in
set_option maxRecDepth 100000 in
theorem zt_X0_findPortals {l : Launch} {V : zm_V} {N : Nat} {S : zm_S} {out : (Unit × zm_S)} {d : Nat} {a0 : Nat} (hd : 6 ≤ d) (h : zf_X0_findPortals N a0 S = some out) : zm_Met l zk_E V yX0_findPortals (.code yX0_findPortals cX0_findPortals 2 none) d [.ref a0] S 3 124080 (zo_v out) zo_x := by
  refine zm_of (by decide +kernel) (Nat.le_of_ble_eq_true rfl) ?_
  intro p e R s m args below meth c hRR hX hr hxt
  have hR : R.frames = d ∧ R.locals = 64 * d := by rw [hRR]; exact ⟨rfl, rfl⟩
  have hX : zm_X p R s m args meth c RX0 "findPortals" cX0_findPortals 2 zk_E V 3 124080 := hX
  unfold zf_X0_findPortals at h
  refine zw_sub (lv' := [(0, .ref a0)]) (List.forall_mem_cons.mpr ⟨rfl, zs_nil⟩) ?_
  refine zw_aload_n hX dX0_findPortals_0 rfl ?_
  refine zw_iconst (v := (0 : Int32)) hX dX0_findPortals_1 (by decide) ?_
  obtain ⟨_, gi, h⟩ := zb_some h
  obtain ⟨r2, g, h⟩ := zb_some h
  refine zc_Vi (as := [.int (0 : Int32)]) hX gi (zt_X0_scanLines (d := d - 1) (by omega) g) zl_X0_48 rfl dX0_findPortals_2 ⟨rfl, rfl, Nat.le_of_ble_eq_true rfl⟩ ⟨by omega, by omega⟩ ?_
  refine zw_istore_n hX dX0_findPortals_5 (by decide) ?_
  refine zw_aload_n hX dX0_findPortals_6 rfl ?_
  refine zw_iload_n hX dX0_findPortals_7 rfl ?_
  refine zw_bipush (v := (13 : Int32)) hX dX0_findPortals_8 (by decide) ?_
  refine zw_imul hX dX0_findPortals_10 ?_
  obtain ⟨S3, g, h⟩ := zb_some h
  refine zw_ni (b := 17160) hX zk_ai dX0_findPortals_11 (by omega) (by omega) (by decide) g ?_
  obtain ⟨S4, g, h⟩ := zb_some h
  refine zw_putv hX zl_X0_9 zt_0_4 dX0_findPortals_13 rfl rfl g ?_
  refine zw_aload_n hX dX0_findPortals_16 rfl ?_
  refine zw_iload_n hX dX0_findPortals_17 rfl ?_
  refine zw_bipush (v := (20 : Int32)) hX dX0_findPortals_18 (by decide) ?_
  refine zw_imul hX dX0_findPortals_20 ?_
  refine zw_iconst (v := (3 : Int32)) hX dX0_findPortals_21 (by decide) ?_
  refine zw_imul hX dX0_findPortals_22 ?_
  obtain ⟨S5, g, h⟩ := zb_some h
  refine zw_ni (b := 79200) hX zk_ai dX0_findPortals_23 (by omega) (by omega) (by decide) g ?_
  obtain ⟨S6, g, h⟩ := zb_some h
  refine zw_putv hX zl_X0_15 zt_0_5 dX0_findPortals_25 rfl rfl g ?_
  refine zw_aload_n hX dX0_findPortals_28 rfl ?_
  refine zw_iload_n hX dX0_findPortals_29 rfl ?_
  refine zw_bipush (v := (63 : Int32)) hX dX0_findPortals_30 (by decide) ?_
  refine zw_iadd hX dX0_findPortals_32 ?_
  refine zw_bipush (v := (64 : Int32)) hX dX0_findPortals_33 (by decide) ?_
  refine zw_idiv hX dX0_findPortals_35 (by decide) ?_
  obtain ⟨S7, g, h⟩ := zb_some h
  refine zw_putv hX zl_X0_52 zt_0_7 dX0_findPortals_36 rfl rfl g ?_
  refine zw_aload_n hX dX0_findPortals_39 rfl ?_
  refine zw_iload_n hX dX0_findPortals_40 rfl ?_
  refine zw_aload_n hX dX0_findPortals_41 rfl ?_
  obtain ⟨v8, g, h⟩ := zb_some h
  refine zw_geti hX zl_X0_52 dX0_findPortals_42 g ?_
  refine zw_imul hX dX0_findPortals_45 ?_
  obtain ⟨S9, g, h⟩ := zb_some h
  refine zw_nl (b := 27720) hX zk_al dX0_findPortals_46 (by omega) (by omega) (by decide) g ?_
  obtain ⟨S10, g, h⟩ := zb_some h
  refine zw_putv hX zl_X0_18 zt_0_6 dX0_findPortals_48 rfl rfl g ?_
  refine zw_aload_n hX dX0_findPortals_51 rfl ?_
  refine zw_iload_n hX dX0_findPortals_52 rfl ?_
  obtain ⟨S11, g, h⟩ := zb_some h
  refine zw_putv hX zl_X0_56 zt_0_3 dX0_findPortals_53 rfl rfl g ?_
  refine zw_aload_n hX dX0_findPortals_56 rfl ?_
  refine zw_iconst (v := (1 : Int32)) hX dX0_findPortals_57 (by decide) ?_
  obtain ⟨_, gi, h⟩ := zb_some h
  obtain ⟨r13, g, h⟩ := zb_some h
  refine zc_Vi (as := [.int (1 : Int32)]) hX gi (zt_X0_scanLines (d := d - 1) (by omega) g) zl_X0_48 rfl dX0_findPortals_58 ⟨rfl, rfl, Nat.le_of_ble_eq_true rfl⟩ ⟨by omega, by omega⟩ ?_
  refine zw_pop hX dX0_findPortals_61 rfl ?_
  obtain rfl := Option.some.inj h
  exact zw_vret hX hr dX0_findPortals_62 ⟨rfl, rfl⟩
set_option maxHeartbeats 4000000 in
set_option maxRecDepth 100000 in
theorem zt_X0_factOf {l : Launch} {V : zm_V} {N : Nat} {S : zm_S} {out : (Int32 × zm_S)} {d : Nat} {a0 : Nat} {i1 : Int32} {i2 : Int32} (hd : 1 ≤ d) (h : zf_X0_factOf N a0 i1 i2 S = some out) : zm_Met l zk_E V yX0_factOf (.code yX0_factOf cX0_factOf 3 (some .int)) d [.ref a0, .int i1, .int i2] S 0 0 (zo_i out) zo_x := by
  refine zm_of (by decide +kernel) (Nat.le_of_ble_eq_true rfl) ?_
  intro p e R s m args below meth c hRR hX hr hxt
  have hR : R.frames = d ∧ R.locals = 64 * d := by rw [hRR]; exact ⟨rfl, rfl⟩
  have hX : zm_X p R s m args meth c RX0 "factOf" cX0_factOf 3 zk_E V 0 0 := hX
  unfold zf_X0_factOf at h
  refine zw_sub (lv' := [(0, .ref a0), (1, .int i1), (2, .int i2)]) (List.forall_mem_cons.mpr ⟨rfl, (List.forall_mem_cons.mpr ⟨rfl, (List.forall_mem_cons.mpr ⟨rfl, zs_nil⟩)⟩)⟩) ?_
  refine zw_aload_n hX dX0_factOf_0 rfl ?_
  obtain ⟨b1, g, h⟩ := zb_some h
  refine zw_getr hX zl_X0_9 dX0_factOf_1 g ?_
  refine zw_iload_n hX dX0_factOf_4 rfl ?_
  refine zw_bipush (v := (13 : Int32)) hX dX0_factOf_5 (by decide) ?_
  refine zw_imul hX dX0_factOf_7 ?_
  refine zw_iload_n hX dX0_factOf_8 rfl ?_
  refine zw_iadd hX dX0_factOf_9 ?_
  obtain ⟨v2, g, h⟩ := zb_some h
  refine zw_xi hX dX0_factOf_10 g ?_
  obtain rfl := Option.some.inj h
  exact zw_iret hX hr dX0_factOf_11 rfl ⟨rfl, rfl⟩
set_option maxHeartbeats 4000000 in
set_option maxRecDepth 100000 in
theorem zt_X0_isRoomOf {l : Launch} {V : zm_V} {N : Nat} {S : zm_S} {out : (Int32 × zm_S)} {d : Nat} {a0 : Nat} {i1 : Int32} {i2 : Int32} (hd : 2 ≤ d) (h : zf_X0_isRoomOf N a0 i1 i2 S = some out) : zm_Met l zk_E V yX0_isRoomOf (.code yX0_isRoomOf cX0_isRoomOf 3 (some .boolean)) d [.ref a0, .int i1, .int i2] S 0 0 (zo_i out) zo_x := by
  refine zm_of (by decide +kernel) (Nat.le_of_ble_eq_true rfl) ?_
  intro p e R s m args below meth c hRR hX hr hxt
  have hR : R.frames = d ∧ R.locals = 64 * d := by rw [hRR]; exact ⟨rfl, rfl⟩
  have hX : zm_X p R s m args meth c RX0 "isRoomOf" cX0_isRoomOf 3 zk_E V 0 0 := hX
  unfold zf_X0_isRoomOf at h
  refine zw_sub (lv' := [(0, .ref a0), (1, .int i1), (2, .int i2)]) (List.forall_mem_cons.mpr ⟨rfl, (List.forall_mem_cons.mpr ⟨rfl, (List.forall_mem_cons.mpr ⟨rfl, zs_nil⟩)⟩)⟩) ?_
  refine zw_aload_n hX dX0_isRoomOf_0 rfl ?_
  refine zw_iload_n hX dX0_isRoomOf_1 rfl ?_
  refine zw_iconst (v := (0 : Int32)) hX dX0_isRoomOf_2 (by decide) ?_
  obtain ⟨_, gi, h⟩ := zb_some h
  obtain ⟨r2, g, h⟩ := zb_some h
  refine zc_Vi (as := [.int i1, .int (0 : Int32)]) hX gi (zt_X0_factOf (d := d - 1) (by omega) g) zl_X0_117 rfl dX0_isRoomOf_3 ⟨rfl, rfl, Nat.le_of_ble_eq_true rfl⟩ ⟨by omega, by omega⟩ ?_
  refine zw_iload_n hX dX0_isRoomOf_6 rfl ?_
  refine zw_icmp_eq (tgt := 20) hX dX0_isRoomOf_7 (by decide) (fun c7 => ?_) (fun c7 => ?_)
  · rw [if_pos c7] at h
    refine zw_iconst (v := (1 : Int32)) hX dX0_isRoomOf_20 (by decide) ?_
    refine zw_goto (tgt := 25) hX dX0_isRoomOf_21 (by decide) ?_
    obtain rfl := Option.some.inj h
    exact zw_iret hX hr dX0_isRoomOf_25 rfl ⟨rfl, rfl⟩
  · rw [if_neg c7] at h
    refine zw_aload_n hX dX0_isRoomOf_10 rfl ?_
    refine zw_iload_n hX dX0_isRoomOf_11 rfl ?_
    refine zw_iconst (v := (1 : Int32)) hX dX0_isRoomOf_12 (by decide) ?_
    obtain ⟨_, gi, h⟩ := zb_some h
    obtain ⟨r4, g, h⟩ := zb_some h
    refine zc_Vi (as := [.int i1, .int (1 : Int32)]) hX gi (zt_X0_factOf (d := d - 1) (by omega) g) zl_X0_117 rfl dX0_isRoomOf_13 ⟨rfl, rfl, Nat.le_of_ble_eq_true rfl⟩ ⟨by omega, by omega⟩ ?_
    refine zw_iload_n hX dX0_isRoomOf_16 rfl ?_
    refine zw_icmp_ne (tgt := 24) hX dX0_isRoomOf_17 (by decide) (fun c17 => ?_) (fun c17 => ?_)
    · rw [if_neg c17] at h
      refine zw_iconst (v := (0 : Int32)) hX dX0_isRoomOf_24 (by decide) ?_
      obtain rfl := Option.some.inj h
      exact zw_iret hX hr dX0_isRoomOf_25 rfl ⟨rfl, rfl⟩
    · rw [if_pos c17] at h
      refine zw_iconst (v := (1 : Int32)) hX dX0_isRoomOf_20 (by decide) ?_
      refine zw_goto (tgt := 25) hX dX0_isRoomOf_21 (by decide) ?_
      obtain rfl := Option.some.inj h
      exact zw_iret hX hr dX0_isRoomOf_25 rfl ⟨rfl, rfl⟩
set_option maxHeartbeats 4000000 in
set_option maxRecDepth 100000 in
theorem zt_X0_isOff {l : Launch} {V : zm_V} {N : Nat} {S : zm_S} {out : (Int32 × zm_S)} {d : Nat} {a0 : Nat} {i1 : Int32} (hd : 2 ≤ d) (h : zf_X0_isOff N a0 i1 S = some out) : zm_Met l zk_E V yX0_isOff (.code yX0_isOff cX0_isOff 2 (some .boolean)) d [.ref a0, .int i1] S 0 0 (zo_i out) zo_x := by
  refine zm_of (by decide +kernel) (Nat.le_of_ble_eq_true rfl) ?_
  intro p e R s m args below meth c hRR hX hr hxt
  have hR : R.frames = d ∧ R.locals = 64 * d := by rw [hRR]; exact ⟨rfl, rfl⟩
  have hX : zm_X p R s m args meth c RX0 "isOff" cX0_isOff 2 zk_E V 0 0 := hX
  unfold zf_X0_isOff at h
  refine zw_sub (lv' := [(0, .ref a0), (1, .int i1)]) (List.forall_mem_cons.mpr ⟨rfl, (List.forall_mem_cons.mpr ⟨rfl, zs_nil⟩)⟩) ?_
  refine zw_aload_n hX dX0_isOff_0 rfl ?_
  refine zw_iload_n hX dX0_isOff_1 rfl ?_
  refine zw_bipush (v := (11 : Int32)) hX dX0_isOff_2 (by decide) ?_
  obtain ⟨_, gi, h⟩ := zb_some h
  obtain ⟨r2, g, h⟩ := zb_some h
  refine zc_Vi (as := [.int i1, .int (11 : Int32)]) hX gi (zt_X0_factOf (d := d - 1) (by omega) g) zl_X0_117 rfl dX0_isOff_4 ⟨rfl, rfl, Nat.le_of_ble_eq_true rfl⟩ ⟨by omega, by omega⟩ ?_
  refine zw_iconst (v := (-1 : Int32)) hX dX0_isOff_7 (by decide) ?_
  refine zw_icmp_eq (tgt := 15) hX dX0_isOff_8 (by decide) (fun c8 => ?_) (fun c8 => ?_)
  · rw [if_pos c8] at h
    refine zw_iconst (v := (0 : Int32)) hX dX0_isOff_15 (by decide) ?_
    obtain rfl := Option.some.inj h
    exact zw_iret hX hr dX0_isOff_16 rfl ⟨rfl, rfl⟩
  · rw [if_neg c8] at h
    refine zw_iconst (v := (1 : Int32)) hX dX0_isOff_11 (by decide) ?_
    refine zw_goto (tgt := 16) hX dX0_isOff_12 (by decide) ?_
    obtain rfl := Option.some.inj h
    exact zw_iret hX hr dX0_isOff_16 rfl ⟨rfl, rfl⟩
set_option maxHeartbeats 4000000 in
set_option maxRecDepth 100000 in
theorem zt_X0_hasRoomForRows {l : Launch} {V : zm_V} {N : Nat} {S : zm_S} {out : (Int32 × zm_S)} {d : Nat} {a0 : Nat} {i1 : Int32} {i2 : Int32} (hd : 3 ≤ d) (h : zf_X0_hasRoomForRows N a0 i1 i2 S = some out) : zm_Met l zk_E V yX0_hasRoomForRows (.code yX0_hasRoomForRows cX0_hasRoomForRows 3 (some .boolean)) d [.ref a0, .int i1, .int i2] S 0 0 (zo_i out) zo_x := by
  refine zm_of (by decide +kernel) (Nat.le_of_ble_eq_true rfl) ?_
  intro p e R s m args below meth c hRR hX hr hxt
  have hR : R.frames = d ∧ R.locals = 64 * d := by rw [hRR]; exact ⟨rfl, rfl⟩
  have hX : zm_X p R s m args meth c RX0 "hasRoomForRows" cX0_hasRoomForRows 3 zk_E V 0 0 := hX
  unfold zf_X0_hasRoomForRows at h
  refine zw_sub (lv' := [(0, .ref a0), (1, .int i1), (2, .int i2)]) (List.forall_mem_cons.mpr ⟨rfl, (List.forall_mem_cons.mpr ⟨rfl, (List.forall_mem_cons.mpr ⟨rfl, zs_nil⟩)⟩)⟩) ?_
  refine zw_aload_n hX dX0_hasRoomForRows_0 rfl ?_
  refine zw_iload_n hX dX0_hasRoomForRows_1 rfl ?_
  obtain ⟨_, gi, h⟩ := zb_some h
  obtain ⟨r2, g, h⟩ := zb_some h
  refine zc_Vi (as := [.int i1]) hX gi (zt_X0_isOff (d := d - 1) (by omega) g) zl_X0_120 rfl dX0_hasRoomForRows_2 ⟨rfl, rfl, Nat.le_of_ble_eq_true rfl⟩ ⟨by omega, by omega⟩ ?_
  refine zw_if_eq (tgt := 22) hX dX0_hasRoomForRows_5 (by decide) (fun c5 => ?_) (fun c5 => ?_)
  · rw [if_pos c5] at h
    refine zw_iconst (v := (1 : Int32)) hX dX0_hasRoomForRows_22 (by decide) ?_
    refine zw_goto (tgt := 27) hX dX0_hasRoomForRows_23 (by decide) ?_
    obtain rfl := Option.some.inj h
    exact zw_iret hX hr dX0_hasRoomForRows_27 rfl ⟨rfl, rfl⟩
  · rw [if_neg c5] at h
    refine zw_aload_n hX dX0_hasRoomForRows_8 rfl ?_
    refine zw_iload_n hX dX0_hasRoomForRows_9 rfl ?_
    refine zw_bipush (v := (12 : Int32)) hX dX0_hasRoomForRows_10 (by decide) ?_
    obtain ⟨_, gi, h⟩ := zb_some h
    obtain ⟨r4, g, h⟩ := zb_some h
    refine zc_Vi (as := [.int i1, .int (12 : Int32)]) hX gi (zt_X0_factOf (d := d - 1) (by omega) g) zl_X0_117 rfl dX0_hasRoomForRows_12 ⟨rfl, rfl, Nat.le_of_ble_eq_true rfl⟩ ⟨by omega, by omega⟩ ?_
    refine zw_iload_n hX dX0_hasRoomForRows_15 rfl ?_
    refine zw_iadd hX dX0_hasRoomForRows_16 ?_
    refine zw_bipush (v := (20 : Int32)) hX dX0_hasRoomForRows_17 (by decide) ?_
    refine zw_icmp_gt (tgt := 26) hX dX0_hasRoomForRows_19 (by decide) (fun c19 => ?_) (fun c19 => ?_)
    · rw [if_pos c19] at h
      refine zw_iconst (v := (0 : Int32)) hX dX0_hasRoomForRows_26 (by decide) ?_
      obtain rfl := Option.some.inj h
      exact zw_iret hX hr dX0_hasRoomForRows_27 rfl ⟨rfl, rfl⟩
    · rw [if_neg c19] at h
      refine zw_iconst (v := (1 : Int32)) hX dX0_hasRoomForRows_22 (by decide) ?_
      refine zw_goto (tgt := 27) hX dX0_hasRoomForRows_23 (by decide) ?_
      obtain rfl := Option.some.inj h
      exact zw_iret hX hr dX0_hasRoomForRows_27 rfl ⟨rfl, rfl⟩
set_option maxHeartbeats 4000000 in
set_option maxRecDepth 100000 in
theorem zt_X0_addCard {l : Launch} {V : zm_V} {N : Nat} {S : zm_S} {out : (Int32 × zm_S)} {d : Nat} {a0 : Nat} {i1 : Int32} {i2 : Int32} (hd : 1 ≤ d) (h : zf_X0_addCard N a0 i1 i2 S = some out) : zm_Met l zk_E V yX0_addCard (.code yX0_addCard cX0_addCard 4 (some .int)) d [.ref a0, .int i1, .int i2] S 0 0 (zo_i out) zo_x := by
  refine zm_of (by decide +kernel) (Nat.le_of_ble_eq_true rfl) ?_
  intro p e R s m args below meth c hRR hX hr hxt
  have hR : R.frames = d ∧ R.locals = 64 * d := by rw [hRR]; exact ⟨rfl, rfl⟩
  have hX : zm_X p R s m args meth c RX0 "addCard" cX0_addCard 4 zk_E V 0 0 := hX
  unfold zf_X0_addCard at h
  refine zw_sub (lv' := [(0, .ref a0), (1, .int i1), (2, .int i2)]) (List.forall_mem_cons.mpr ⟨rfl, (List.forall_mem_cons.mpr ⟨rfl, (List.forall_mem_cons.mpr ⟨rfl, zs_nil⟩)⟩)⟩) ?_
  refine zw_aload_n hX dX0_addCard_0 rfl ?_
  obtain ⟨v1, g, h⟩ := zb_some h
  refine zw_geti hX zl_X0_123 dX0_addCard_1 g ?_
  refine zw_bipush (v := (60 : Int32)) hX dX0_addCard_4 (by decide) ?_
  refine zw_icmp_lt (tgt := 11) hX dX0_addCard_6 (by decide) (fun c6 => ?_) (fun c6 => ?_)
  · rw [if_pos c6] at h
    refine zw_aload_n hX dX0_addCard_11 rfl ?_
    obtain ⟨b2, g, h⟩ := zb_some h
    refine zw_getr hX zl_X0_24 dX0_addCard_12 g ?_
    refine zw_aload_n hX dX0_addCard_15 rfl ?_
    obtain ⟨v3, g, h⟩ := zb_some h
    refine zw_geti hX zl_X0_123 dX0_addCard_16 g ?_
    obtain ⟨b4, g, h⟩ := zb_some h
    refine zw_xr hX dX0_addCard_19 g ?_
    refine zw_astore_n hX dX0_addCard_20 (by decide) ?_
    refine zw_aload_n hX dX0_addCard_21 rfl ?_
    refine zw_iconst (v := (0 : Int32)) hX dX0_addCard_22 (by decide) ?_
    refine zw_iload_n hX dX0_addCard_23 rfl ?_
    obtain ⟨S5, g, h⟩ := zb_some h
    refine zw_si hX dX0_addCard_24 g ?_
    refine zw_aload_n hX dX0_addCard_25 rfl ?_
    refine zw_iconst (v := (1 : Int32)) hX dX0_addCard_26 (by decide) ?_
    refine zw_iload_n hX dX0_addCard_27 rfl ?_
    obtain ⟨S6, g, h⟩ := zb_some h
    refine zw_si hX dX0_addCard_28 g ?_
    refine zw_aload_n hX dX0_addCard_29 rfl ?_
    refine zw_iconst (v := (2 : Int32)) hX dX0_addCard_30 (by decide) ?_
    refine zw_aload_n hX dX0_addCard_31 rfl ?_
    obtain ⟨v7, g, h⟩ := zb_some h
    refine zw_geti hX zl_X0_126 dX0_addCard_32 g ?_
    obtain ⟨S8, g, h⟩ := zb_some h
    refine zw_si hX dX0_addCard_35 g ?_
    refine zw_aload_n hX dX0_addCard_36 rfl ?_
    refine zw_dup hX dX0_addCard_37 rfl ?_
    obtain ⟨v9, g, h⟩ := zb_some h
    refine zw_geti hX zl_X0_126 dX0_addCard_38 g ?_
    refine zw_iconst (v := (1 : Int32)) hX dX0_addCard_41 (by decide) ?_
    refine zw_iadd hX dX0_addCard_42 ?_
    obtain ⟨S10, g, h⟩ := zb_some h
    refine zw_putv hX zl_X0_126 zt_0_12 dX0_addCard_43 rfl rfl g ?_
    refine zw_aload_n hX dX0_addCard_46 rfl ?_
    refine zw_dup hX dX0_addCard_47 rfl ?_
    obtain ⟨v11, g, h⟩ := zb_some h
    refine zw_geti hX zl_X0_123 dX0_addCard_48 g ?_
    refine zw_iconst (v := (1 : Int32)) hX dX0_addCard_51 (by decide) ?_
    refine zw_iadd hX dX0_addCard_52 ?_
    obtain ⟨S12, g, h⟩ := zb_some h
    refine zw_putv hX zl_X0_123 zt_0_8 dX0_addCard_53 rfl rfl g ?_
    refine zw_aload_n hX dX0_addCard_56 rfl ?_
    obtain ⟨v13, g, h⟩ := zb_some h
    refine zw_geti hX zl_X0_123 dX0_addCard_57 g ?_
    refine zw_iconst (v := (1 : Int32)) hX dX0_addCard_60 (by decide) ?_
    refine zw_isub hX dX0_addCard_61 ?_
    obtain rfl := Option.some.inj h
    exact zw_iret hX hr dX0_addCard_62 rfl ⟨rfl, rfl⟩
  · rw [if_neg c6] at h
    refine zw_iconst (v := (-1 : Int32)) hX dX0_addCard_9 (by decide) ?_
    obtain rfl := Option.some.inj h
    exact zw_iret hX hr dX0_addCard_10 rfl ⟨rfl, rfl⟩
set_option maxHeartbeats 4000000 in
set_option maxRecDepth 100000 in
theorem zt_X0_addRight {l : Launch} {V : zm_V} {N : Nat} {S : zm_S} {out : (Int32 × zm_S)} {d : Nat} {a0 : Nat} {i1 : Int32} {i2 : Int32} {i3 : Int32} {i4 : Int32} {i5 : Int32} (hd : 1 ≤ d) (h : zf_X0_addRight N a0 i1 i2 i3 i4 i5 S = some out) : zm_Met l zk_E V yX0_addRight (.code yX0_addRight cX0_addRight 7 (some .int)) d [.ref a0, .int i1, .int i2, .int i3, .int i4, .int i5] S 0 0 (zo_i out) zo_x := by
  refine zm_of (by decide +kernel) (Nat.le_of_ble_eq_true rfl) ?_
  intro p e R s m args below meth c hRR hX hr hxt
  have hR : R.frames = d ∧ R.locals = 64 * d := by rw [hRR]; exact ⟨rfl, rfl⟩
  have hX : zm_X p R s m args meth c RX0 "addRight" cX0_addRight 7 zk_E V 0 0 := hX
  unfold zf_X0_addRight at h
  refine zw_sub (lv' := [(0, .ref a0), (1, .int i1), (2, .int i2), (3, .int i3), (4, .int i4), (5, .int i5)]) (List.forall_mem_cons.mpr ⟨rfl, (List.forall_mem_cons.mpr ⟨rfl, (List.forall_mem_cons.mpr ⟨rfl, (List.forall_mem_cons.mpr ⟨rfl, (List.forall_mem_cons.mpr ⟨rfl, (List.forall_mem_cons.mpr ⟨rfl, zs_nil⟩)⟩)⟩)⟩)⟩)⟩) ?_
  refine zw_aload_n hX dX0_addRight_0 rfl ?_
  obtain ⟨v1, g, h⟩ := zb_some h
  refine zw_geti hX zl_X0_129 dX0_addRight_1 g ?_
  refine zw_bipush (v := (16 : Int32)) hX dX0_addRight_4 (by decide) ?_
  refine zw_icmp_lt (tgt := 11) hX dX0_addRight_6 (by decide) (fun c6 => ?_) (fun c6 => ?_)
  · rw [if_pos c6] at h
    refine zw_aload_n hX dX0_addRight_11 rfl ?_
    obtain ⟨b2, g, h⟩ := zb_some h
    refine zw_getr hX zl_X0_27 dX0_addRight_12 g ?_
    refine zw_aload_n hX dX0_addRight_15 rfl ?_
    obtain ⟨v3, g, h⟩ := zb_some h
    refine zw_geti hX zl_X0_129 dX0_addRight_16 g ?_
    obtain ⟨b4, g, h⟩ := zb_some h
    refine zw_xr hX dX0_addRight_19 g ?_
    refine zw_astore hX dX0_addRight_20 (by decide) ?_
    refine zw_aload hX dX0_addRight_22 rfl ?_
    refine zw_iconst (v := (0 : Int32)) hX dX0_addRight_24 (by decide) ?_
    refine zw_iload_n hX dX0_addRight_25 rfl ?_
    obtain ⟨S5, g, h⟩ := zb_some h
    refine zw_si hX dX0_addRight_26 g ?_
    refine zw_aload hX dX0_addRight_27 rfl ?_
    refine zw_iconst (v := (1 : Int32)) hX dX0_addRight_29 (by decide) ?_
    refine zw_iload_n hX dX0_addRight_30 rfl ?_
    obtain ⟨S6, g, h⟩ := zb_some h
    refine zw_si hX dX0_addRight_31 g ?_
    refine zw_aload hX dX0_addRight_32 rfl ?_
    refine zw_iconst (v := (2 : Int32)) hX dX0_addRight_34 (by decide) ?_
    refine zw_iload_n hX dX0_addRight_35 rfl ?_
    obtain ⟨S7, g, h⟩ := zb_some h
    refine zw_si hX dX0_addRight_36 g ?_
    refine zw_aload hX dX0_addRight_37 rfl ?_
    refine zw_iconst (v := (3 : Int32)) hX dX0_addRight_39 (by decide) ?_
    refine zw_iload hX dX0_addRight_40 rfl ?_
    obtain ⟨S8, g, h⟩ := zb_some h
    refine zw_si hX dX0_addRight_42 g ?_
    refine zw_aload hX dX0_addRight_43 rfl ?_
    refine zw_iconst (v := (4 : Int32)) hX dX0_addRight_45 (by decide) ?_
    refine zw_iload hX dX0_addRight_46 rfl ?_
    obtain ⟨S9, g, h⟩ := zb_some h
    refine zw_si hX dX0_addRight_48 g ?_
    refine zw_aload hX dX0_addRight_49 rfl ?_
    refine zw_iconst (v := (5 : Int32)) hX dX0_addRight_51 (by decide) ?_
    refine zw_aload_n hX dX0_addRight_52 rfl ?_
    obtain ⟨v10, g, h⟩ := zb_some h
    refine zw_geti hX zl_X0_126 dX0_addRight_53 g ?_
    obtain ⟨S11, g, h⟩ := zb_some h
    refine zw_si hX dX0_addRight_56 g ?_
    refine zw_aload_n hX dX0_addRight_57 rfl ?_
    refine zw_dup hX dX0_addRight_58 rfl ?_
    obtain ⟨v12, g, h⟩ := zb_some h
    refine zw_geti hX zl_X0_126 dX0_addRight_59 g ?_
    refine zw_iconst (v := (1 : Int32)) hX dX0_addRight_62 (by decide) ?_
    refine zw_iadd hX dX0_addRight_63 ?_
    obtain ⟨S13, g, h⟩ := zb_some h
    refine zw_putv hX zl_X0_126 zt_0_12 dX0_addRight_64 rfl rfl g ?_
    refine zw_aload_n hX dX0_addRight_67 rfl ?_
    refine zw_dup hX dX0_addRight_68 rfl ?_
    obtain ⟨v14, g, h⟩ := zb_some h
    refine zw_geti hX zl_X0_129 dX0_addRight_69 g ?_
    refine zw_iconst (v := (1 : Int32)) hX dX0_addRight_72 (by decide) ?_
    refine zw_iadd hX dX0_addRight_73 ?_
    obtain ⟨S15, g, h⟩ := zb_some h
    refine zw_putv hX zl_X0_129 zt_0_10 dX0_addRight_74 rfl rfl g ?_
    refine zw_aload_n hX dX0_addRight_77 rfl ?_
    obtain ⟨v16, g, h⟩ := zb_some h
    refine zw_geti hX zl_X0_129 dX0_addRight_78 g ?_
    refine zw_iconst (v := (1 : Int32)) hX dX0_addRight_81 (by decide) ?_
    refine zw_isub hX dX0_addRight_82 ?_
    obtain rfl := Option.some.inj h
    exact zw_iret hX hr dX0_addRight_83 rfl ⟨rfl, rfl⟩
  · rw [if_neg c6] at h
    refine zw_iconst (v := (-1 : Int32)) hX dX0_addRight_9 (by decide) ?_
    obtain rfl := Option.some.inj h
    exact zw_iret hX hr dX0_addRight_10 rfl ⟨rfl, rfl⟩
set_option maxHeartbeats 4000000 in
set_option maxRecDepth 100000 in
theorem zt_X0_latestNote_L7 {p : Program} {l : Launch} {e : Env} {R : Room} {s : State} {m : MethodId} {args : Array Value} {below : List Frame} {meth : Method} {c : Code} {V : zm_V} {mc ms d rc rs : Nat} (hX : zm_X p R s m args meth c RX0 "latestNote" cX0_latestNote 4 zk_E V mc ms) (hr : meth.sig.returnType = (some .int)) (hR : R.frames = d ∧ R.locals = 64 * d) (hd : 1 ≤ d) {N : Nat} {res : (Int32 × zm_S) ⊕ ((Unit) × zm_S)} {out : (Int32 × zm_S)} (a0 : Nat) (i1 : Int32) (i2 : Int32) (hf : ∀ o, res = .inl o → o = out) (hk : ∀ (S' : zm_S), res = .inr ((), S') → zw p l e R s m args below meth c (vx_MQ below (zm_Qc zk_E V (zo_i out)) (zm_XC zk_E V zo_x) args s mc ms (fun q => V.2.2.2.1 ≤ q)) 4 zk_E V mc ms 54 [] [] S' rc rs) : ∀ (n : Nat) (i3 : Int32) (S : zm_S), zf_X0_latestNote_L7 N n a0 i1 i2 i3 S = some res → zw p l e R s m args below meth c (vx_MQ below (zm_Qc zk_E V (zo_i out)) (zm_XC zk_E V zo_x) args s mc ms (fun q => V.2.2.2.1 ≤ q)) 4 zk_E V mc ms 7 [(0, .ref a0), (1, .int i1), (2, .int i2), (3, .int i3)] [] S rc rs := by
  intro n
  induction n with
  | zero => intro i3 S h; cases h
  | succ n ih =>
    intro i3 S h
    rw [zf_X0_latestNote_L7] at h
    refine zw_iload_n hX dX0_latestNote_7 rfl ?_
    refine zw_if_lt (tgt := 54) hX dX0_latestNote_8 (by decide) (fun c8 => ?_) (fun c8 => ?_)
    · rw [if_pos c8] at h
      refine zw_sub (lv' := []) zs_nil ?_
      exact hk  _ (Option.some.inj h).symm
    · rw [if_neg c8] at h
      refine zw_aload_n hX dX0_latestNote_11 rfl ?_
      obtain ⟨b2, g, h⟩ := zb_some h
      refine zw_getr hX zl_X0_30 dX0_latestNote_12 g ?_
      refine zw_iconst (v := (3 : Int32)) hX dX0_latestNote_15 (by decide) ?_
      refine zw_iload_n hX dX0_latestNote_16 rfl ?_
      refine zw_imul hX dX0_latestNote_17 ?_
      obtain ⟨v3, g, h⟩ := zb_some h
      refine zw_xi hX dX0_latestNote_18 g ?_
      refine zw_iload_n hX dX0_latestNote_19 rfl ?_
      refine zw_icmp_ne (tgt := 48) hX dX0_latestNote_20 (by decide) (fun c20 => ?_) (fun c20 => ?_)
      · rw [if_neg c20] at h
        refine zw_iinc (v := (i3 + (-1 : Int32))) hX dX0_latestNote_48 rfl rfl (by decide) ?_
        refine zw_goto (tgt := 7) hX dX0_latestNote_51 (by decide) ?_
        refine zw_sub (lv' := [(0, .ref a0), (1, .int i1), (2, .int i2), (3, .int (i3 + (-1 : Int32)))]) (List.forall_mem_cons.mpr ⟨rfl, (List.forall_mem_cons.mpr ⟨rfl, (List.forall_mem_cons.mpr ⟨rfl, (List.forall_mem_cons.mpr ⟨rfl, zs_nil⟩)⟩)⟩)⟩) ?_
        exact ih _ _ h
      · rw [if_pos c20] at h
        refine zw_aload_n hX dX0_latestNote_23 rfl ?_
        obtain ⟨b4, g, h⟩ := zb_some h
        refine zw_getr hX zl_X0_30 dX0_latestNote_24 g ?_
        refine zw_iconst (v := (3 : Int32)) hX dX0_latestNote_27 (by decide) ?_
        refine zw_iload_n hX dX0_latestNote_28 rfl ?_
        refine zw_imul hX dX0_latestNote_29 ?_
        refine zw_iconst (v := (2 : Int32)) hX dX0_latestNote_30 (by decide) ?_
        refine zw_iadd hX dX0_latestNote_31 ?_
        obtain ⟨v5, g, h⟩ := zb_some h
        refine zw_xi hX dX0_latestNote_32 g ?_
        refine zw_iload_n hX dX0_latestNote_33 rfl ?_
        refine zw_icmp_ge (tgt := 48) hX dX0_latestNote_34 (by decide) (fun c34 => ?_) (fun c34 => ?_)
        · rw [if_pos c34] at h
          refine zw_iinc (v := (i3 + (-1 : Int32))) hX dX0_latestNote_48 rfl rfl (by decide) ?_
          refine zw_goto (tgt := 7) hX dX0_latestNote_51 (by decide) ?_
          refine zw_sub (lv' := [(0, .ref a0), (1, .int i1), (2, .int i2), (3, .int (i3 + (-1 : Int32)))]) (List.forall_mem_cons.mpr ⟨rfl, (List.forall_mem_cons.mpr ⟨rfl, (List.forall_mem_cons.mpr ⟨rfl, (List.forall_mem_cons.mpr ⟨rfl, zs_nil⟩)⟩)⟩)⟩) ?_
          exact ih _ _ h
        · rw [if_neg c34] at h
          refine zw_aload_n hX dX0_latestNote_37 rfl ?_
          obtain ⟨b6, g, h⟩ := zb_some h
          refine zw_getr hX zl_X0_30 dX0_latestNote_38 g ?_
          refine zw_iconst (v := (3 : Int32)) hX dX0_latestNote_41 (by decide) ?_
          refine zw_iload_n hX dX0_latestNote_42 rfl ?_
          refine zw_imul hX dX0_latestNote_43 ?_
          refine zw_iconst (v := (1 : Int32)) hX dX0_latestNote_44 (by decide) ?_
          refine zw_iadd hX dX0_latestNote_45 ?_
          obtain ⟨v7, g, h⟩ := zb_some h
          refine zw_xi hX dX0_latestNote_46 g ?_
          have hz := hf _ (Option.some.inj h).symm
          subst hz
          exact zw_iret hX hr dX0_latestNote_47 rfl ⟨rfl, rfl⟩
set_option maxHeartbeats 4000000 in
set_option maxRecDepth 100000 in
theorem zt_X0_latestNote {l : Launch} {V : zm_V} {N : Nat} {S : zm_S} {out : (Int32 × zm_S)} {d : Nat} {a0 : Nat} {i1 : Int32} {i2 : Int32} (hd : 1 ≤ d) (h : zf_X0_latestNote N a0 i1 i2 S = some out) : zm_Met l zk_E V yX0_latestNote (.code yX0_latestNote cX0_latestNote 4 (some .int)) d [.ref a0, .int i1, .int i2] S 0 0 (zo_i out) zo_x := by
  refine zm_of (by decide +kernel) (Nat.le_of_ble_eq_true rfl) ?_
  intro p e R s m args below meth c hRR hX hr hxt
  have hR : R.frames = d ∧ R.locals = 64 * d := by rw [hRR]; exact ⟨rfl, rfl⟩
  have hX : zm_X p R s m args meth c RX0 "latestNote" cX0_latestNote 4 zk_E V 0 0 := hX
  unfold zf_X0_latestNote at h
  refine zw_sub (lv' := [(0, .ref a0), (1, .int i1), (2, .int i2)]) (List.forall_mem_cons.mpr ⟨rfl, (List.forall_mem_cons.mpr ⟨rfl, (List.forall_mem_cons.mpr ⟨rfl, zs_nil⟩)⟩)⟩) ?_
  refine zw_aload_n hX dX0_latestNote_0 rfl ?_
  obtain ⟨v1, g, h⟩ := zb_some h
  refine zw_geti hX zl_X0_138 dX0_latestNote_1 g ?_
  refine zw_iconst (v := (1 : Int32)) hX dX0_latestNote_4 (by decide) ?_
  refine zw_isub hX dX0_latestNote_5 ?_
  refine zw_istore_n hX dX0_latestNote_6 (by decide) ?_
  obtain ⟨r, g, h⟩ := zb_some h
  refine zw_sub (lv' := [(0, .ref a0), (1, .int i1), (2, .int i2), (3, .int (v1 - (1 : Int32)))]) (List.forall_mem_cons.mpr ⟨rfl, (List.forall_mem_cons.mpr ⟨rfl, (List.forall_mem_cons.mpr ⟨rfl, (List.forall_mem_cons.mpr ⟨rfl, zs_nil⟩)⟩)⟩)⟩) ?_
  refine zt_X0_latestNote_L7 hX hr hR hd (res := r) (out := out) a0 i1 i2 ?_ ?_ N _ _ g
  · intro o ho
    subst ho
    exact Option.some.inj h
  · intro  S8 hx
    subst hx
    try dsimp only at h
    refine zw_iconst (v := (-1 : Int32)) hX dX0_latestNote_54 (by decide) ?_
    obtain rfl := Option.some.inj h
    exact zw_iret hX hr dX0_latestNote_55 rfl ⟨rfl, rfl⟩
set_option maxHeartbeats 4000000 in
set_option maxRecDepth 100000 in
theorem zt_X0_note_J73 {p : Program} {l : Launch} {e : Env} {R : Room} {s : State} {m : MethodId} {args : Array Value} {below : List Frame} {meth : Method} {c : Code} {V : zm_V} {mc ms d rc rs : Nat} (hX : zm_X p R s m args meth c RX0 "note" cX0_note 4 zk_E V mc ms) (hr : meth.sig.returnType = (some .int)) (hR : R.frames = d ∧ R.locals = 64 * d) (hd : 2 ≤ d) {N : Nat} {a0 : Nat} {i3 : Int32} {out : (Int32 × zm_S)} {S : zm_S} (h : zf_X0_note_J73 N a0 i3 S = some out) : zw p l e R s m args below meth c (vx_MQ below (zm_Qc zk_E V (zo_i out)) (zm_XC zk_E V zo_x) args s mc ms (fun q => V.2.2.2.1 ≤ q)) 4 zk_E V mc ms 73 [(0, .ref a0), (3, .int i3)] [] S rc rs := by
  unfold zf_X0_note_J73 at h
  refine zw_aload_n hX dX0_note_73 rfl ?_
  refine zw_dup hX dX0_note_74 rfl ?_
  obtain ⟨v5, g, h⟩ := zb_some h
  refine zw_geti hX zl_X0_126 dX0_note_75 g ?_
  refine zw_iconst (v := (1 : Int32)) hX dX0_note_78 (by decide) ?_
  refine zw_iadd hX dX0_note_79 ?_
  obtain ⟨S6, g, h⟩ := zb_some h
  refine zw_putv hX zl_X0_126 zt_0_12 dX0_note_80 rfl rfl g ?_
  refine zw_iload_n hX dX0_note_83 rfl ?_
  obtain rfl := Option.some.inj h
  exact zw_iret hX hr dX0_note_84 rfl ⟨rfl, rfl⟩
set_option maxHeartbeats 4000000 in
set_option maxRecDepth 100000 in
theorem zt_X0_note {l : Launch} {V : zm_V} {N : Nat} {S : zm_S} {out : (Int32 × zm_S)} {d : Nat} {a0 : Nat} {i1 : Int32} {i2 : Int32} (hd : 2 ≤ d) (h : zf_X0_note N a0 i1 i2 S = some out) : zm_Met l zk_E V yX0_note (.code yX0_note cX0_note 4 (some .int)) d [.ref a0, .int i1, .int i2] S 0 0 (zo_i out) zo_x := by
  refine zm_of (by decide +kernel) (Nat.le_of_ble_eq_true rfl) ?_
  intro p e R s m args below meth c hRR hX hr hxt
  have hR : R.frames = d ∧ R.locals = 64 * d := by rw [hRR]; exact ⟨rfl, rfl⟩
  have hX : zm_X p R s m args meth c RX0 "note" cX0_note 4 zk_E V 0 0 := hX
  unfold zf_X0_note at h
  refine zw_sub (lv' := [(0, .ref a0), (1, .int i1), (2, .int i2)]) (List.forall_mem_cons.mpr ⟨rfl, (List.forall_mem_cons.mpr ⟨rfl, (List.forall_mem_cons.mpr ⟨rfl, zs_nil⟩)⟩)⟩) ?_
  refine zw_aload_n hX dX0_note_0 rfl ?_
  refine zw_iload_n hX dX0_note_1 rfl ?_
  refine zw_aload_n hX dX0_note_2 rfl ?_
  obtain ⟨v1, g, h⟩ := zb_some h
  refine zw_geti hX zl_X0_126 dX0_note_3 g ?_
  obtain ⟨_, gi, h⟩ := zb_some h
  obtain ⟨r3, g, h⟩ := zb_some h
  refine zc_Vi (as := [.int i1, .int v1]) hX gi (zt_X0_latestNote (d := d - 1) (by omega) g) zl_X0_135 rfl dX0_note_6 ⟨rfl, rfl, Nat.le_of_ble_eq_true rfl⟩ ⟨by omega, by omega⟩ ?_
  refine zw_istore_n hX dX0_note_9 (by decide) ?_
  refine zw_aload_n hX dX0_note_10 rfl ?_
  obtain ⟨v4, g, h⟩ := zb_some h
  refine zw_geti hX zl_X0_138 dX0_note_11 g ?_
  refine zw_sipush (v := (512 : Int32)) hX dX0_note_14 (by decide) ?_
  refine zw_icmp_ge (tgt := 73) hX dX0_note_17 (by decide) (fun c17 => ?_) (fun c17 => ?_)
  · rw [if_pos c17] at h
    refine zw_sub (lv' := [(0, .ref a0), (3, .int r3.1)]) (List.forall_mem_cons.mpr ⟨rfl, (List.forall_mem_cons.mpr ⟨rfl, zs_nil⟩)⟩) ?_
    exact zt_X0_note_J73 hX hr hR hd h
  · rw [if_neg c17] at h
    refine zw_aload_n hX dX0_note_20 rfl ?_
    obtain ⟨b7, g, h⟩ := zb_some h
    refine zw_getr hX zl_X0_30 dX0_note_21 g ?_
    refine zw_iconst (v := (3 : Int32)) hX dX0_note_24 (by decide) ?_
    refine zw_aload_n hX dX0_note_25 rfl ?_
    obtain ⟨v8, g, h⟩ := zb_some h
    refine zw_geti hX zl_X0_138 dX0_note_26 g ?_
    refine zw_imul hX dX0_note_29 ?_
    refine zw_iload_n hX dX0_note_30 rfl ?_
    obtain ⟨S9, g, h⟩ := zb_some h
    refine zw_si hX dX0_note_31 g ?_
    refine zw_aload_n hX dX0_note_32 rfl ?_
    obtain ⟨b10, g, h⟩ := zb_some h
    refine zw_getr hX zl_X0_30 dX0_note_33 g ?_
    refine zw_iconst (v := (3 : Int32)) hX dX0_note_36 (by decide) ?_
    refine zw_aload_n hX dX0_note_37 rfl ?_
    obtain ⟨v11, g, h⟩ := zb_some h
    refine zw_geti hX zl_X0_138 dX0_note_38 g ?_
    refine zw_imul hX dX0_note_41 ?_
    refine zw_iconst (v := (1 : Int32)) hX dX0_note_42 (by decide) ?_
    refine zw_iadd hX dX0_note_43 ?_
    refine zw_iload_n hX dX0_note_44 rfl ?_
    obtain ⟨S12, g, h⟩ := zb_some h
    refine zw_si hX dX0_note_45 g ?_
    refine zw_aload_n hX dX0_note_46 rfl ?_
    obtain ⟨b13, g, h⟩ := zb_some h
    refine zw_getr hX zl_X0_30 dX0_note_47 g ?_
    refine zw_iconst (v := (3 : Int32)) hX dX0_note_50 (by decide) ?_
    refine zw_aload_n hX dX0_note_51 rfl ?_
    obtain ⟨v14, g, h⟩ := zb_some h
    refine zw_geti hX zl_X0_138 dX0_note_52 g ?_
    refine zw_imul hX dX0_note_55 ?_
    refine zw_iconst (v := (2 : Int32)) hX dX0_note_56 (by decide) ?_
    refine zw_iadd hX dX0_note_57 ?_
    refine zw_aload_n hX dX0_note_58 rfl ?_
    obtain ⟨v15, g, h⟩ := zb_some h
    refine zw_geti hX zl_X0_126 dX0_note_59 g ?_
    obtain ⟨S16, g, h⟩ := zb_some h
    refine zw_si hX dX0_note_62 g ?_
    refine zw_aload_n hX dX0_note_63 rfl ?_
    refine zw_dup hX dX0_note_64 rfl ?_
    obtain ⟨v17, g, h⟩ := zb_some h
    refine zw_geti hX zl_X0_138 dX0_note_65 g ?_
    refine zw_iconst (v := (1 : Int32)) hX dX0_note_68 (by decide) ?_
    refine zw_iadd hX dX0_note_69 ?_
    obtain ⟨S18, g, h⟩ := zb_some h
    refine zw_putv hX zl_X0_138 zt_0_13 dX0_note_70 rfl rfl g ?_
    refine zw_sub (lv' := [(0, .ref a0), (3, .int r3.1)]) (List.forall_mem_cons.mpr ⟨rfl, (List.forall_mem_cons.mpr ⟨rfl, zs_nil⟩)⟩) ?_
    exact zt_X0_note_J73 hX hr hR hd h
set_option maxHeartbeats 4000000 in
set_option maxRecDepth 100000 in
theorem zt_X0_tellEnd {l : Launch} {V : zm_V} {N : Nat} {S : zm_S} {out : (Int32 × zm_S)} {d : Nat} {a0 : Nat} {i1 : Int32} {i2 : Int32} (hd : 3 ≤ d) (h : zf_X0_tellEnd N a0 i1 i2 S = some out) : zm_Met l zk_E V yX0_tellEnd (.code yX0_tellEnd cX0_tellEnd 3 (some .int)) d [.ref a0, .int i1, .int i2] S 0 0 (zo_i out) zo_x := by
  refine zm_of (by decide +kernel) (Nat.le_of_ble_eq_true rfl) ?_
  intro p e R s m args below meth c hRR hX hr hxt
  have hR : R.frames = d ∧ R.locals = 64 * d := by rw [hRR]; exact ⟨rfl, rfl⟩
  have hX : zm_X p R s m args meth c RX0 "tellEnd" cX0_tellEnd 3 zk_E V 0 0 := hX
  unfold zf_X0_tellEnd at h
  refine zw_sub (lv' := [(0, .ref a0), (1, .int i1), (2, .int i2)]) (List.forall_mem_cons.mpr ⟨rfl, (List.forall_mem_cons.mpr ⟨rfl, (List.forall_mem_cons.mpr ⟨rfl, zs_nil⟩)⟩)⟩) ?_
  refine zw_aload_n hX dX0_tellEnd_0 rfl ?_
  refine zw_iload_n hX dX0_tellEnd_1 rfl ?_
  refine zw_iload_n hX dX0_tellEnd_2 rfl ?_
  obtain ⟨_, gi, h⟩ := zb_some h
  obtain ⟨r2, g, h⟩ := zb_some h
  refine zc_Vi (as := [.int i1, .int i2]) hX gi (zt_X0_note (d := d - 1) (by omega) g) zl_X0_132 rfl dX0_tellEnd_3 ⟨rfl, rfl, Nat.le_of_ble_eq_true rfl⟩ ⟨by omega, by omega⟩ ?_
  obtain rfl := Option.some.inj h
  exact zw_iret hX hr dX0_tellEnd_6 rfl ⟨rfl, rfl⟩
set_option maxHeartbeats 4000000 in
set_option maxRecDepth 100000 in
theorem zt_X0_tellLost {l : Launch} {V : zm_V} {N : Nat} {S : zm_S} {out : (Int32 × zm_S)} {d : Nat} {a0 : Nat} {i1 : Int32} {i2 : Int32} (hd : 3 ≤ d) (h : zf_X0_tellLost N a0 i1 i2 S = some out) : zm_Met l zk_E V yX0_tellLost (.code yX0_tellLost cX0_tellLost 3 (some .int)) d [.ref a0, .int i1, .int i2] S 0 0 (zo_i out) zo_x := by
  refine zm_of (by decide +kernel) (Nat.le_of_ble_eq_true rfl) ?_
  intro p e R s m args below meth c hRR hX hr hxt
  have hR : R.frames = d ∧ R.locals = 64 * d := by rw [hRR]; exact ⟨rfl, rfl⟩
  have hX : zm_X p R s m args meth c RX0 "tellLost" cX0_tellLost 3 zk_E V 0 0 := hX
  unfold zf_X0_tellLost at h
  refine zw_sub (lv' := [(0, .ref a0), (1, .int i1), (2, .int i2)]) (List.forall_mem_cons.mpr ⟨rfl, (List.forall_mem_cons.mpr ⟨rfl, (List.forall_mem_cons.mpr ⟨rfl, zs_nil⟩)⟩)⟩) ?_
  refine zw_aload_n hX dX0_tellLost_0 rfl ?_
  refine zw_bipush (v := (100 : Int32)) hX dX0_tellLost_1 (by decide) ?_
  refine zw_iload_n hX dX0_tellLost_3 rfl ?_
  refine zw_iadd hX dX0_tellLost_4 ?_
  refine zw_iload_n hX dX0_tellLost_5 rfl ?_
  obtain ⟨_, gi, h⟩ := zb_some h
  obtain ⟨r2, g, h⟩ := zb_some h
  refine zc_Vi (as := [.int ((100 : Int32) + i1), .int i2]) hX gi (zt_X0_note (d := d - 1) (by omega) g) zl_X0_132 rfl dX0_tellLost_6 ⟨rfl, rfl, Nat.le_of_ble_eq_true rfl⟩ ⟨by omega, by omega⟩ ?_
  obtain rfl := Option.some.inj h
  exact zw_iret hX hr dX0_tellLost_9 rfl ⟨rfl, rfl⟩
set_option maxHeartbeats 4000000 in
set_option maxRecDepth 100000 in
theorem zt_X0_isNoted {l : Launch} {V : zm_V} {N : Nat} {S : zm_S} {out : (Int32 × zm_S)} {d : Nat} {a0 : Nat} {i1 : Int32} {i2 : Int32} {i3 : Int32} (hd : 2 ≤ d) (h : zf_X0_isNoted N a0 i1 i2 i3 S = some out) : zm_Met l zk_E V yX0_isNoted (.code yX0_isNoted cX0_isNoted 5 (some .boolean)) d [.ref a0, .int i1, .int i2, .int i3] S 0 0 (zo_i out) zo_x := by
  refine zm_of (by decide +kernel) (Nat.le_of_ble_eq_true rfl) ?_
  intro p e R s m args below meth c hRR hX hr hxt
  have hR : R.frames = d ∧ R.locals = 64 * d := by rw [hRR]; exact ⟨rfl, rfl⟩
  have hX : zm_X p R s m args meth c RX0 "isNoted" cX0_isNoted 5 zk_E V 0 0 := hX
  unfold zf_X0_isNoted at h
  refine zw_sub (lv' := [(0, .ref a0), (1, .int i1), (2, .int i2), (3, .int i3)]) (List.forall_mem_cons.mpr ⟨rfl, (List.forall_mem_cons.mpr ⟨rfl, (List.forall_mem_cons.mpr ⟨rfl, (List.forall_mem_cons.mpr ⟨rfl, zs_nil⟩)⟩)⟩)⟩) ?_
  refine zw_aload_n hX dX0_isNoted_0 rfl ?_
  refine zw_iload_n hX dX0_isNoted_1 rfl ?_
  refine zw_iload_n hX dX0_isNoted_2 rfl ?_
  obtain ⟨_, gi, h⟩ := zb_some h
  obtain ⟨r2, g, h⟩ := zb_some h
  refine zc_Vi (as := [.int i1, .int i2]) hX gi (zt_X0_latestNote (d := d - 1) (by omega) g) zl_X0_135 rfl dX0_isNoted_3 ⟨rfl, rfl, Nat.le_of_ble_eq_true rfl⟩ ⟨by omega, by omega⟩ ?_
  refine zw_istore hX dX0_isNoted_6 (by decide) ?_
  refine zw_iload hX dX0_isNoted_8 rfl ?_
  refine zw_iconst (v := (-1 : Int32)) hX dX0_isNoted_10 (by decide) ?_
  refine zw_icmp_eq (tgt := 24) hX dX0_isNoted_11 (by decide) (fun c11 => ?_) (fun c11 => ?_)
  · rw [if_pos c11] at h
    refine zw_iconst (v := (0 : Int32)) hX dX0_isNoted_24 (by decide) ?_
    obtain rfl := Option.some.inj h
    exact zw_iret hX hr dX0_isNoted_25 rfl ⟨rfl, rfl⟩
  · rw [if_neg c11] at h
    refine zw_iload hX dX0_isNoted_14 rfl ?_
    refine zw_iload_n hX dX0_isNoted_16 rfl ?_
    refine zw_icmp_gt (tgt := 24) hX dX0_isNoted_17 (by decide) (fun c17 => ?_) (fun c17 => ?_)
    · rw [if_pos c17] at h
      refine zw_iconst (v := (0 : Int32)) hX dX0_isNoted_24 (by decide) ?_
      obtain rfl := Option.some.inj h
      exact zw_iret hX hr dX0_isNoted_25 rfl ⟨rfl, rfl⟩
    · rw [if_neg c17] at h
      refine zw_iconst (v := (1 : Int32)) hX dX0_isNoted_20 (by decide) ?_
      refine zw_goto (tgt := 25) hX dX0_isNoted_21 (by decide) ?_
      obtain rfl := Option.some.inj h
      exact zw_iret hX hr dX0_isNoted_25 rfl ⟨rfl, rfl⟩
set_option maxHeartbeats 4000000 in
set_option maxRecDepth 100000 in
theorem zt_X0_setTwo_J15 {p : Program} {l : Launch} {e : Env} {R : Room} {s : State} {m : MethodId} {args : Array Value} {below : List Frame} {meth : Method} {c : Code} {V : zm_V} {mc ms d rc rs : Nat} (hX : zm_X p R s m args meth c RX0 "setTwo" cX0_setTwo 4 zk_E V mc ms) (hr : meth.sig.returnType = (some .boolean)) (hR : R.frames = d ∧ R.locals = 64 * d) (hd : 2 ≤ d) {N : Nat} {a0 : Nat} {i1 : Int32} {i2 : Int32} {t0 : Int32} {out : (Int32 × zm_S)} {S : zm_S} (h : zf_X0_setTwo_J15 N a0 i1 i2 t0 S = some out) : zw p l e R s m args below meth c (vx_MQ below (zm_Qc zk_E V (zo_i out)) (zm_XC zk_E V zo_x) args s mc ms (fun q => V.2.2.2.1 ≤ q)) 4 zk_E V mc ms 15 [(0, .ref a0), (1, .int i1), (2, .int i2)] [.int t0] S rc rs := by
  unfold zf_X0_setTwo_J15 at h
  refine zw_istore_n hX dX0_setTwo_15 (by decide) ?_
  refine zw_aload_n hX dX0_setTwo_16 rfl ?_
  refine zw_iload_n hX dX0_setTwo_17 rfl ?_
  refine zw_bipush (v := (10 : Int32)) hX dX0_setTwo_18 (by decide) ?_
  refine zw_iload_n hX dX0_setTwo_20 rfl ?_
  refine zw_if_eq (tgt := 28) hX dX0_setTwo_21 (by decide) (fun c21 => ?_) (fun c21 => ?_)
  · rw [if_pos c21] at h
    refine zw_iconst (v := (0 : Int32)) hX dX0_setTwo_28 (by decide) ?_
    obtain ⟨_, gi, h⟩ := zb_some h
    obtain ⟨r4, g, h⟩ := zb_some h
    refine zc_Vv (as := [.int i1, .int (10 : Int32), .int (0 : Int32)]) hX gi (zt_X0_setFact (d := d - 1) (by omega) g) zl_X0_94 rfl dX0_setTwo_29 ⟨rfl, rfl, Nat.le_of_ble_eq_true rfl⟩ ⟨by omega, by omega⟩ ?_
    refine zw_iload_n hX dX0_setTwo_32 rfl ?_
    by_cases cz : t0 = 0 ∨ t0 = 1
    · rw [if_pos cz] at h
      obtain rfl := Option.some.inj h
      exact zw_iret hX hr dX0_setTwo_33 (zn_z cz) ⟨rfl, rfl⟩
    · rw [if_neg cz] at h
      cases h
  · rw [if_neg c21] at h
    refine zw_iconst (v := (1 : Int32)) hX dX0_setTwo_24 (by decide) ?_
    refine zw_goto (tgt := 29) hX dX0_setTwo_25 (by decide) ?_
    obtain ⟨_, gi, h⟩ := zb_some h
    obtain ⟨r6, g, h⟩ := zb_some h
    refine zc_Vv (as := [.int i1, .int (10 : Int32), .int (1 : Int32)]) hX gi (zt_X0_setFact (d := d - 1) (by omega) g) zl_X0_94 rfl dX0_setTwo_29 ⟨rfl, rfl, Nat.le_of_ble_eq_true rfl⟩ ⟨by omega, by omega⟩ ?_
    refine zw_iload_n hX dX0_setTwo_32 rfl ?_
    by_cases cz : t0 = 0 ∨ t0 = 1
    · rw [if_pos cz] at h
      obtain rfl := Option.some.inj h
      exact zw_iret hX hr dX0_setTwo_33 (zn_z cz) ⟨rfl, rfl⟩
    · rw [if_neg cz] at h
      cases h
set_option maxHeartbeats 4000000 in
set_option maxRecDepth 100000 in
theorem zt_X0_setTwo {l : Launch} {V : zm_V} {N : Nat} {S : zm_S} {out : (Int32 × zm_S)} {d : Nat} {a0 : Nat} {i1 : Int32} {i2 : Int32} (hd : 2 ≤ d) (h : zf_X0_setTwo N a0 i1 i2 S = some out) : zm_Met l zk_E V yX0_setTwo (.code yX0_setTwo cX0_setTwo 4 (some .boolean)) d [.ref a0, .int i1, .int i2] S 0 0 (zo_i out) zo_x := by
  refine zm_of (by decide +kernel) (Nat.le_of_ble_eq_true rfl) ?_
  intro p e R s m args below meth c hRR hX hr hxt
  have hR : R.frames = d ∧ R.locals = 64 * d := by rw [hRR]; exact ⟨rfl, rfl⟩
  have hX : zm_X p R s m args meth c RX0 "setTwo" cX0_setTwo 4 zk_E V 0 0 := hX
  unfold zf_X0_setTwo at h
  refine zw_sub (lv' := [(0, .ref a0), (1, .int i1), (2, .int i2)]) (List.forall_mem_cons.mpr ⟨rfl, (List.forall_mem_cons.mpr ⟨rfl, (List.forall_mem_cons.mpr ⟨rfl, zs_nil⟩)⟩)⟩) ?_
  refine zw_aload_n hX dX0_setTwo_0 rfl ?_
  refine zw_iload_n hX dX0_setTwo_1 rfl ?_
  refine zw_bipush (v := (10 : Int32)) hX dX0_setTwo_2 (by decide) ?_
  obtain ⟨_, gi, h⟩ := zb_some h
  obtain ⟨r2, g, h⟩ := zb_some h
  refine zc_Vi (as := [.int i1, .int (10 : Int32)]) hX gi (zt_X0_factOf (d := d - 1) (by omega) g) zl_X0_117 rfl dX0_setTwo_4 ⟨rfl, rfl, Nat.le_of_ble_eq_true rfl⟩ ⟨by omega, by omega⟩ ?_
  refine zw_if_eq (tgt := 14) hX dX0_setTwo_7 (by decide) (fun c7 => ?_) (fun c7 => ?_)
  · rw [if_pos c7] at h
    refine zw_iconst (v := (0 : Int32)) hX dX0_setTwo_14 (by decide) ?_
    refine zw_sub (lv' := [(0, .ref a0), (1, .int i1), (2, .int i2)]) (List.forall_mem_cons.mpr ⟨rfl, (List.forall_mem_cons.mpr ⟨rfl, (List.forall_mem_cons.mpr ⟨rfl, zs_nil⟩)⟩)⟩) ?_
    exact zt_X0_setTwo_J15 hX hr hR hd h
  · rw [if_neg c7] at h
    refine zw_iconst (v := (1 : Int32)) hX dX0_setTwo_10 (by decide) ?_
    refine zw_goto (tgt := 15) hX dX0_setTwo_11 (by decide) ?_
    refine zw_sub (lv' := [(0, .ref a0), (1, .int i1), (2, .int i2)]) (List.forall_mem_cons.mpr ⟨rfl, (List.forall_mem_cons.mpr ⟨rfl, (List.forall_mem_cons.mpr ⟨rfl, zs_nil⟩)⟩)⟩) ?_
    exact zt_X0_setTwo_J15 hX hr hR hd h
set_option maxHeartbeats 4000000 in
set_option maxRecDepth 100000 in
theorem zt_X0_isAirlock {l : Launch} {V : zm_V} {N : Nat} {S : zm_S} {out : (Int32 × zm_S)} {d : Nat} {a0 : Nat} {i1 : Int32} {i2 : Int32} (hd : 1 ≤ d) (h : zf_X0_isAirlock N a0 i1 i2 S = some out) : zm_Met l zk_E V yX0_isAirlock (.code yX0_isAirlock cX0_isAirlock 3 (some .boolean)) d [.ref a0, .int i1, .int i2] S 0 0 (zo_i out) zo_x := by
  refine zm_of (by decide +kernel) (Nat.le_of_ble_eq_true rfl) ?_
  intro p e R s m args below meth c hRR hX hr hxt
  have hR : R.frames = d ∧ R.locals = 64 * d := by rw [hRR]; exact ⟨rfl, rfl⟩
  have hX : zm_X p R s m args meth c RX0 "isAirlock" cX0_isAirlock 3 zk_E V 0 0 := hX
  unfold zf_X0_isAirlock at h
  refine zw_sub (lv' := [(0, .ref a0), (1, .int i1), (2, .int i2)]) (List.forall_mem_cons.mpr ⟨rfl, (List.forall_mem_cons.mpr ⟨rfl, (List.forall_mem_cons.mpr ⟨rfl, zs_nil⟩)⟩)⟩) ?_
  refine zw_aload_n hX dX0_isAirlock_0 rfl ?_
  obtain ⟨b1, g, h⟩ := zb_some h
  refine zw_getr hX zl_X0_18 dX0_isAirlock_1 g ?_
  refine zw_iload_n hX dX0_isAirlock_4 rfl ?_
  refine zw_aload_n hX dX0_isAirlock_5 rfl ?_
  obtain ⟨v2, g, h⟩ := zb_some h
  refine zw_geti hX zl_X0_52 dX0_isAirlock_6 g ?_
  refine zw_imul hX dX0_isAirlock_9 ?_
  refine zw_iload_n hX dX0_isAirlock_10 rfl ?_
  refine zw_bipush (v := (64 : Int32)) hX dX0_isAirlock_11 (by decide) ?_
  refine zw_idiv hX dX0_isAirlock_13 (by decide) ?_
  refine zw_iadd hX dX0_isAirlock_14 ?_
  obtain ⟨w3, g, h⟩ := zb_some h
  refine zw_xl hX dX0_isAirlock_15 g ?_
  refine zw_iload_n hX dX0_isAirlock_16 rfl ?_
  refine zw_bipush (v := (64 : Int32)) hX dX0_isAirlock_17 (by decide) ?_
  refine zw_irem hX dX0_isAirlock_19 (by decide) ?_
  refine zw_lshr hX dX0_isAirlock_20 ?_
  refine zw_lconst (v := (1 : Int64)) hX dX0_isAirlock_21 (by decide) ?_
  refine zw_land hX dX0_isAirlock_22 ?_
  refine zw_lconst (v := (0 : Int64)) hX dX0_isAirlock_23 (by decide) ?_
  refine zw_lcmp hX dX0_isAirlock_24 ?_
  refine zw_if_eq (tgt := 32) hX dX0_isAirlock_25 (by decide) (fun c25 => ?_) (fun c25 => ?_)
  · rw [if_pos c25] at h
    refine zw_iconst (v := (0 : Int32)) hX dX0_isAirlock_32 (by decide) ?_
    obtain rfl := Option.some.inj h
    exact zw_iret hX hr dX0_isAirlock_33 rfl ⟨rfl, rfl⟩
  · rw [if_neg c25] at h
    refine zw_iconst (v := (1 : Int32)) hX dX0_isAirlock_28 (by decide) ?_
    refine zw_goto (tgt := 33) hX dX0_isAirlock_29 (by decide) ?_
    obtain rfl := Option.some.inj h
    exact zw_iret hX hr dX0_isAirlock_33 rfl ⟨rfl, rfl⟩
set_option maxHeartbeats 4000000 in
set_option maxRecDepth 100000 in
theorem zt_X0_setLockBit {l : Launch} {V : zm_V} {N : Nat} {S : zm_S} {out : (Unit × zm_S)} {d : Nat} {a0 : Nat} {i1 : Int32} {i2 : Int32} {i3 : Int32} (hd : 1 ≤ d) (h : zf_X0_setLockBit N a0 i1 i2 i3 S = some out) : zm_Met l zk_E V yX0_setLockBit (.code yX0_setLockBit cX0_setLockBit 7 none) d [.ref a0, .int i1, .int i2, .int i3] S 0 0 (zo_v out) zo_x := by
  refine zm_of (by decide +kernel) (Nat.le_of_ble_eq_true rfl) ?_
  intro p e R s m args below meth c hRR hX hr hxt
  have hR : R.frames = d ∧ R.locals = 64 * d := by rw [hRR]; exact ⟨rfl, rfl⟩
  have hX : zm_X p R s m args meth c RX0 "setLockBit" cX0_setLockBit 7 zk_E V 0 0 := hX
  unfold zf_X0_setLockBit at h
  refine zw_sub (lv' := [(0, .ref a0), (1, .int i1), (2, .int i2), (3, .int i3)]) (List.forall_mem_cons.mpr ⟨rfl, (List.forall_mem_cons.mpr ⟨rfl, (List.forall_mem_cons.mpr ⟨rfl, (List.forall_mem_cons.mpr ⟨rfl, zs_nil⟩)⟩)⟩)⟩) ?_
  refine zw_iload_n hX dX0_setLockBit_0 rfl ?_
  refine zw_aload_n hX dX0_setLockBit_1 rfl ?_
  obtain ⟨v1, g, h⟩ := zb_some h
  refine zw_geti hX zl_X0_52 dX0_setLockBit_2 g ?_
  refine zw_imul hX dX0_setLockBit_5 ?_
  refine zw_iload_n hX dX0_setLockBit_6 rfl ?_
  refine zw_bipush (v := (64 : Int32)) hX dX0_setLockBit_7 (by decide) ?_
  refine zw_idiv hX dX0_setLockBit_9 (by decide) ?_
  refine zw_iadd hX dX0_setLockBit_10 ?_
  refine zw_istore hX dX0_setLockBit_11 (by decide) ?_
  refine zw_lconst (v := (1 : Int64)) hX dX0_setLockBit_13 (by decide) ?_
  refine zw_iload_n hX dX0_setLockBit_14 rfl ?_
  refine zw_bipush (v := (64 : Int32)) hX dX0_setLockBit_15 (by decide) ?_
  refine zw_irem hX dX0_setLockBit_17 (by decide) ?_
  refine zw_lshl hX dX0_setLockBit_18 ?_
  refine zw_lstore hX dX0_setLockBit_19 (by decide) ?_
  refine zw_aload_n hX dX0_setLockBit_21 rfl ?_
  obtain ⟨b2, g, h⟩ := zb_some h
  refine zw_getr hX zl_X0_18 dX0_setLockBit_22 g ?_
  refine zw_iload hX dX0_setLockBit_25 rfl ?_
  refine zw_iload_n hX dX0_setLockBit_27 rfl ?_
  refine zw_if_eq (tgt := 44) hX dX0_setLockBit_28 (by decide) (fun c28 => ?_) (fun c28 => ?_)
  · rw [if_pos c28] at h
    refine zw_aload_n hX dX0_setLockBit_44 rfl ?_
    obtain ⟨b3, g, h⟩ := zb_some h
    refine zw_getr hX zl_X0_18 dX0_setLockBit_45 g ?_
    refine zw_iload hX dX0_setLockBit_48 rfl ?_
    obtain ⟨w4, g, h⟩ := zb_some h
    refine zw_xl hX dX0_setLockBit_50 g ?_
    refine zw_lload hX dX0_setLockBit_51 rfl ?_
    refine zw_ldc2 (v := (-1 : Int64)) hX dX0_setLockBit_53 zl_X0_148 ?_
    refine zw_lxor hX dX0_setLockBit_56 ?_
    refine zw_land hX dX0_setLockBit_57 ?_
    obtain ⟨S5, g, h⟩ := zb_some h
    refine zw_sl hX dX0_setLockBit_58 g ?_
    obtain rfl := Option.some.inj h
    exact zw_vret hX hr dX0_setLockBit_59 ⟨rfl, rfl⟩
  · rw [if_neg c28] at h
    refine zw_aload_n hX dX0_setLockBit_31 rfl ?_
    obtain ⟨b6, g, h⟩ := zb_some h
    refine zw_getr hX zl_X0_18 dX0_setLockBit_32 g ?_
    refine zw_iload hX dX0_setLockBit_35 rfl ?_
    obtain ⟨w7, g, h⟩ := zb_some h
    refine zw_xl hX dX0_setLockBit_37 g ?_
    refine zw_lload hX dX0_setLockBit_38 rfl ?_
    refine zw_lor hX dX0_setLockBit_40 ?_
    refine zw_goto (tgt := 58) hX dX0_setLockBit_41 (by decide) ?_
    obtain ⟨S8, g, h⟩ := zb_some h
    refine zw_sl hX dX0_setLockBit_58 g ?_
    obtain rfl := Option.some.inj h
    exact zw_vret hX hr dX0_setLockBit_59 ⟨rfl, rfl⟩
set_option maxHeartbeats 4000000 in
set_option maxRecDepth 100000 in
theorem zt_X0_setAirlock {l : Launch} {V : zm_V} {N : Nat} {S : zm_S} {out : (Int32 × zm_S)} {d : Nat} {a0 : Nat} {i1 : Int32} {i2 : Int32} {i3 : Int32} (hd : 2 ≤ d) (h : zf_X0_setAirlock N a0 i1 i2 i3 S = some out) : zm_Met l zk_E V yX0_setAirlock (.code yX0_setAirlock cX0_setAirlock 5 (some .boolean)) d [.ref a0, .int i1, .int i2, .int i3] S 0 0 (zo_i out) zo_x := by
  refine zm_of (by decide +kernel) (Nat.le_of_ble_eq_true rfl) ?_
  intro p e R s m args below meth c hRR hX hr hxt
  have hR : R.frames = d ∧ R.locals = 64 * d := by rw [hRR]; exact ⟨rfl, rfl⟩
  have hX : zm_X p R s m args meth c RX0 "setAirlock" cX0_setAirlock 5 zk_E V 0 0 := hX
  unfold zf_X0_setAirlock at h
  refine zw_sub (lv' := [(0, .ref a0), (1, .int i1), (2, .int i2), (3, .int i3)]) (List.forall_mem_cons.mpr ⟨rfl, (List.forall_mem_cons.mpr ⟨rfl, (List.forall_mem_cons.mpr ⟨rfl, (List.forall_mem_cons.mpr ⟨rfl, zs_nil⟩)⟩)⟩)⟩) ?_
  refine zw_aload_n hX dX0_setAirlock_0 rfl ?_
  refine zw_iload_n hX dX0_setAirlock_1 rfl ?_
  refine zw_iload_n hX dX0_setAirlock_2 rfl ?_
  obtain ⟨_, gi, h⟩ := zb_some h
  obtain ⟨r2, g, h⟩ := zb_some h
  refine zc_Vi (as := [.int i1, .int i2]) hX gi (zt_X0_isAirlock (d := d - 1) (by omega) g) zl_X0_141 rfl dX0_setAirlock_3 ⟨rfl, rfl, Nat.le_of_ble_eq_true rfl⟩ ⟨by omega, by omega⟩ ?_
  refine zw_istore hX dX0_setAirlock_6 (by decide) ?_
  refine zw_aload_n hX dX0_setAirlock_8 rfl ?_
  refine zw_iload_n hX dX0_setAirlock_9 rfl ?_
  refine zw_iload_n hX dX0_setAirlock_10 rfl ?_
  refine zw_iload_n hX dX0_setAirlock_11 rfl ?_
  obtain ⟨_, gi, h⟩ := zb_some h
  obtain ⟨r4, g, h⟩ := zb_some h
  refine zc_Vv (as := [.int i1, .int i2, .int i3]) hX gi (zt_X0_setLockBit (d := d - 1) (by omega) g) zl_X0_144 rfl dX0_setAirlock_12 ⟨rfl, rfl, Nat.le_of_ble_eq_true rfl⟩ ⟨by omega, by omega⟩ ?_
  refine zw_aload_n hX dX0_setAirlock_15 rfl ?_
  refine zw_iload_n hX dX0_setAirlock_16 rfl ?_
  refine zw_iload_n hX dX0_setAirlock_17 rfl ?_
  refine zw_iload_n hX dX0_setAirlock_18 rfl ?_
  obtain ⟨_, gi, h⟩ := zb_some h
  obtain ⟨r6, g, h⟩ := zb_some h
  refine zc_Vv (as := [.int i2, .int i1, .int i3]) hX gi (zt_X0_setLockBit (d := d - 1) (by omega) g) zl_X0_144 rfl dX0_setAirlock_19 ⟨rfl, rfl, Nat.le_of_ble_eq_true rfl⟩ ⟨by omega, by omega⟩ ?_
  refine zw_iload hX dX0_setAirlock_22 rfl ?_
  by_cases cz : r2.1 = 0 ∨ r2.1 = 1
  · rw [if_pos cz] at h
    obtain rfl := Option.some.inj h
    exact zw_iret hX hr dX0_setAirlock_24 (zn_z cz) ⟨rfl, rfl⟩
  · rw [if_neg cz] at h
    cases h
set_option maxHeartbeats 4000000 in
set_option maxRecDepth 100000 in
theorem zt_X0_setOpen_J43 {p : Program} {l : Launch} {e : Env} {R : Room} {s : State} {m : MethodId} {args : Array Value} {below : List Frame} {meth : Method} {c : Code} {V : zm_V} {mc ms d rc rs : Nat} (hX : zm_X p R s m args meth c RX0 "setOpen" cX0_setOpen 5 zk_E V mc ms) (hr : meth.sig.returnType = (some .int)) (hR : R.frames = d ∧ R.locals = 64 * d) (hd : 2 ≤ d) {N : Nat} {a0 : Nat} {i1 : Int32} {i3 : Int32} {i4 : Int32} {t0 : Nat} {t1 : Int32} {t2 : Int32} {t3 : Int32} {out : (Int32 × zm_S)} {S : zm_S} (h : zf_X0_setOpen_J43 N a0 i1 i3 i4 t0 t1 t2 t3 S = some out) : zw p l e R s m args below meth c (vx_MQ below (zm_Qc zk_E V (zo_i out)) (zm_XC zk_E V zo_x) args s mc ms (fun q => V.2.2.2.1 ≤ q)) 5 zk_E V mc ms 43 [(0, .ref a0), (1, .int i1), (3, .int i3), (4, .int i4)] [.int t3, .int t2, .int t1, .ref t0] S rc rs := by
  unfold zf_X0_setOpen_J43 at h
  obtain ⟨_, gi, h⟩ := zb_some h
  obtain ⟨r6, g, h⟩ := zb_some h
  refine zc_Vv (as := [.int t1, .int t2, .int t3]) hX gi (zt_X0_setFact (d := d - 1) (by omega) g) zl_X0_94 rfl dX0_setOpen_43 ⟨rfl, rfl, Nat.le_of_ble_eq_true rfl⟩ ⟨by omega, by omega⟩ ?_
  refine zw_aload_n hX dX0_setOpen_46 rfl ?_
  refine zw_iload_n hX dX0_setOpen_47 rfl ?_
  refine zw_bipush (v := (9 : Int32)) hX dX0_setOpen_48 (by decide) ?_
  refine zw_iload_n hX dX0_setOpen_50 rfl ?_
  obtain ⟨_, gi, h⟩ := zb_some h
  obtain ⟨r8, g, h⟩ := zb_some h
  refine zc_Vv (as := [.int i1, .int (9 : Int32), .int i3]) hX gi (zt_X0_setFact (d := d - 1) (by omega) g) zl_X0_94 rfl dX0_setOpen_51 ⟨rfl, rfl, Nat.le_of_ble_eq_true rfl⟩ ⟨by omega, by omega⟩ ?_
  refine zw_iload hX dX0_setOpen_54 rfl ?_
  obtain rfl := Option.some.inj h
  exact zw_iret hX hr dX0_setOpen_56 rfl ⟨rfl, rfl⟩
set_option maxHeartbeats 4000000 in
set_option maxRecDepth 100000 in
theorem zt_X0_setOpen_J27 {p : Program} {l : Launch} {e : Env} {R : Room} {s : State} {m : MethodId} {args : Array Value} {below : List Frame} {meth : Method} {c : Code} {V : zm_V} {mc ms d rc rs : Nat} (hX : zm_X p R s m args meth c RX0 "setOpen" cX0_setOpen 5 zk_E V mc ms) (hr : meth.sig.returnType = (some .int)) (hR : R.frames = d ∧ R.locals = 64 * d) (hd : 2 ≤ d) {N : Nat} {a0 : Nat} {i1 : Int32} {i2 : Int32} {i3 : Int32} {i4 : Int32} {t0 : Int32} {t1 : Int32} {out : (Int32 × zm_S)} {S : zm_S} (h : zf_X0_setOpen_J27 N a0 i1 i2 i3 i4 t0 t1 S = some out) : zw p l e R s m args below meth c (vx_MQ below (zm_Qc zk_E V (zo_i out)) (zm_XC zk_E V zo_x) args s mc ms (fun q => V.2.2.2.1 ≤ q)) 5 zk_E V mc ms 27 [(0, .ref a0), (1, .int i1), (2, .int i2), (3, .int i3), (4, .int i4)] [.int t1, .int t0] S rc rs := by
  unfold zf_X0_setOpen_J27 at h
  refine zw_icmp_eq (tgt := 54) hX dX0_setOpen_27 (by decide) (fun c27 => ?_) (fun c27 => ?_)
  · rw [if_pos c27] at h
    refine zw_iload hX dX0_setOpen_54 rfl ?_
    obtain rfl := Option.some.inj h
    exact zw_iret hX hr dX0_setOpen_56 rfl ⟨rfl, rfl⟩
  · rw [if_neg c27] at h
    refine zw_aload_n hX dX0_setOpen_30 rfl ?_
    refine zw_iload_n hX dX0_setOpen_31 rfl ?_
    refine zw_bipush (v := (8 : Int32)) hX dX0_setOpen_32 (by decide) ?_
    refine zw_iload_n hX dX0_setOpen_34 rfl ?_
    refine zw_if_eq (tgt := 42) hX dX0_setOpen_35 (by decide) (fun c35 => ?_) (fun c35 => ?_)
    · rw [if_pos c35] at h
      refine zw_iconst (v := (0 : Int32)) hX dX0_setOpen_42 (by decide) ?_
      refine zw_sub (lv' := [(0, .ref a0), (1, .int i1), (3, .int i3), (4, .int i4)]) (List.forall_mem_cons.mpr ⟨rfl, (List.forall_mem_cons.mpr ⟨rfl, (List.forall_mem_cons.mpr ⟨rfl, (List.forall_mem_cons.mpr ⟨rfl, zs_nil⟩)⟩)⟩)⟩) ?_
      exact zt_X0_setOpen_J43 hX hr hR hd h
    · rw [if_neg c35] at h
      refine zw_iconst (v := (1 : Int32)) hX dX0_setOpen_38 (by decide) ?_
      refine zw_goto (tgt := 43) hX dX0_setOpen_39 (by decide) ?_
      refine zw_sub (lv' := [(0, .ref a0), (1, .int i1), (3, .int i3), (4, .int i4)]) (List.forall_mem_cons.mpr ⟨rfl, (List.forall_mem_cons.mpr ⟨rfl, (List.forall_mem_cons.mpr ⟨rfl, (List.forall_mem_cons.mpr ⟨rfl, zs_nil⟩)⟩)⟩)⟩) ?_
      exact zt_X0_setOpen_J43 hX hr hR hd h
set_option maxHeartbeats 4000000 in
set_option maxRecDepth 100000 in
theorem zt_X0_setOpen {l : Launch} {V : zm_V} {N : Nat} {S : zm_S} {out : (Int32 × zm_S)} {d : Nat} {a0 : Nat} {i1 : Int32} {i2 : Int32} {i3 : Int32} (hd : 2 ≤ d) (h : zf_X0_setOpen N a0 i1 i2 i3 S = some out) : zm_Met l zk_E V yX0_setOpen (.code yX0_setOpen cX0_setOpen 5 (some .int)) d [.ref a0, .int i1, .int i2, .int i3] S 0 0 (zo_i out) zo_x := by
  refine zm_of (by decide +kernel) (Nat.le_of_ble_eq_true rfl) ?_
  intro p e R s m args below meth c hRR hX hr hxt
  have hR : R.frames = d ∧ R.locals = 64 * d := by rw [hRR]; exact ⟨rfl, rfl⟩
  have hX : zm_X p R s m args meth c RX0 "setOpen" cX0_setOpen 5 zk_E V 0 0 := hX
  unfold zf_X0_setOpen at h
  refine zw_sub (lv' := [(0, .ref a0), (1, .int i1), (2, .int i2), (3, .int i3)]) (List.forall_mem_cons.mpr ⟨rfl, (List.forall_mem_cons.mpr ⟨rfl, (List.forall_mem_cons.mpr ⟨rfl, (List.forall_mem_cons.mpr ⟨rfl, zs_nil⟩)⟩)⟩)⟩) ?_
  refine zw_iload_n hX dX0_setOpen_0 rfl ?_
  refine zw_aload_n hX dX0_setOpen_1 rfl ?_
  refine zw_iload_n hX dX0_setOpen_2 rfl ?_
  refine zw_bipush (v := (9 : Int32)) hX dX0_setOpen_3 (by decide) ?_
  obtain ⟨_, gi, h⟩ := zb_some h
  obtain ⟨r2, g, h⟩ := zb_some h
  refine zc_Vi (as := [.int i1, .int (9 : Int32)]) hX gi (zt_X0_factOf (d := d - 1) (by omega) g) zl_X0_117 rfl dX0_setOpen_5 ⟨rfl, rfl, Nat.le_of_ble_eq_true rfl⟩ ⟨by omega, by omega⟩ ?_
  refine zw_isub hX dX0_setOpen_8 ?_
  refine zw_istore hX dX0_setOpen_9 (by decide) ?_
  refine zw_iload_n hX dX0_setOpen_11 rfl ?_
  refine zw_aload_n hX dX0_setOpen_12 rfl ?_
  refine zw_iload_n hX dX0_setOpen_13 rfl ?_
  refine zw_bipush (v := (8 : Int32)) hX dX0_setOpen_14 (by decide) ?_
  obtain ⟨_, gi, h⟩ := zb_some h
  obtain ⟨r4, g, h⟩ := zb_some h
  refine zc_Vi (as := [.int i1, .int (8 : Int32)]) hX gi (zt_X0_factOf (d := d - 1) (by omega) g) zl_X0_117 rfl dX0_setOpen_16 ⟨rfl, rfl, Nat.le_of_ble_eq_true rfl⟩ ⟨by omega, by omega⟩ ?_
  refine zw_if_eq (tgt := 26) hX dX0_setOpen_19 (by decide) (fun c19 => ?_) (fun c19 => ?_)
  · rw [if_pos c19] at h
    refine zw_iconst (v := (0 : Int32)) hX dX0_setOpen_26 (by decide) ?_
    refine zw_sub (lv' := [(0, .ref a0), (1, .int i1), (2, .int i2), (3, .int i3), (4, .int (i3 - r2.1))]) (List.forall_mem_cons.mpr ⟨rfl, (List.forall_mem_cons.mpr ⟨rfl, (List.forall_mem_cons.mpr ⟨rfl, (List.forall_mem_cons.mpr ⟨rfl, (List.forall_mem_cons.mpr ⟨rfl, zs_nil⟩)⟩)⟩)⟩)⟩) ?_
    exact zt_X0_setOpen_J27 hX hr hR hd h
  · rw [if_neg c19] at h
    refine zw_iconst (v := (1 : Int32)) hX dX0_setOpen_22 (by decide) ?_
    refine zw_goto (tgt := 27) hX dX0_setOpen_23 (by decide) ?_
    refine zw_sub (lv' := [(0, .ref a0), (1, .int i1), (2, .int i2), (3, .int i3), (4, .int (i3 - r2.1))]) (List.forall_mem_cons.mpr ⟨rfl, (List.forall_mem_cons.mpr ⟨rfl, (List.forall_mem_cons.mpr ⟨rfl, (List.forall_mem_cons.mpr ⟨rfl, (List.forall_mem_cons.mpr ⟨rfl, zs_nil⟩)⟩)⟩)⟩)⟩) ?_
    exact zt_X0_setOpen_J27 hX hr hR hd h
set_option maxHeartbeats 4000000 in
set_option maxRecDepth 100000 in
theorem zt_X0_goOff {l : Launch} {V : zm_V} {N : Nat} {S : zm_S} {out : (Int32 × zm_S)} {d : Nat} {a0 : Nat} {i1 : Int32} (hd : 3 ≤ d) (h : zf_X0_goOff N a0 i1 S = some out) : zm_Met l zk_E V yX0_goOff (.code yX0_goOff cX0_goOff 2 (some .int)) d [.ref a0, .int i1] S 0 0 (zo_i out) zo_x := by
  refine zm_of (by decide +kernel) (Nat.le_of_ble_eq_true rfl) ?_
  intro p e R s m args below meth c hRR hX hr hxt
  have hR : R.frames = d ∧ R.locals = 64 * d := by rw [hRR]; exact ⟨rfl, rfl⟩
  have hX : zm_X p R s m args meth c RX0 "goOff" cX0_goOff 2 zk_E V 0 0 := hX
  unfold zf_X0_goOff at h
  refine zw_sub (lv' := [(0, .ref a0), (1, .int i1)]) (List.forall_mem_cons.mpr ⟨rfl, (List.forall_mem_cons.mpr ⟨rfl, zs_nil⟩)⟩) ?_
  refine zw_aload_n hX dX0_goOff_0 rfl ?_
  refine zw_iload_n hX dX0_goOff_1 rfl ?_
  obtain ⟨_, gi, h⟩ := zb_some h
  obtain ⟨r2, g, h⟩ := zb_some h
  refine zc_Vi (as := [.int i1]) hX gi (zt_X0_isOff (d := d - 1) (by omega) g) zl_X0_120 rfl dX0_goOff_2 ⟨rfl, rfl, Nat.le_of_ble_eq_true rfl⟩ ⟨by omega, by omega⟩ ?_
  refine zw_if_ne (tgt := 19) hX dX0_goOff_5 (by decide) (fun c5 => ?_) (fun c5 => ?_)
  · rw [if_neg c5] at h
    refine zw_iconst (v := (0 : Int32)) hX dX0_goOff_19 (by decide) ?_
    obtain rfl := Option.some.inj h
    exact zw_iret hX hr dX0_goOff_20 rfl ⟨rfl, rfl⟩
  · rw [if_pos c5] at h
    refine zw_aload_n hX dX0_goOff_8 rfl ?_
    refine zw_iload_n hX dX0_goOff_9 rfl ?_
    refine zw_bipush (v := (11 : Int32)) hX dX0_goOff_10 (by decide) ?_
    refine zw_aload_n hX dX0_goOff_12 rfl ?_
    obtain ⟨v3, g, h⟩ := zb_some h
    refine zw_geti hX zl_X0_126 dX0_goOff_13 g ?_
    obtain ⟨_, gi, h⟩ := zb_some h
    obtain ⟨r5, g, h⟩ := zb_some h
    refine zc_Vv (as := [.int i1, .int (11 : Int32), .int v3]) hX gi (zt_X0_setFact (d := d - 1) (by omega) g) zl_X0_94 rfl dX0_goOff_16 ⟨rfl, rfl, Nat.le_of_ble_eq_true rfl⟩ ⟨by omega, by omega⟩ ?_
    refine zw_iconst (v := (0 : Int32)) hX dX0_goOff_19 (by decide) ?_
    obtain rfl := Option.some.inj h
    exact zw_iret hX hr dX0_goOff_20 rfl ⟨rfl, rfl⟩
set_option maxHeartbeats 4000000 in
set_option maxRecDepth 100000 in
theorem zt_X10_isCaught {l : Launch} {V : zm_V} {N : Nat} {S : zm_S} {out : (Int32 × zm_S)} {d : Nat} {a0 : Nat} {i1 : Int32} (hd : 1 ≤ d) (h : zf_X10_isCaught N a0 i1 S = some out) : zm_Met l zk_E V yX10_isCaught (.code yX10_isCaught cX10_isCaught 2 (some .boolean)) d [.ref a0, .int i1] S 0 0 (zo_i out) zo_x := by
  refine zm_of (by decide +kernel) (Nat.le_of_ble_eq_true rfl) ?_
  intro p e R s m args below meth c hRR hX hr hxt
  have hR : R.frames = d ∧ R.locals = 64 * d := by rw [hRR]; exact ⟨rfl, rfl⟩
  have hX : zm_X p R s m args meth c RX10 "isCaught" cX10_isCaught 2 zk_E V 0 0 := hX
  unfold zf_X10_isCaught at h
  refine zw_sub (lv' := [(0, .ref a0), (1, .int i1)]) (List.forall_mem_cons.mpr ⟨rfl, (List.forall_mem_cons.mpr ⟨rfl, zs_nil⟩)⟩) ?_
  refine zw_aload_n hX dX10_isCaught_0 rfl ?_
  obtain ⟨b1, g, h⟩ := zb_some h
  refine zw_getr hX zl_X10_29 dX10_isCaught_1 g ?_
  refine zw_iload_n hX dX10_isCaught_4 rfl ?_
  obtain ⟨b2, g, h⟩ := zb_some h
  refine zw_xr hX dX10_isCaught_5 g ?_
  refine zw_iconst (v := (3 : Int32)) hX dX10_isCaught_6 (by decide) ?_
  obtain ⟨v3, g, h⟩ := zb_some h
  refine zw_xi hX dX10_isCaught_7 g ?_
  refine zw_iconst (v := (-1 : Int32)) hX dX10_isCaught_8 (by decide) ?_
  refine zw_icmp_eq (tgt := 16) hX dX10_isCaught_9 (by decide) (fun c9 => ?_) (fun c9 => ?_)
  · rw [if_pos c9] at h
    refine zw_iconst (v := (0 : Int32)) hX dX10_isCaught_16 (by decide) ?_
    obtain rfl := Option.some.inj h
    exact zw_iret hX hr dX10_isCaught_17 rfl ⟨rfl, rfl⟩
  · rw [if_neg c9] at h
    refine zw_iconst (v := (1 : Int32)) hX dX10_isCaught_12 (by decide) ?_
    refine zw_goto (tgt := 17) hX dX10_isCaught_13 (by decide) ?_
    obtain rfl := Option.some.inj h
    exact zw_iret hX hr dX10_isCaught_17 rfl ⟨rfl, rfl⟩
set_option maxHeartbeats 4000000 in
set_option maxRecDepth 100000 in
theorem zt_X10_putInto_J56 {p : Program} {l : Launch} {e : Env} {R : Room} {s : State} {m : MethodId} {args : Array Value} {below : List Frame} {meth : Method} {c : Code} {V : zm_V} {mc ms d rc rs : Nat} (hX : zm_X p R s m args meth c RX10 "putInto" cX10_putInto 8 zk_E V mc ms) (hr : meth.sig.returnType = none) (hR : R.frames = d ∧ R.locals = 64 * d) (hd : 2 ≤ d) {N : Nat} {i5 : Int32} {a6 : Nat} {t0 : Nat} {t1 : Int32} {t2 : Int32} {out : (Unit × zm_S)} {S : zm_S} (h : zf_X10_putInto_J56 N i5 a6 t0 t1 t2 S = some out) : zw p l e R s m args below meth c (vx_MQ below (zm_Qc zk_E V (zo_v out)) (zm_XC zk_E V zo_x) args s mc ms (fun q => V.2.2.2.1 ≤ q)) 8 zk_E V mc ms 56 [(5, .int i5), (6, .ref a6)] [.int t2, .int t1, .ref t0] S rc rs := by
  unfold zf_X10_putInto_J56 at h
  obtain ⟨S7, g, h⟩ := zb_some h
  refine zw_si hX dX10_putInto_56 g ?_
  refine zw_aload hX dX10_putInto_57 rfl ?_
  refine zw_iconst (v := (5 : Int32)) hX dX10_putInto_59 (by decide) ?_
  refine zw_iload hX dX10_putInto_60 rfl ?_
  obtain ⟨S8, g, h⟩ := zb_some h
  refine zw_si hX dX10_putInto_62 g ?_
  obtain rfl := Option.some.inj h
  exact zw_vret hX hr dX10_putInto_63 ⟨rfl, rfl⟩
set_option maxHeartbeats 4000000 in
set_option maxRecDepth 100000 in
theorem zt_X10_putInto_J41 {p : Program} {l : Launch} {e : Env} {R : Room} {s : State} {m : MethodId} {args : Array Value} {below : List Frame} {meth : Method} {c : Code} {V : zm_V} {mc ms d rc rs : Nat} (hX : zm_X p R s m args meth c RX10 "putInto" cX10_putInto 8 zk_E V mc ms) (hr : meth.sig.returnType = none) (hR : R.frames = d ∧ R.locals = 64 * d) (hd : 2 ≤ d) {N : Nat} {i4 : Int32} {i5 : Int32} {a6 : Nat} {i7 : Int32} {t0 : Nat} {t1 : Int32} {t2 : Int32} {out : (Unit × zm_S)} {S : zm_S} (h : zf_X10_putInto_J41 N i4 i5 a6 i7 t0 t1 t2 S = some out) : zw p l e R s m args below meth c (vx_MQ below (zm_Qc zk_E V (zo_v out)) (zm_XC zk_E V zo_x) args s mc ms (fun q => V.2.2.2.1 ≤ q)) 8 zk_E V mc ms 41 [(4, .int i4), (5, .int i5), (6, .ref a6), (7, .int i7)] [.int t2, .int t1, .ref t0] S rc rs := by
  unfold zf_X10_putInto_J41 at h
  obtain ⟨S6, g, h⟩ := zb_some h
  refine zw_si hX dX10_putInto_41 g ?_
  refine zw_aload hX dX10_putInto_42 rfl ?_
  refine zw_iconst (v := (2 : Int32)) hX dX10_putInto_44 (by decide) ?_
  refine zw_iload hX dX10_putInto_45 rfl ?_
  refine zw_if_eq (tgt := 54) hX dX10_putInto_47 (by decide) (fun c47 => ?_) (fun c47 => ?_)
  · rw [if_pos c47] at h
    refine zw_iload hX dX10_putInto_54 rfl ?_
    refine zw_sub (lv' := [(5, .int i5), (6, .ref a6)]) (List.forall_mem_cons.mpr ⟨rfl, (List.forall_mem_cons.mpr ⟨rfl, zs_nil⟩)⟩) ?_
    exact zt_X10_putInto_J56 hX hr hR hd h
  · rw [if_neg c47] at h
    refine zw_iconst (v := (-1 : Int32)) hX dX10_putInto_50 (by decide) ?_
    refine zw_goto (tgt := 56) hX dX10_putInto_51 (by decide) ?_
    refine zw_sub (lv' := [(5, .int i5), (6, .ref a6)]) (List.forall_mem_cons.mpr ⟨rfl, (List.forall_mem_cons.mpr ⟨rfl, zs_nil⟩)⟩) ?_
    exact zt_X10_putInto_J56 hX hr hR hd h
set_option maxHeartbeats 4000000 in
set_option maxRecDepth 100000 in
theorem zt_X10_putInto_J21 {p : Program} {l : Launch} {e : Env} {R : Room} {s : State} {m : MethodId} {args : Array Value} {below : List Frame} {meth : Method} {c : Code} {V : zm_V} {mc ms d rc rs : Nat} (hX : zm_X p R s m args meth c RX10 "putInto" cX10_putInto 8 zk_E V mc ms) (hr : meth.sig.returnType = none) (hR : R.frames = d ∧ R.locals = 64 * d) (hd : 2 ≤ d) {N : Nat} {i2 : Int32} {i3 : Int32} {i4 : Int32} {i5 : Int32} {a6 : Nat} {t0 : Int32} {out : (Unit × zm_S)} {S : zm_S} (h : zf_X10_putInto_J21 N i2 i3 i4 i5 a6 t0 S = some out) : zw p l e R s m args below meth c (vx_MQ below (zm_Qc zk_E V (zo_v out)) (zm_XC zk_E V zo_x) args s mc ms (fun q => V.2.2.2.1 ≤ q)) 8 zk_E V mc ms 21 [(2, .int i2), (3, .int i3), (4, .int i4), (5, .int i5), (6, .ref a6)] [.int t0] S rc rs := by
  unfold zf_X10_putInto_J21 at h
  refine zw_istore hX dX10_putInto_21 (by decide) ?_
  refine zw_aload hX dX10_putInto_23 rfl ?_
  refine zw_iconst (v := (0 : Int32)) hX dX10_putInto_25 (by decide) ?_
  refine zw_iload_n hX dX10_putInto_26 rfl ?_
  obtain ⟨S5, g, h⟩ := zb_some h
  refine zw_si hX dX10_putInto_27 g ?_
  refine zw_aload hX dX10_putInto_28 rfl ?_
  refine zw_iconst (v := (1 : Int32)) hX dX10_putInto_30 (by decide) ?_
  refine zw_iload hX dX10_putInto_31 rfl ?_
  refine zw_if_eq (tgt := 40) hX dX10_putInto_33 (by decide) (fun c33 => ?_) (fun c33 => ?_)
  · rw [if_pos c33] at h
    refine zw_iload_n hX dX10_putInto_40 rfl ?_
    refine zw_sub (lv' := [(4, .int i4), (5, .int i5), (6, .ref a6), (7, .int t0)]) (List.forall_mem_cons.mpr ⟨rfl, (List.forall_mem_cons.mpr ⟨rfl, (List.forall_mem_cons.mpr ⟨rfl, (List.forall_mem_cons.mpr ⟨rfl, zs_nil⟩)⟩)⟩)⟩) ?_
    exact zt_X10_putInto_J41 hX hr hR hd h
  · rw [if_neg c33] at h
    refine zw_iconst (v := (-1 : Int32)) hX dX10_putInto_36 (by decide) ?_
    refine zw_goto (tgt := 41) hX dX10_putInto_37 (by decide) ?_
    refine zw_sub (lv' := [(4, .int i4), (5, .int i5), (6, .ref a6), (7, .int t0)]) (List.forall_mem_cons.mpr ⟨rfl, (List.forall_mem_cons.mpr ⟨rfl, (List.forall_mem_cons.mpr ⟨rfl, (List.forall_mem_cons.mpr ⟨rfl, zs_nil⟩)⟩)⟩)⟩) ?_
    exact zt_X10_putInto_J41 hX hr hR hd h
set_option maxHeartbeats 4000000 in
set_option maxRecDepth 100000 in
theorem zt_X10_putInto {l : Launch} {V : zm_V} {N : Nat} {S : zm_S} {out : (Unit × zm_S)} {d : Nat} {a0 : Nat} {i1 : Int32} {i2 : Int32} {i3 : Int32} {i4 : Int32} {i5 : Int32} (hd : 2 ≤ d) (h : zf_X10_putInto N a0 i1 i2 i3 i4 i5 S = some out) : zm_Met l zk_E V yX10_putInto (.code yX10_putInto cX10_putInto 8 none) d [.ref a0, .int i1, .int i2, .int i3, .int i4, .int i5] S 0 0 (zo_v out) zo_x := by
  refine zm_of (by decide +kernel) (Nat.le_of_ble_eq_true rfl) ?_
  intro p e R s m args below meth c hRR hX hr hxt
  have hR : R.frames = d ∧ R.locals = 64 * d := by rw [hRR]; exact ⟨rfl, rfl⟩
  have hX : zm_X p R s m args meth c RX10 "putInto" cX10_putInto 8 zk_E V 0 0 := hX
  unfold zf_X10_putInto at h
  refine zw_sub (lv' := [(0, .ref a0), (1, .int i1), (2, .int i2), (3, .int i3), (4, .int i4), (5, .int i5)]) (List.forall_mem_cons.mpr ⟨rfl, (List.forall_mem_cons.mpr ⟨rfl, (List.forall_mem_cons.mpr ⟨rfl, (List.forall_mem_cons.mpr ⟨rfl, (List.forall_mem_cons.mpr ⟨rfl, (List.forall_mem_cons.mpr ⟨rfl, zs_nil⟩)⟩)⟩)⟩)⟩)⟩) ?_
  refine zw_aload_n hX dX10_putInto_0 rfl ?_
  obtain ⟨b1, g, h⟩ := zb_some h
  refine zw_getr hX zl_X10_29 dX10_putInto_1 g ?_
  refine zw_iload_n hX dX10_putInto_4 rfl ?_
  obtain ⟨b2, g, h⟩ := zb_some h
  refine zw_xr hX dX10_putInto_5 g ?_
  refine zw_astore hX dX10_putInto_6 (by decide) ?_
  refine zw_iload_n hX dX10_putInto_8 rfl ?_
  refine zw_aload_n hX dX10_putInto_9 rfl ?_
  obtain ⟨_, gi, h⟩ := zb_some h
  obtain ⟨r4, g, h⟩ := zb_some h
  refine zc_Vi (as := []) hX gi (zt_X10_outside (d := d - 1) (by omega) g) zl_X10_102 rfl dX10_putInto_10 ⟨rfl, rfl, Nat.le_of_ble_eq_true rfl⟩ ⟨by omega, by omega⟩ ?_
  refine zw_icmp_ne (tgt := 20) hX dX10_putInto_13 (by decide) (fun c13 => ?_) (fun c13 => ?_)
  · rw [if_neg c13] at h
    refine zw_iconst (v := (0 : Int32)) hX dX10_putInto_20 (by decide) ?_
    refine zw_sub (lv' := [(2, .int i2), (3, .int i3), (4, .int i4), (5, .int i5), (6, .ref b2)]) (List.forall_mem_cons.mpr ⟨rfl, (List.forall_mem_cons.mpr ⟨rfl, (List.forall_mem_cons.mpr ⟨rfl, (List.forall_mem_cons.mpr ⟨rfl, (List.forall_mem_cons.mpr ⟨rfl, zs_nil⟩)⟩)⟩)⟩)⟩) ?_
    exact zt_X10_putInto_J21 hX hr hR hd h
  · rw [if_pos c13] at h
    refine zw_iconst (v := (1 : Int32)) hX dX10_putInto_16 (by decide) ?_
    refine zw_goto (tgt := 21) hX dX10_putInto_17 (by decide) ?_
    refine zw_sub (lv' := [(2, .int i2), (3, .int i3), (4, .int i4), (5, .int i5), (6, .ref b2)]) (List.forall_mem_cons.mpr ⟨rfl, (List.forall_mem_cons.mpr ⟨rfl, (List.forall_mem_cons.mpr ⟨rfl, (List.forall_mem_cons.mpr ⟨rfl, (List.forall_mem_cons.mpr ⟨rfl, zs_nil⟩)⟩)⟩)⟩)⟩) ?_
    exact zt_X10_putInto_J21 hX hr hR hd h
set_option maxHeartbeats 4000000 in
set_option maxRecDepth 100000 in
theorem zt_X0_comeIn_J16 {p : Program} {l : Launch} {e : Env} {R : Room} {s : State} {m : MethodId} {args : Array Value} {below : List Frame} {meth : Method} {c : Code} {V : zm_V} {mc ms d rc rs : Nat} (hX : zm_X p R s m args meth c RX0 "comeIn" cX0_comeIn 6 zk_E V mc ms) (hr : meth.sig.returnType = none) (hR : R.frames = d ∧ R.locals = 64 * d) (hd : 3 ≤ d) {N : Nat} {a0 : Nat} {i1 : Int32} {i2 : Int32} {i3 : Int32} {i4 : Int32} {t0 : Int32} {out : (Unit × zm_S)} {S : zm_S} (h : zf_X0_comeIn_J16 N a0 i1 i2 i3 i4 t0 S = some out) : zw p l e R s m args below meth c (vx_MQ below (zm_Qc zk_E V (zo_v out)) (zm_XC zk_E V zo_x) args s mc ms (fun q => V.2.2.2.1 ≤ q)) 6 zk_E V mc ms 16 [(0, .ref a0), (1, .int i1), (2, .int i2), (3, .int i3), (4, .int i4)] [.int t0] S rc rs := by
  unfold zf_X0_comeIn_J16 at h
  refine zw_istore hX dX0_comeIn_16 (by decide) ?_
  refine zw_aload_n hX dX0_comeIn_18 rfl ?_
  obtain ⟨b3, g, h⟩ := zb_some h
  refine zw_getr hX zl_X0_44 dX0_comeIn_19 g ?_
  refine zw_iload_n hX dX0_comeIn_22 rfl ?_
  refine zw_iload_n hX dX0_comeIn_23 rfl ?_
  refine zw_aload_n hX dX0_comeIn_24 rfl ?_
  refine zw_iload_n hX dX0_comeIn_25 rfl ?_
  refine zw_iload hX dX0_comeIn_26 rfl ?_
  obtain ⟨_, gi, h⟩ := zb_some h
  obtain ⟨r5, g, h⟩ := zb_some h
  refine zc_Vi (as := [.int i2, .int t0]) hX gi (zt_X0_factOf (d := d - 1) (by omega) g) zl_X0_117 rfl dX0_comeIn_28 ⟨rfl, rfl, Nat.le_of_ble_eq_true rfl⟩ ⟨by omega, by omega⟩ ?_
  refine zw_aload_n hX dX0_comeIn_31 rfl ?_
  refine zw_iload_n hX dX0_comeIn_32 rfl ?_
  refine zw_iload hX dX0_comeIn_33 rfl ?_
  refine zw_iconst (v := (1 : Int32)) hX dX0_comeIn_35 (by decide) ?_
  refine zw_iadd hX dX0_comeIn_36 ?_
  obtain ⟨_, gi, h⟩ := zb_some h
  obtain ⟨r7, g, h⟩ := zb_some h
  refine zc_Vi (as := [.int i2, .int (t0 + (1 : Int32))]) hX gi (zt_X0_factOf (d := d - 1) (by omega) g) zl_X0_117 rfl dX0_comeIn_37 ⟨rfl, rfl, Nat.le_of_ble_eq_true rfl⟩ ⟨by omega, by omega⟩ ?_
  refine zw_iload hX dX0_comeIn_40 rfl ?_
  obtain ⟨_, gi, h⟩ := zb_some h
  obtain ⟨r9, g, h⟩ := zb_some h
  refine zc_Vv (as := [.int i1, .int i3, .int r5.1, .int r7.1, .int i4]) hX gi (zt_X10_putInto (d := d - 1) (by omega) g) zl_X0_176 rfl dX0_comeIn_42 ⟨rfl, rfl, Nat.le_of_ble_eq_true rfl⟩ ⟨by omega, by omega⟩ ?_
  obtain rfl := Option.some.inj h
  exact zw_vret hX hr dX0_comeIn_45 ⟨rfl, rfl⟩
set_option maxHeartbeats 4000000 in
set_option maxRecDepth 100000 in
theorem zt_X0_comeIn {l : Launch} {V : zm_V} {N : Nat} {S : zm_S} {out : (Unit × zm_S)} {d : Nat} {a0 : Nat} {i1 : Int32} {i2 : Int32} {i3 : Int32} {i4 : Int32} (hd : 3 ≤ d) (h : zf_X0_comeIn N a0 i1 i2 i3 i4 S = some out) : zm_Met l zk_E V yX0_comeIn (.code yX0_comeIn cX0_comeIn 6 none) d [.ref a0, .int i1, .int i2, .int i3, .int i4] S 0 0 (zo_v out) zo_x := by
  refine zm_of (by decide +kernel) (Nat.le_of_ble_eq_true rfl) ?_
  intro p e R s m args below meth c hRR hX hr hxt
  have hR : R.frames = d ∧ R.locals = 64 * d := by rw [hRR]; exact ⟨rfl, rfl⟩
  have hX : zm_X p R s m args meth c RX0 "comeIn" cX0_comeIn 6 zk_E V 0 0 := hX
  unfold zf_X0_comeIn at h
  refine zw_sub (lv' := [(0, .ref a0), (1, .int i1), (2, .int i2), (3, .int i3), (4, .int i4)]) (List.forall_mem_cons.mpr ⟨rfl, (List.forall_mem_cons.mpr ⟨rfl, (List.forall_mem_cons.mpr ⟨rfl, (List.forall_mem_cons.mpr ⟨rfl, (List.forall_mem_cons.mpr ⟨rfl, zs_nil⟩)⟩)⟩)⟩)⟩) ?_
  refine zw_iload_n hX dX0_comeIn_0 rfl ?_
  refine zw_aload_n hX dX0_comeIn_1 rfl ?_
  refine zw_iload_n hX dX0_comeIn_2 rfl ?_
  refine zw_iconst (v := (0 : Int32)) hX dX0_comeIn_3 (by decide) ?_
  obtain ⟨_, gi, h⟩ := zb_some h
  obtain ⟨r2, g, h⟩ := zb_some h
  refine zc_Vi (as := [.int i2, .int (0 : Int32)]) hX gi (zt_X0_factOf (d := d - 1) (by omega) g) zl_X0_117 rfl dX0_comeIn_4 ⟨rfl, rfl, Nat.le_of_ble_eq_true rfl⟩ ⟨by omega, by omega⟩ ?_
  refine zw_icmp_ne (tgt := 14) hX dX0_comeIn_7 (by decide) (fun c7 => ?_) (fun c7 => ?_)
  · rw [if_neg c7] at h
    refine zw_bipush (v := (6 : Int32)) hX dX0_comeIn_14 (by decide) ?_
    refine zw_sub (lv' := [(0, .ref a0), (1, .int i1), (2, .int i2), (3, .int i3), (4, .int i4)]) (List.forall_mem_cons.mpr ⟨rfl, (List.forall_mem_cons.mpr ⟨rfl, (List.forall_mem_cons.mpr ⟨rfl, (List.forall_mem_cons.mpr ⟨rfl, (List.forall_mem_cons.mpr ⟨rfl, zs_nil⟩)⟩)⟩)⟩)⟩) ?_
    exact zt_X0_comeIn_J16 hX hr hR hd h
  · rw [if_pos c7] at h
    refine zw_iconst (v := (4 : Int32)) hX dX0_comeIn_10 (by decide) ?_
    refine zw_goto (tgt := 16) hX dX0_comeIn_11 (by decide) ?_
    refine zw_sub (lv' := [(0, .ref a0), (1, .int i1), (2, .int i2), (3, .int i3), (4, .int i4)]) (List.forall_mem_cons.mpr ⟨rfl, (List.forall_mem_cons.mpr ⟨rfl, (List.forall_mem_cons.mpr ⟨rfl, (List.forall_mem_cons.mpr ⟨rfl, (List.forall_mem_cons.mpr ⟨rfl, zs_nil⟩)⟩)⟩)⟩)⟩) ?_
    exact zt_X0_comeIn_J16 hX hr hR hd h
set_option maxHeartbeats 4000000 in
set_option maxRecDepth 100000 in
theorem zt_X0_cardRefusal {l : Launch} {V : zm_V} {N : Nat} {S : zm_S} {out : (Int32 × zm_S)} {d : Nat} {a0 : Nat} {i1 : Int32} {i2 : Int32} {i3 : Int32} (hd : 3 ≤ d) (h : zf_X0_cardRefusal N a0 i1 i2 i3 S = some out) : zm_Met l zk_E V yX0_cardRefusal (.code yX0_cardRefusal cX0_cardRefusal 4 (some .int)) d [.ref a0, .int i1, .int i2, .int i3] S 0 0 (zo_i out) zo_x := by
  refine zm_of (by decide +kernel) (Nat.le_of_ble_eq_true rfl) ?_
  intro p e R s m args below meth c hRR hX hr hxt
  have hR : R.frames = d ∧ R.locals = 64 * d := by rw [hRR]; exact ⟨rfl, rfl⟩
  have hX : zm_X p R s m args meth c RX0 "cardRefusal" cX0_cardRefusal 4 zk_E V 0 0 := hX
  unfold zf_X0_cardRefusal at h
  refine zw_sub (lv' := [(0, .ref a0), (1, .int i1), (2, .int i2), (3, .int i3)]) (List.forall_mem_cons.mpr ⟨rfl, (List.forall_mem_cons.mpr ⟨rfl, (List.forall_mem_cons.mpr ⟨rfl, (List.forall_mem_cons.mpr ⟨rfl, zs_nil⟩)⟩)⟩)⟩) ?_
  refine zw_aload_n hX dX0_cardRefusal_0 rfl ?_
  obtain ⟨b1, g, h⟩ := zb_some h
  refine zw_getr hX zl_X0_24 dX0_cardRefusal_1 g ?_
  refine zw_iload_n hX dX0_cardRefusal_4 rfl ?_
  obtain ⟨b2, g, h⟩ := zb_some h
  refine zw_xr hX dX0_cardRefusal_5 g ?_
  refine zw_iconst (v := (2 : Int32)) hX dX0_cardRefusal_6 (by decide) ?_
  obtain ⟨v3, g, h⟩ := zb_some h
  refine zw_xi hX dX0_cardRefusal_7 g ?_
  refine zw_iload_n hX dX0_cardRefusal_8 rfl ?_
  refine zw_icmp_lt (tgt := 14) hX dX0_cardRefusal_9 (by decide) (fun c9 => ?_) (fun c9 => ?_)
  · rw [if_pos c9] at h
    refine zw_aload_n hX dX0_cardRefusal_14 rfl ?_
    obtain ⟨b4, g, h⟩ := zb_some h
    refine zw_getr hX zl_X0_24 dX0_cardRefusal_15 g ?_
    refine zw_iload_n hX dX0_cardRefusal_18 rfl ?_
    obtain ⟨b5, g, h⟩ := zb_some h
    refine zw_xr hX dX0_cardRefusal_19 g ?_
    refine zw_iconst (v := (1 : Int32)) hX dX0_cardRefusal_20 (by decide) ?_
    obtain ⟨v6, g, h⟩ := zb_some h
    refine zw_xi hX dX0_cardRefusal_21 g ?_
    refine zw_iload_n hX dX0_cardRefusal_22 rfl ?_
    refine zw_icmp_ge (tgt := 28) hX dX0_cardRefusal_23 (by decide) (fun c23 => ?_) (fun c23 => ?_)
    · rw [if_pos c23] at h
      refine zw_aload_n hX dX0_cardRefusal_28 rfl ?_
      refine zw_bipush (v := (100 : Int32)) hX dX0_cardRefusal_29 (by decide) ?_
      refine zw_iload_n hX dX0_cardRefusal_31 rfl ?_
      refine zw_iadd hX dX0_cardRefusal_32 ?_
      refine zw_iload_n hX dX0_cardRefusal_33 rfl ?_
      refine zw_iload_n hX dX0_cardRefusal_34 rfl ?_
      obtain ⟨_, gi, h⟩ := zb_some h
      obtain ⟨r8, g, h⟩ := zb_some h
      refine zc_Vi (as := [.int ((100 : Int32) + i1), .int i3, .int i2]) hX gi (zt_X0_isNoted (d := d - 1) (by omega) g) zl_X0_210 rfl dX0_cardRefusal_35 ⟨rfl, rfl, Nat.le_of_ble_eq_true rfl⟩ ⟨by omega, by omega⟩ ?_
      refine zw_if_eq (tgt := 45) hX dX0_cardRefusal_38 (by decide) (fun c38 => ?_) (fun c38 => ?_)
      · rw [if_pos c38] at h
        refine zw_iconst (v := (0 : Int32)) hX dX0_cardRefusal_45 (by decide) ?_
        obtain rfl := Option.some.inj h
        exact zw_iret hX hr dX0_cardRefusal_46 rfl ⟨rfl, rfl⟩
      · rw [if_neg c38] at h
        refine zw_iconst (v := (3 : Int32)) hX dX0_cardRefusal_41 (by decide) ?_
        refine zw_goto (tgt := 46) hX dX0_cardRefusal_42 (by decide) ?_
        obtain rfl := Option.some.inj h
        exact zw_iret hX hr dX0_cardRefusal_46 rfl ⟨rfl, rfl⟩
    · rw [if_neg c23] at h
      refine zw_iconst (v := (2 : Int32)) hX dX0_cardRefusal_26 (by decide) ?_
      obtain rfl := Option.some.inj h
      exact zw_iret hX hr dX0_cardRefusal_27 rfl ⟨rfl, rfl⟩
  · rw [if_neg c9] at h
    refine zw_iconst (v := (1 : Int32)) hX dX0_cardRefusal_12 (by decide) ?_
    obtain rfl := Option.some.inj h
    exact zw_iret hX hr dX0_cardRefusal_13 rfl ⟨rfl, rfl⟩
set_option maxHeartbeats 4000000 in
set_option maxRecDepth 100000 in
theorem zt_X10_groupOf {l : Launch} {V : zm_V} {N : Nat} {S : zm_S} {out : (Int32 × zm_S)} {d : Nat} {a0 : Nat} {i1 : Int32} (hd : 1 ≤ d) (h : zf_X10_groupOf N a0 i1 S = some out) : zm_Met l zk_E V yX10_groupOf (.code yX10_groupOf cX10_groupOf 2 (some .int)) d [.ref a0, .int i1] S 0 0 (zo_i out) zo_x := by
  refine zm_of (by decide +kernel) (Nat.le_of_ble_eq_true rfl) ?_
  intro p e R s m args below meth c hRR hX hr hxt
  have hR : R.frames = d ∧ R.locals = 64 * d := by rw [hRR]; exact ⟨rfl, rfl⟩
  have hX : zm_X p R s m args meth c RX10 "groupOf" cX10_groupOf 2 zk_E V 0 0 := hX
  unfold zf_X10_groupOf at h
  refine zw_sub (lv' := [(0, .ref a0), (1, .int i1)]) (List.forall_mem_cons.mpr ⟨rfl, (List.forall_mem_cons.mpr ⟨rfl, zs_nil⟩)⟩) ?_
  refine zw_aload_n hX dX10_groupOf_0 rfl ?_
  obtain ⟨b1, g, h⟩ := zb_some h
  refine zw_getr hX zl_X10_29 dX10_groupOf_1 g ?_
  refine zw_iload_n hX dX10_groupOf_4 rfl ?_
  obtain ⟨b2, g, h⟩ := zb_some h
  refine zw_xr hX dX10_groupOf_5 g ?_
  refine zw_bipush (v := (6 : Int32)) hX dX10_groupOf_6 (by decide) ?_
  obtain ⟨v3, g, h⟩ := zb_some h
  refine zw_xi hX dX10_groupOf_8 g ?_
  obtain rfl := Option.some.inj h
  exact zw_iret hX hr dX10_groupOf_9 rfl ⟨rfl, rfl⟩
set_option maxHeartbeats 4000000 in
set_option maxRecDepth 100000 in
theorem zt_X10_zoneOf {l : Launch} {V : zm_V} {N : Nat} {S : zm_S} {out : (Int32 × zm_S)} {d : Nat} {a0 : Nat} {i1 : Int32} (hd : 1 ≤ d) (h : zf_X10_zoneOf N a0 i1 S = some out) : zm_Met l zk_E V yX10_zoneOf (.code yX10_zoneOf cX10_zoneOf 2 (some .int)) d [.ref a0, .int i1] S 0 0 (zo_i out) zo_x := by
  refine zm_of (by decide +kernel) (Nat.le_of_ble_eq_true rfl) ?_
  intro p e R s m args below meth c hRR hX hr hxt
  have hR : R.frames = d ∧ R.locals = 64 * d := by rw [hRR]; exact ⟨rfl, rfl⟩
  have hX : zm_X p R s m args meth c RX10 "zoneOf" cX10_zoneOf 2 zk_E V 0 0 := hX
  unfold zf_X10_zoneOf at h
  refine zw_sub (lv' := [(0, .ref a0), (1, .int i1)]) (List.forall_mem_cons.mpr ⟨rfl, (List.forall_mem_cons.mpr ⟨rfl, zs_nil⟩)⟩) ?_
  refine zw_iload_n hX dX10_zoneOf_0 rfl ?_
  refine zw_if_lt (tgt := 30) hX dX10_zoneOf_1 (by decide) (fun c1 => ?_) (fun c1 => ?_)
  · rw [if_pos c1] at h
    refine zw_iconst (v := (-1 : Int32)) hX dX10_zoneOf_30 (by decide) ?_
    obtain rfl := Option.some.inj h
    exact zw_iret hX hr dX10_zoneOf_31 rfl ⟨rfl, rfl⟩
  · rw [if_neg c1] at h
    refine zw_iload_n hX dX10_zoneOf_4 rfl ?_
    refine zw_aload_n hX dX10_zoneOf_5 rfl ?_
    obtain ⟨b1, g, h⟩ := zb_some h
    refine zw_getr hX zl_X10_44 dX10_zoneOf_6 g ?_
    obtain ⟨v2, g, h⟩ := zb_some h
    refine zw_getNi hX zl_X10_48 dX10_zoneOf_9 g ?_
    refine zw_icmp_ge (tgt := 30) hX dX10_zoneOf_12 (by decide) (fun c12 => ?_) (fun c12 => ?_)
    · rw [if_pos c12] at h
      refine zw_iconst (v := (-1 : Int32)) hX dX10_zoneOf_30 (by decide) ?_
      obtain rfl := Option.some.inj h
      exact zw_iret hX hr dX10_zoneOf_31 rfl ⟨rfl, rfl⟩
    · rw [if_neg c12] at h
      refine zw_aload_n hX dX10_zoneOf_15 rfl ?_
      obtain ⟨b3, g, h⟩ := zb_some h
      refine zw_getr hX zl_X10_44 dX10_zoneOf_16 g ?_
      obtain ⟨b4, g, h⟩ := zb_some h
      refine zw_getNr hX zl_X10_52 dX10_zoneOf_19 g ?_
      refine zw_iload_n hX dX10_zoneOf_22 rfl ?_
      obtain ⟨v5, g, h⟩ := zb_some h
      refine zw_xi hX dX10_zoneOf_23 g ?_
      refine zw_bipush (v := (10 : Int32)) hX dX10_zoneOf_24 (by decide) ?_
      refine zw_irem hX dX10_zoneOf_26 (by decide) ?_
      refine zw_goto (tgt := 31) hX dX10_zoneOf_27 (by decide) ?_
      obtain rfl := Option.some.inj h
      exact zw_iret hX hr dX10_zoneOf_31 rfl ⟨rfl, rfl⟩
set_option maxHeartbeats 4000000 in
set_option maxRecDepth 100000 in
theorem zt_X0_isInSpan {l : Launch} {V : zm_V} {N : Nat} {S : zm_S} {out : (Int32 × zm_S)} {d : Nat} {i0 : Int32} {i1 : Int32} {i2 : Int32} (hd : 1 ≤ d) (h : zf_X0_isInSpan N i0 i1 i2 S = some out) : zm_Met l zk_E V yX0_isInSpan (.code yX0_isInSpan cX0_isInSpan 3 (some .boolean)) d [.int i0, .int i1, .int i2] S 0 0 (zo_i out) zo_x := by
  refine zm_of (by decide +kernel) (Nat.le_of_ble_eq_true rfl) ?_
  intro p e R s m args below meth c hRR hX hr hxt
  have hR : R.frames = d ∧ R.locals = 64 * d := by rw [hRR]; exact ⟨rfl, rfl⟩
  have hX : zm_X p R s m args meth c RX0 "isInSpan" cX0_isInSpan 3 zk_E V 0 0 := hX
  unfold zf_X0_isInSpan at h
  refine zw_sub (lv' := [(0, .int i0), (1, .int i1), (2, .int i2)]) (List.forall_mem_cons.mpr ⟨rfl, (List.forall_mem_cons.mpr ⟨rfl, (List.forall_mem_cons.mpr ⟨rfl, zs_nil⟩)⟩)⟩) ?_
  refine zw_iload_n hX dX0_isInSpan_0 rfl ?_
  refine zw_iload_n hX dX0_isInSpan_1 rfl ?_
  refine zw_icmp_gt (tgt := 21) hX dX0_isInSpan_2 (by decide) (fun c2 => ?_) (fun c2 => ?_)
  · rw [if_pos c2] at h
    refine zw_iload_n hX dX0_isInSpan_21 rfl ?_
    refine zw_iload_n hX dX0_isInSpan_22 rfl ?_
    refine zw_icmp_le (tgt := 31) hX dX0_isInSpan_23 (by decide) (fun c23 => ?_) (fun c23 => ?_)
    · rw [if_pos c23] at h
      refine zw_iconst (v := (1 : Int32)) hX dX0_isInSpan_31 (by decide) ?_
      refine zw_goto (tgt := 36) hX dX0_isInSpan_32 (by decide) ?_
      obtain rfl := Option.some.inj h
      exact zw_iret hX hr dX0_isInSpan_36 rfl ⟨rfl, rfl⟩
    · rw [if_neg c23] at h
      refine zw_iload_n hX dX0_isInSpan_26 rfl ?_
      refine zw_iload_n hX dX0_isInSpan_27 rfl ?_
      refine zw_icmp_ge (tgt := 35) hX dX0_isInSpan_28 (by decide) (fun c28 => ?_) (fun c28 => ?_)
      · rw [if_pos c28] at h
        refine zw_iconst (v := (0 : Int32)) hX dX0_isInSpan_35 (by decide) ?_
        obtain rfl := Option.some.inj h
        exact zw_iret hX hr dX0_isInSpan_36 rfl ⟨rfl, rfl⟩
      · rw [if_neg c28] at h
        refine zw_iconst (v := (1 : Int32)) hX dX0_isInSpan_31 (by decide) ?_
        refine zw_goto (tgt := 36) hX dX0_isInSpan_32 (by decide) ?_
        obtain rfl := Option.some.inj h
        exact zw_iret hX hr dX0_isInSpan_36 rfl ⟨rfl, rfl⟩
  · rw [if_neg c2] at h
    refine zw_iload_n hX dX0_isInSpan_5 rfl ?_
    refine zw_iload_n hX dX0_isInSpan_6 rfl ?_
    refine zw_icmp_gt (tgt := 19) hX dX0_isInSpan_7 (by decide) (fun c7 => ?_) (fun c7 => ?_)
    · rw [if_pos c7] at h
      refine zw_iconst (v := (0 : Int32)) hX dX0_isInSpan_19 (by decide) ?_
      obtain rfl := Option.some.inj h
      exact zw_iret hX hr dX0_isInSpan_20 rfl ⟨rfl, rfl⟩
    · rw [if_neg c7] at h
      refine zw_iload_n hX dX0_isInSpan_10 rfl ?_
      refine zw_iload_n hX dX0_isInSpan_11 rfl ?_
      refine zw_icmp_ge (tgt := 19) hX dX0_isInSpan_12 (by decide) (fun c12 => ?_) (fun c12 => ?_)
      · rw [if_pos c12] at h
        refine zw_iconst (v := (0 : Int32)) hX dX0_isInSpan_19 (by decide) ?_
        obtain rfl := Option.some.inj h
        exact zw_iret hX hr dX0_isInSpan_20 rfl ⟨rfl, rfl⟩
      · rw [if_neg c12] at h
        refine zw_iconst (v := (1 : Int32)) hX dX0_isInSpan_15 (by decide) ?_
        refine zw_goto (tgt := 20) hX dX0_isInSpan_16 (by decide) ?_
        obtain rfl := Option.some.inj h
        exact zw_iret hX hr dX0_isInSpan_20 rfl ⟨rfl, rfl⟩
set_option maxHeartbeats 4000000 in
set_option maxRecDepth 100000 in
theorem zt_X0_hasRight_J127 {p : Program} {l : Launch} {e : Env} {R : Room} {s : State} {m : MethodId} {args : Array Value} {below : List Frame} {meth : Method} {c : Code} {V : zm_V} {mc ms d rc rs : Nat} (hX : zm_X p R s m args meth c RX0 "hasRight" cX0_hasRight 11 zk_E V mc ms) (hr : meth.sig.returnType = (some .boolean)) (hR : R.frames = d ∧ R.locals = 64 * d) (hd : 3 ≤ d) {N : Nat} {k : Nat → Int32 → Int32 → Int32 → Int32 → Int32 → zm_S → Option ((Int32 × zm_S) ⊕ ((Unit) × zm_S))} {a0 : Nat} {i3 : Int32} {i4 : Int32} {i5 : Int32} {i6 : Int32} {i7 : Int32} {i9 : Int32} {t0 : Int32} {res : (Int32 × zm_S) ⊕ ((Unit) × zm_S)} {out : (Int32 × zm_S)}   (hf : ∀ o, res = .inl o → o = out) (hk : ∀ (S' : zm_S), res = .inr ((), S') → zw p l e R s m args below meth c (vx_MQ below (zm_Qc zk_E V (zo_i out)) (zm_XC zk_E V zo_x) args s mc ms (fun q => V.2.2.2.1 ≤ q)) 11 zk_E V mc ms 159 [] [] S' rc rs) (hrec : ∀ (i7' : Int32) (S : zm_S), k a0 i3 i4 i5 i6 i7' S = some res → zw p l e R s m args below meth c (vx_MQ below (zm_Qc zk_E V (zo_i out)) (zm_XC zk_E V zo_x) args s mc ms (fun q => V.2.2.2.1 ≤ q)) 11 zk_E V mc ms 43 [(0, .ref a0), (3, .int i3), (4, .int i4), (5, .int i5), (6, .int i6), (7, .int i7')] [] S rc rs) {S : zm_S} (h : zf_X0_hasRight_J127 N k a0 i3 i4 i5 i6 i7 i9 t0 S = some res) : zw p l e R s m args below meth c (vx_MQ below (zm_Qc zk_E V (zo_i out)) (zm_XC zk_E V zo_x) args s mc ms (fun q => V.2.2.2.1 ≤ q)) 11 zk_E V mc ms 127 [(0, .ref a0), (3, .int i3), (4, .int i4), (5, .int i5), (6, .int i6), (7, .int i7), (9, .int i9)] [.int t0] S rc rs := by
  unfold zf_X0_hasRight_J127 at h
  refine zw_istore hX dX0_hasRight_127 (by decide) ?_
  refine zw_iload hX dX0_hasRight_129 rfl ?_
  refine zw_if_eq (tgt := 153) hX dX0_hasRight_131 (by decide) (fun c131 => ?_) (fun c131 => ?_)
  · rw [if_pos c131] at h
    refine zw_iinc (v := (i7 + (1 : Int32))) hX dX0_hasRight_153 rfl rfl (by decide) ?_
    refine zw_goto (tgt := 43) hX dX0_hasRight_156 (by decide) ?_
    refine zw_sub (lv' := [(0, .ref a0), (3, .int i3), (4, .int i4), (5, .int i5), (6, .int i6), (7, .int (i7 + (1 : Int32)))]) (List.forall_mem_cons.mpr ⟨rfl, (List.forall_mem_cons.mpr ⟨rfl, (List.forall_mem_cons.mpr ⟨rfl, (List.forall_mem_cons.mpr ⟨rfl, (List.forall_mem_cons.mpr ⟨rfl, (List.forall_mem_cons.mpr ⟨rfl, zs_nil⟩)⟩)⟩)⟩)⟩)⟩) ?_
    exact hrec _ _ h
  · rw [if_neg c131] at h
    refine zw_iload hX dX0_hasRight_134 rfl ?_
    refine zw_if_eq (tgt := 153) hX dX0_hasRight_136 (by decide) (fun c136 => ?_) (fun c136 => ?_)
    · rw [if_pos c136] at h
      refine zw_iinc (v := (i7 + (1 : Int32))) hX dX0_hasRight_153 rfl rfl (by decide) ?_
      refine zw_goto (tgt := 43) hX dX0_hasRight_156 (by decide) ?_
      refine zw_sub (lv' := [(0, .ref a0), (3, .int i3), (4, .int i4), (5, .int i5), (6, .int i6), (7, .int (i7 + (1 : Int32)))]) (List.forall_mem_cons.mpr ⟨rfl, (List.forall_mem_cons.mpr ⟨rfl, (List.forall_mem_cons.mpr ⟨rfl, (List.forall_mem_cons.mpr ⟨rfl, (List.forall_mem_cons.mpr ⟨rfl, (List.forall_mem_cons.mpr ⟨rfl, zs_nil⟩)⟩)⟩)⟩)⟩)⟩) ?_
      exact hrec _ _ h
    · rw [if_neg c136] at h
      refine zw_aload_n hX dX0_hasRight_139 rfl ?_
      refine zw_iload hX dX0_hasRight_140 rfl ?_
      refine zw_iload hX dX0_hasRight_142 rfl ?_
      refine zw_iload_n hX dX0_hasRight_144 rfl ?_
      obtain ⟨_, gi, h⟩ := zb_some h
      obtain ⟨r19, g, h⟩ := zb_some h
      refine zc_Vi (as := [.int i7, .int i4, .int i3]) hX gi (zt_X0_isNoted (d := d - 1) (by omega) g) zl_X0_210 rfl dX0_hasRight_145 ⟨rfl, rfl, Nat.le_of_ble_eq_true rfl⟩ ⟨by omega, by omega⟩ ?_
      refine zw_if_ne (tgt := 153) hX dX0_hasRight_148 (by decide) (fun c148 => ?_) (fun c148 => ?_)
      · rw [if_neg c148] at h
        refine zw_iinc (v := (i7 + (1 : Int32))) hX dX0_hasRight_153 rfl rfl (by decide) ?_
        refine zw_goto (tgt := 43) hX dX0_hasRight_156 (by decide) ?_
        refine zw_sub (lv' := [(0, .ref a0), (3, .int i3), (4, .int i4), (5, .int i5), (6, .int i6), (7, .int (i7 + (1 : Int32)))]) (List.forall_mem_cons.mpr ⟨rfl, (List.forall_mem_cons.mpr ⟨rfl, (List.forall_mem_cons.mpr ⟨rfl, (List.forall_mem_cons.mpr ⟨rfl, (List.forall_mem_cons.mpr ⟨rfl, (List.forall_mem_cons.mpr ⟨rfl, zs_nil⟩)⟩)⟩)⟩)⟩)⟩) ?_
        exact hrec _ _ h
      · rw [if_pos c148] at h
        refine zw_iconst (v := (1 : Int32)) hX dX0_hasRight_151 (by decide) ?_
        have hz := hf _ (Option.some.inj h).symm
        subst hz
        exact zw_iret hX hr dX0_hasRight_152 rfl ⟨rfl, rfl⟩
set_option maxHeartbeats 4000000 in
set_option maxRecDepth 100000 in
theorem zt_X0_hasRight_J126 {p : Program} {l : Launch} {e : Env} {R : Room} {s : State} {m : MethodId} {args : Array Value} {below : List Frame} {meth : Method} {c : Code} {V : zm_V} {mc ms d rc rs : Nat} (hX : zm_X p R s m args meth c RX0 "hasRight" cX0_hasRight 11 zk_E V mc ms) (hr : meth.sig.returnType = (some .boolean)) (hR : R.frames = d ∧ R.locals = 64 * d) (hd : 3 ≤ d) {N : Nat} {k : Nat → Int32 → Int32 → Int32 → Int32 → Int32 → zm_S → Option ((Int32 × zm_S) ⊕ ((Unit) × zm_S))} {a0 : Nat} {i3 : Int32} {i4 : Int32} {i5 : Int32} {i6 : Int32} {i7 : Int32} {i9 : Int32} {res : (Int32 × zm_S) ⊕ ((Unit) × zm_S)} {out : (Int32 × zm_S)}   (hf : ∀ o, res = .inl o → o = out) (hk : ∀ (S' : zm_S), res = .inr ((), S') → zw p l e R s m args below meth c (vx_MQ below (zm_Qc zk_E V (zo_i out)) (zm_XC zk_E V zo_x) args s mc ms (fun q => V.2.2.2.1 ≤ q)) 11 zk_E V mc ms 159 [] [] S' rc rs) (hrec : ∀ (i7' : Int32) (S : zm_S), k a0 i3 i4 i5 i6 i7' S = some res → zw p l e R s m args below meth c (vx_MQ below (zm_Qc zk_E V (zo_i out)) (zm_XC zk_E V zo_x) args s mc ms (fun q => V.2.2.2.1 ≤ q)) 11 zk_E V mc ms 43 [(0, .ref a0), (3, .int i3), (4, .int i4), (5, .int i5), (6, .int i6), (7, .int i7')] [] S rc rs) {S : zm_S} (h : zf_X0_hasRight_J126 N k a0 i3 i4 i5 i6 i7 i9 S = some res) : zw p l e R s m args below meth c (vx_MQ below (zm_Qc zk_E V (zo_i out)) (zm_XC zk_E V zo_x) args s mc ms (fun q => V.2.2.2.1 ≤ q)) 11 zk_E V mc ms 126 [(0, .ref a0), (3, .int i3), (4, .int i4), (5, .int i5), (6, .int i6), (7, .int i7), (9, .int i9)] [] S rc rs := by
  unfold zf_X0_hasRight_J126 at h
  refine zw_iconst (v := (0 : Int32)) hX dX0_hasRight_126 (by decide) ?_
  refine zw_sub (lv' := [(0, .ref a0), (3, .int i3), (4, .int i4), (5, .int i5), (6, .int i6), (7, .int i7), (9, .int i9)]) (List.forall_mem_cons.mpr ⟨rfl, (List.forall_mem_cons.mpr ⟨rfl, (List.forall_mem_cons.mpr ⟨rfl, (List.forall_mem_cons.mpr ⟨rfl, (List.forall_mem_cons.mpr ⟨rfl, (List.forall_mem_cons.mpr ⟨rfl, (List.forall_mem_cons.mpr ⟨rfl, zs_nil⟩)⟩)⟩)⟩)⟩)⟩)⟩) ?_
  exact zt_X0_hasRight_J127 hX hr hR hd hf hk hrec h
set_option maxHeartbeats 4000000 in
set_option maxRecDepth 100000 in
theorem zt_X0_hasRight_J93 {p : Program} {l : Launch} {e : Env} {R : Room} {s : State} {m : MethodId} {args : Array Value} {below : List Frame} {meth : Method} {c : Code} {V : zm_V} {mc ms d rc rs : Nat} (hX : zm_X p R s m args meth c RX0 "hasRight" cX0_hasRight 11 zk_E V mc ms) (hr : meth.sig.returnType = (some .boolean)) (hR : R.frames = d ∧ R.locals = 64 * d) (hd : 3 ≤ d) {N : Nat} {k : Nat → Int32 → Int32 → Int32 → Int32 → Int32 → zm_S → Option ((Int32 × zm_S) ⊕ ((Unit) × zm_S))} {a0 : Nat} {i3 : Int32} {i4 : Int32} {i5 : Int32} {i6 : Int32} {i7 : Int32} {a8 : Nat} {t0 : Int32} {res : (Int32 × zm_S) ⊕ ((Unit) × zm_S)} {out : (Int32 × zm_S)}   (hf : ∀ o, res = .inl o → o = out) (hk : ∀ (S' : zm_S), res = .inr ((), S') → zw p l e R s m args below meth c (vx_MQ below (zm_Qc zk_E V (zo_i out)) (zm_XC zk_E V zo_x) args s mc ms (fun q => V.2.2.2.1 ≤ q)) 11 zk_E V mc ms 159 [] [] S' rc rs) (hrec : ∀ (i7' : Int32) (S : zm_S), k a0 i3 i4 i5 i6 i7' S = some res → zw p l e R s m args below meth c (vx_MQ below (zm_Qc zk_E V (zo_i out)) (zm_XC zk_E V zo_x) args s mc ms (fun q => V.2.2.2.1 ≤ q)) 11 zk_E V mc ms 43 [(0, .ref a0), (3, .int i3), (4, .int i4), (5, .int i5), (6, .int i6), (7, .int i7')] [] S rc rs) {S : zm_S} (h : zf_X0_hasRight_J93 N k a0 i3 i4 i5 i6 i7 a8 t0 S = some res) : zw p l e R s m args below meth c (vx_MQ below (zm_Qc zk_E V (zo_i out)) (zm_XC zk_E V zo_x) args s mc ms (fun q => V.2.2.2.1 ≤ q)) 11 zk_E V mc ms 93 [(0, .ref a0), (3, .int i3), (4, .int i4), (5, .int i5), (6, .int i6), (7, .int i7), (8, .ref a8)] [.int t0] S rc rs := by
  unfold zf_X0_hasRight_J93 at h
  refine zw_istore hX dX0_hasRight_93 (by decide) ?_
  refine zw_aload hX dX0_hasRight_95 rfl ?_
  refine zw_iconst (v := (4 : Int32)) hX dX0_hasRight_97 (by decide) ?_
  obtain ⟨v17, g, h⟩ := zb_some h
  refine zw_xi hX dX0_hasRight_98 g ?_
  refine zw_iload_n hX dX0_hasRight_99 rfl ?_
  refine zw_icmp_gt (tgt := 126) hX dX0_hasRight_100 (by decide) (fun c100 => ?_) (fun c100 => ?_)
  · rw [if_pos c100] at h
    refine zw_sub (lv' := [(0, .ref a0), (3, .int i3), (4, .int i4), (5, .int i5), (6, .int i6), (7, .int i7), (9, .int t0)]) (List.forall_mem_cons.mpr ⟨rfl, (List.forall_mem_cons.mpr ⟨rfl, (List.forall_mem_cons.mpr ⟨rfl, (List.forall_mem_cons.mpr ⟨rfl, (List.forall_mem_cons.mpr ⟨rfl, (List.forall_mem_cons.mpr ⟨rfl, (List.forall_mem_cons.mpr ⟨rfl, zs_nil⟩)⟩)⟩)⟩)⟩)⟩)⟩) ?_
    exact zt_X0_hasRight_J126 hX hr hR hd hf hk hrec h
  · rw [if_neg c100] at h
    refine zw_iload_n hX dX0_hasRight_103 rfl ?_
    refine zw_sipush (v := (1440 : Int32)) hX dX0_hasRight_104 (by decide) ?_
    refine zw_irem hX dX0_hasRight_107 (by decide) ?_
    refine zw_aload hX dX0_hasRight_108 rfl ?_
    refine zw_iconst (v := (2 : Int32)) hX dX0_hasRight_110 (by decide) ?_
    obtain ⟨v20, g, h⟩ := zb_some h
    refine zw_xi hX dX0_hasRight_111 g ?_
    refine zw_aload hX dX0_hasRight_112 rfl ?_
    refine zw_iconst (v := (3 : Int32)) hX dX0_hasRight_114 (by decide) ?_
    obtain ⟨v21, g, h⟩ := zb_some h
    refine zw_xi hX dX0_hasRight_115 g ?_
    obtain ⟨r23, g, h⟩ := zb_some h
    refine zc_Si (as := [.int (i3 - i3 / (1440 : Int32) * (1440 : Int32)), .int v20, .int v21]) hX (zt_X0_isInSpan (d := d - 1) (by omega) g) zl_X0_219 dX0_hasRight_116 ⟨rfl, rfl, Nat.le_of_ble_eq_true rfl⟩ ⟨by omega, by omega⟩ ?_
    refine zw_if_eq (tgt := 126) hX dX0_hasRight_119 (by decide) (fun c119 => ?_) (fun c119 => ?_)
    · rw [if_pos c119] at h
      refine zw_sub (lv' := [(0, .ref a0), (3, .int i3), (4, .int i4), (5, .int i5), (6, .int i6), (7, .int i7), (9, .int t0)]) (List.forall_mem_cons.mpr ⟨rfl, (List.forall_mem_cons.mpr ⟨rfl, (List.forall_mem_cons.mpr ⟨rfl, (List.forall_mem_cons.mpr ⟨rfl, (List.forall_mem_cons.mpr ⟨rfl, (List.forall_mem_cons.mpr ⟨rfl, (List.forall_mem_cons.mpr ⟨rfl, zs_nil⟩)⟩)⟩)⟩)⟩)⟩)⟩) ?_
      exact zt_X0_hasRight_J126 hX hr hR hd hf hk hrec h
    · rw [if_neg c119] at h
      refine zw_iconst (v := (1 : Int32)) hX dX0_hasRight_122 (by decide) ?_
      refine zw_goto (tgt := 127) hX dX0_hasRight_123 (by decide) ?_
      refine zw_sub (lv' := [(0, .ref a0), (3, .int i3), (4, .int i4), (5, .int i5), (6, .int i6), (7, .int i7), (9, .int t0)]) (List.forall_mem_cons.mpr ⟨rfl, (List.forall_mem_cons.mpr ⟨rfl, (List.forall_mem_cons.mpr ⟨rfl, (List.forall_mem_cons.mpr ⟨rfl, (List.forall_mem_cons.mpr ⟨rfl, (List.forall_mem_cons.mpr ⟨rfl, (List.forall_mem_cons.mpr ⟨rfl, zs_nil⟩)⟩)⟩)⟩)⟩)⟩)⟩) ?_
      exact zt_X0_hasRight_J127 hX hr hR hd hf hk hrec h
set_option maxHeartbeats 4000000 in
set_option maxRecDepth 100000 in
theorem zt_X0_hasRight_J92 {p : Program} {l : Launch} {e : Env} {R : Room} {s : State} {m : MethodId} {args : Array Value} {below : List Frame} {meth : Method} {c : Code} {V : zm_V} {mc ms d rc rs : Nat} (hX : zm_X p R s m args meth c RX0 "hasRight" cX0_hasRight 11 zk_E V mc ms) (hr : meth.sig.returnType = (some .boolean)) (hR : R.frames = d ∧ R.locals = 64 * d) (hd : 3 ≤ d) {N : Nat} {k : Nat → Int32 → Int32 → Int32 → Int32 → Int32 → zm_S → Option ((Int32 × zm_S) ⊕ ((Unit) × zm_S))} {a0 : Nat} {i3 : Int32} {i4 : Int32} {i5 : Int32} {i6 : Int32} {i7 : Int32} {a8 : Nat} {res : (Int32 × zm_S) ⊕ ((Unit) × zm_S)} {out : (Int32 × zm_S)}   (hf : ∀ o, res = .inl o → o = out) (hk : ∀ (S' : zm_S), res = .inr ((), S') → zw p l e R s m args below meth c (vx_MQ below (zm_Qc zk_E V (zo_i out)) (zm_XC zk_E V zo_x) args s mc ms (fun q => V.2.2.2.1 ≤ q)) 11 zk_E V mc ms 159 [] [] S' rc rs) (hrec : ∀ (i7' : Int32) (S : zm_S), k a0 i3 i4 i5 i6 i7' S = some res → zw p l e R s m args below meth c (vx_MQ below (zm_Qc zk_E V (zo_i out)) (zm_XC zk_E V zo_x) args s mc ms (fun q => V.2.2.2.1 ≤ q)) 11 zk_E V mc ms 43 [(0, .ref a0), (3, .int i3), (4, .int i4), (5, .int i5), (6, .int i6), (7, .int i7')] [] S rc rs) {S : zm_S} (h : zf_X0_hasRight_J92 N k a0 i3 i4 i5 i6 i7 a8 S = some res) : zw p l e R s m args below meth c (vx_MQ below (zm_Qc zk_E V (zo_i out)) (zm_XC zk_E V zo_x) args s mc ms (fun q => V.2.2.2.1 ≤ q)) 11 zk_E V mc ms 92 [(0, .ref a0), (3, .int i3), (4, .int i4), (5, .int i5), (6, .int i6), (7, .int i7), (8, .ref a8)] [] S rc rs := by
  unfold zf_X0_hasRight_J92 at h
  refine zw_iconst (v := (0 : Int32)) hX dX0_hasRight_92 (by decide) ?_
  refine zw_sub (lv' := [(0, .ref a0), (3, .int i3), (4, .int i4), (5, .int i5), (6, .int i6), (7, .int i7), (8, .ref a8)]) (List.forall_mem_cons.mpr ⟨rfl, (List.forall_mem_cons.mpr ⟨rfl, (List.forall_mem_cons.mpr ⟨rfl, (List.forall_mem_cons.mpr ⟨rfl, (List.forall_mem_cons.mpr ⟨rfl, (List.forall_mem_cons.mpr ⟨rfl, (List.forall_mem_cons.mpr ⟨rfl, zs_nil⟩)⟩)⟩)⟩)⟩)⟩)⟩) ?_
  exact zt_X0_hasRight_J93 hX hr hR hd hf hk hrec h
set_option maxHeartbeats 4000000 in
set_option maxRecDepth 100000 in
theorem zt_X0_hasRight_L43 {p : Program} {l : Launch} {e : Env} {R : Room} {s : State} {m : MethodId} {args : Array Value} {below : List Frame} {meth : Method} {c : Code} {V : zm_V} {mc ms d rc rs : Nat} (hX : zm_X p R s m args meth c RX0 "hasRight" cX0_hasRight 11 zk_E V mc ms) (hr : meth.sig.returnType = (some .boolean)) (hR : R.frames = d ∧ R.locals = 64 * d) (hd : 3 ≤ d) {N : Nat} {res : (Int32 × zm_S) ⊕ ((Unit) × zm_S)} {out : (Int32 × zm_S)} (a0 : Nat) (i3 : Int32) (i4 : Int32) (i5 : Int32) (i6 : Int32) (hf : ∀ o, res = .inl o → o = out) (hk : ∀ (S' : zm_S), res = .inr ((), S') → zw p l e R s m args below meth c (vx_MQ below (zm_Qc zk_E V (zo_i out)) (zm_XC zk_E V zo_x) args s mc ms (fun q => V.2.2.2.1 ≤ q)) 11 zk_E V mc ms 159 [] [] S' rc rs) : ∀ (n : Nat) (i7 : Int32) (S : zm_S), zf_X0_hasRight_L43 N n a0 i3 i4 i5 i6 i7 S = some res → zw p l e R s m args below meth c (vx_MQ below (zm_Qc zk_E V (zo_i out)) (zm_XC zk_E V zo_x) args s mc ms (fun q => V.2.2.2.1 ≤ q)) 11 zk_E V mc ms 43 [(0, .ref a0), (3, .int i3), (4, .int i4), (5, .int i5), (6, .int i6), (7, .int i7)] [] S rc rs := by
  intro n
  induction n with
  | zero => intro i7 S h; cases h
  | succ n ih =>
    intro i7 S h
    rw [zf_X0_hasRight_L43] at h
    refine zw_iload hX dX0_hasRight_43 rfl ?_
    refine zw_aload_n hX dX0_hasRight_45 rfl ?_
    obtain ⟨v13, g, h⟩ := zb_some h
    refine zw_geti hX zl_X0_129 dX0_hasRight_46 g ?_
    refine zw_icmp_ge (tgt := 159) hX dX0_hasRight_49 (by decide) (fun c49 => ?_) (fun c49 => ?_)
    · rw [if_pos c49] at h
      refine zw_sub (lv' := []) zs_nil ?_
      exact hk  _ (Option.some.inj h).symm
    · rw [if_neg c49] at h
      refine zw_aload_n hX dX0_hasRight_52 rfl ?_
      obtain ⟨b14, g, h⟩ := zb_some h
      refine zw_getr hX zl_X0_27 dX0_hasRight_53 g ?_
      refine zw_iload hX dX0_hasRight_56 rfl ?_
      obtain ⟨b15, g, h⟩ := zb_some h
      refine zw_xr hX dX0_hasRight_58 g ?_
      refine zw_astore hX dX0_hasRight_59 (by decide) ?_
      refine zw_aload hX dX0_hasRight_61 rfl ?_
      refine zw_iconst (v := (0 : Int32)) hX dX0_hasRight_63 (by decide) ?_
      obtain ⟨v16, g, h⟩ := zb_some h
      refine zw_xi hX dX0_hasRight_64 g ?_
      refine zw_iload hX dX0_hasRight_65 rfl ?_
      refine zw_icmp_ne (tgt := 92) hX dX0_hasRight_67 (by decide) (fun c67 => ?_) (fun c67 => ?_)
      · rw [if_neg c67] at h
        refine zw_sub (lv' := [(0, .ref a0), (3, .int i3), (4, .int i4), (5, .int i5), (6, .int i6), (7, .int i7), (8, .ref b15)]) (List.forall_mem_cons.mpr ⟨rfl, (List.forall_mem_cons.mpr ⟨rfl, (List.forall_mem_cons.mpr ⟨rfl, (List.forall_mem_cons.mpr ⟨rfl, (List.forall_mem_cons.mpr ⟨rfl, (List.forall_mem_cons.mpr ⟨rfl, (List.forall_mem_cons.mpr ⟨rfl, zs_nil⟩)⟩)⟩)⟩)⟩)⟩)⟩) ?_
        exact zt_X0_hasRight_J92 hX hr hR hd hf hk ih h
      · rw [if_pos c67] at h
        refine zw_aload hX dX0_hasRight_70 rfl ?_
        refine zw_iconst (v := (1 : Int32)) hX dX0_hasRight_72 (by decide) ?_
        obtain ⟨v24, g, h⟩ := zb_some h
        refine zw_xi hX dX0_hasRight_73 g ?_
        refine zw_iload hX dX0_hasRight_74 rfl ?_
        refine zw_icmp_ne (tgt := 92) hX dX0_hasRight_76 (by decide) (fun c76 => ?_) (fun c76 => ?_)
        · rw [if_neg c76] at h
          refine zw_sub (lv' := [(0, .ref a0), (3, .int i3), (4, .int i4), (5, .int i5), (6, .int i6), (7, .int i7), (8, .ref b15)]) (List.forall_mem_cons.mpr ⟨rfl, (List.forall_mem_cons.mpr ⟨rfl, (List.forall_mem_cons.mpr ⟨rfl, (List.forall_mem_cons.mpr ⟨rfl, (List.forall_mem_cons.mpr ⟨rfl, (List.forall_mem_cons.mpr ⟨rfl, (List.forall_mem_cons.mpr ⟨rfl, zs_nil⟩)⟩)⟩)⟩)⟩)⟩)⟩) ?_
          exact zt_X0_hasRight_J92 hX hr hR hd hf hk ih h
        · rw [if_pos c76] at h
          refine zw_aload hX dX0_hasRight_79 rfl ?_
          refine zw_iconst (v := (5 : Int32)) hX dX0_hasRight_81 (by decide) ?_
          obtain ⟨v25, g, h⟩ := zb_some h
          refine zw_xi hX dX0_hasRight_82 g ?_
          refine zw_iload hX dX0_hasRight_83 rfl ?_
          refine zw_icmp_ge (tgt := 92) hX dX0_hasRight_85 (by decide) (fun c85 => ?_) (fun c85 => ?_)
          · rw [if_pos c85] at h
            refine zw_sub (lv' := [(0, .ref a0), (3, .int i3), (4, .int i4), (5, .int i5), (6, .int i6), (7, .int i7), (8, .ref b15)]) (List.forall_mem_cons.mpr ⟨rfl, (List.forall_mem_cons.mpr ⟨rfl, (List.forall_mem_cons.mpr ⟨rfl, (List.forall_mem_cons.mpr ⟨rfl, (List.forall_mem_cons.mpr ⟨rfl, (List.forall_mem_cons.mpr ⟨rfl, (List.forall_mem_cons.mpr ⟨rfl, zs_nil⟩)⟩)⟩)⟩)⟩)⟩)⟩) ?_
            exact zt_X0_hasRight_J92 hX hr hR hd hf hk ih h
          · rw [if_neg c85] at h
            refine zw_iconst (v := (1 : Int32)) hX dX0_hasRight_88 (by decide) ?_
            refine zw_goto (tgt := 93) hX dX0_hasRight_89 (by decide) ?_
            refine zw_sub (lv' := [(0, .ref a0), (3, .int i3), (4, .int i4), (5, .int i5), (6, .int i6), (7, .int i7), (8, .ref b15)]) (List.forall_mem_cons.mpr ⟨rfl, (List.forall_mem_cons.mpr ⟨rfl, (List.forall_mem_cons.mpr ⟨rfl, (List.forall_mem_cons.mpr ⟨rfl, (List.forall_mem_cons.mpr ⟨rfl, (List.forall_mem_cons.mpr ⟨rfl, (List.forall_mem_cons.mpr ⟨rfl, zs_nil⟩)⟩)⟩)⟩)⟩)⟩)⟩) ?_
            exact zt_X0_hasRight_J93 hX hr hR hd hf hk ih h
set_option maxHeartbeats 4000000 in
set_option maxRecDepth 100000 in
theorem zt_X0_hasRight {l : Launch} {V : zm_V} {N : Nat} {S : zm_S} {out : (Int32 × zm_S)} {d : Nat} {a0 : Nat} {i1 : Int32} {i2 : Int32} {i3 : Int32} {i4 : Int32} (hd : 3 ≤ d) (h : zf_X0_hasRight N a0 i1 i2 i3 i4 S = some out) : zm_Met l zk_E V yX0_hasRight (.code yX0_hasRight cX0_hasRight 11 (some .boolean)) d [.ref a0, .int i1, .int i2, .int i3, .int i4] S 0 0 (zo_i out) zo_x := by
  refine zm_of (by decide +kernel) (Nat.le_of_ble_eq_true rfl) ?_
  intro p e R s m args below meth c hRR hX hr hxt
  have hR : R.frames = d ∧ R.locals = 64 * d := by rw [hRR]; exact ⟨rfl, rfl⟩
  have hX : zm_X p R s m args meth c RX0 "hasRight" cX0_hasRight 11 zk_E V 0 0 := hX
  unfold zf_X0_hasRight at h
  refine zw_sub (lv' := [(0, .ref a0), (1, .int i1), (2, .int i2), (3, .int i3), (4, .int i4)]) (List.forall_mem_cons.mpr ⟨rfl, (List.forall_mem_cons.mpr ⟨rfl, (List.forall_mem_cons.mpr ⟨rfl, (List.forall_mem_cons.mpr ⟨rfl, (List.forall_mem_cons.mpr ⟨rfl, zs_nil⟩)⟩)⟩)⟩)⟩) ?_
  refine zw_iload_n hX dX0_hasRight_0 rfl ?_
  refine zw_aload_n hX dX0_hasRight_1 rfl ?_
  obtain ⟨b1, g, h⟩ := zb_some h
  refine zw_getr hX zl_X0_44 dX0_hasRight_2 g ?_
  obtain ⟨_, gi, h⟩ := zb_some h
  obtain ⟨r3, g, h⟩ := zb_some h
  refine zc_Vi (as := []) hX gi (zt_X10_outside (d := d - 1) (by omega) g) zl_X0_111 rfl dX0_hasRight_5 ⟨rfl, rfl, Nat.le_of_ble_eq_true rfl⟩ ⟨by omega, by omega⟩ ?_
  refine zw_icmp_ne (tgt := 13) hX dX0_hasRight_8 (by decide) (fun c8 => ?_) (fun c8 => ?_)
  · rw [if_neg c8] at h
    refine zw_aload_n hX dX0_hasRight_13 rfl ?_
    obtain ⟨b4, g, h⟩ := zb_some h
    refine zw_getr hX zl_X0_44 dX0_hasRight_14 g ?_
    refine zw_aload_n hX dX0_hasRight_17 rfl ?_
    obtain ⟨b5, g, h⟩ := zb_some h
    refine zw_getr hX zl_X0_24 dX0_hasRight_18 g ?_
    refine zw_iload_n hX dX0_hasRight_21 rfl ?_
    obtain ⟨b6, g, h⟩ := zb_some h
    refine zw_xr hX dX0_hasRight_22 g ?_
    refine zw_iconst (v := (0 : Int32)) hX dX0_hasRight_23 (by decide) ?_
    obtain ⟨v7, g, h⟩ := zb_some h
    refine zw_xi hX dX0_hasRight_24 g ?_
    obtain ⟨_, gi, h⟩ := zb_some h
    obtain ⟨r9, g, h⟩ := zb_some h
    refine zc_Vi (as := [.int v7]) hX gi (zt_X10_groupOf (d := d - 1) (by omega) g) zl_X0_213 rfl dX0_hasRight_25 ⟨rfl, rfl, Nat.le_of_ble_eq_true rfl⟩ ⟨by omega, by omega⟩ ?_
    refine zw_istore hX dX0_hasRight_28 (by decide) ?_
    refine zw_aload_n hX dX0_hasRight_30 rfl ?_
    obtain ⟨b10, g, h⟩ := zb_some h
    refine zw_getr hX zl_X0_44 dX0_hasRight_31 g ?_
    refine zw_iload_n hX dX0_hasRight_34 rfl ?_
    obtain ⟨_, gi, h⟩ := zb_some h
    obtain ⟨r12, g, h⟩ := zb_some h
    refine zc_Vi (as := [.int i2]) hX gi (zt_X10_zoneOf (d := d - 1) (by omega) g) zl_X0_216 rfl dX0_hasRight_35 ⟨rfl, rfl, Nat.le_of_ble_eq_true rfl⟩ ⟨by omega, by omega⟩ ?_
    refine zw_istore hX dX0_hasRight_38 (by decide) ?_
    refine zw_iconst (v := (0 : Int32)) hX dX0_hasRight_40 (by decide) ?_
    refine zw_istore hX dX0_hasRight_41 (by decide) ?_
    obtain ⟨r, g, h⟩ := zb_some h
    refine zw_sub (lv' := [(0, .ref a0), (3, .int i3), (4, .int i4), (5, .int r9.1), (6, .int r12.1), (7, .int (0 : Int32))]) (List.forall_mem_cons.mpr ⟨rfl, (List.forall_mem_cons.mpr ⟨rfl, (List.forall_mem_cons.mpr ⟨rfl, (List.forall_mem_cons.mpr ⟨rfl, (List.forall_mem_cons.mpr ⟨rfl, (List.forall_mem_cons.mpr ⟨rfl, zs_nil⟩)⟩)⟩)⟩)⟩)⟩) ?_
    refine zt_X0_hasRight_L43 hX hr hR hd (res := r) (out := out) a0 i3 i4 r9.1 r12.1 ?_ ?_ N _ _ g
    · intro o ho
      subst ho
      exact Option.some.inj h
    · intro  S26 hx
      subst hx
      try dsimp only at h
      refine zw_iconst (v := (0 : Int32)) hX dX0_hasRight_159 (by decide) ?_
      obtain rfl := Option.some.inj h
      exact zw_iret hX hr dX0_hasRight_160 rfl ⟨rfl, rfl⟩
  · rw [if_pos c8] at h
    refine zw_iconst (v := (1 : Int32)) hX dX0_hasRight_11 (by decide) ?_
    obtain rfl := Option.some.inj h
    exact zw_iret hX hr dX0_hasRight_12 rfl ⟨rfl, rfl⟩
set_option maxHeartbeats 4000000 in
set_option maxRecDepth 100000 in
theorem zt_X0_paperRefusal {l : Launch} {V : zm_V} {N : Nat} {S : zm_S} {out : (Int32 × zm_S)} {d : Nat} {a0 : Nat} {i1 : Int32} {i2 : Int32} {i3 : Int32} {i4 : Int32} (hd : 4 ≤ d) (h : zf_X0_paperRefusal N a0 i1 i2 i3 i4 S = some out) : zm_Met l zk_E V yX0_paperRefusal (.code yX0_paperRefusal cX0_paperRefusal 6 (some .int)) d [.ref a0, .int i1, .int i2, .int i3, .int i4] S 0 0 (zo_i out) zo_x := by
  refine zm_of (by decide +kernel) (Nat.le_of_ble_eq_true rfl) ?_
  intro p e R s m args below meth c hRR hX hr hxt
  have hR : R.frames = d ∧ R.locals = 64 * d := by rw [hRR]; exact ⟨rfl, rfl⟩
  have hX : zm_X p R s m args meth c RX0 "paperRefusal" cX0_paperRefusal 6 zk_E V 0 0 := hX
  unfold zf_X0_paperRefusal at h
  refine zw_sub (lv' := [(0, .ref a0), (1, .int i1), (2, .int i2), (3, .int i3), (4, .int i4)]) (List.forall_mem_cons.mpr ⟨rfl, (List.forall_mem_cons.mpr ⟨rfl, (List.forall_mem_cons.mpr ⟨rfl, (List.forall_mem_cons.mpr ⟨rfl, (List.forall_mem_cons.mpr ⟨rfl, zs_nil⟩)⟩)⟩)⟩)⟩) ?_
  refine zw_aload_n hX dX0_paperRefusal_0 rfl ?_
  refine zw_iload_n hX dX0_paperRefusal_1 rfl ?_
  refine zw_iload_n hX dX0_paperRefusal_2 rfl ?_
  refine zw_iload hX dX0_paperRefusal_3 rfl ?_
  obtain ⟨_, gi, h⟩ := zb_some h
  obtain ⟨r2, g, h⟩ := zb_some h
  refine zc_Vi (as := [.int i1, .int i3, .int i4]) hX gi (zt_X0_cardRefusal (d := d - 1) (by omega) g) zl_X0_197 rfl dX0_paperRefusal_5 ⟨rfl, rfl, Nat.le_of_ble_eq_true rfl⟩ ⟨by omega, by omega⟩ ?_
  refine zw_istore hX dX0_paperRefusal_8 (by decide) ?_
  refine zw_iload hX dX0_paperRefusal_10 rfl ?_
  refine zw_if_ne (tgt := 31) hX dX0_paperRefusal_12 (by decide) (fun c12 => ?_) (fun c12 => ?_)
  · rw [if_neg c12] at h
    refine zw_iload hX dX0_paperRefusal_31 rfl ?_
    obtain rfl := Option.some.inj h
    exact zw_iret hX hr dX0_paperRefusal_33 rfl ⟨rfl, rfl⟩
  · rw [if_pos c12] at h
    refine zw_aload_n hX dX0_paperRefusal_15 rfl ?_
    refine zw_iload_n hX dX0_paperRefusal_16 rfl ?_
    refine zw_iload_n hX dX0_paperRefusal_17 rfl ?_
    refine zw_iload_n hX dX0_paperRefusal_18 rfl ?_
    refine zw_iload hX dX0_paperRefusal_19 rfl ?_
    obtain ⟨_, gi, h⟩ := zb_some h
    obtain ⟨r4, g, h⟩ := zb_some h
    refine zc_Vi (as := [.int i1, .int i2, .int i3, .int i4]) hX gi (zt_X0_hasRight (d := d - 1) (by omega) g) zl_X0_200 rfl dX0_paperRefusal_21 ⟨rfl, rfl, Nat.le_of_ble_eq_true rfl⟩ ⟨by omega, by omega⟩ ?_
    refine zw_if_ne (tgt := 31) hX dX0_paperRefusal_24 (by decide) (fun c24 => ?_) (fun c24 => ?_)
    · rw [if_neg c24] at h
      refine zw_iload hX dX0_paperRefusal_31 rfl ?_
      obtain rfl := Option.some.inj h
      exact zw_iret hX hr dX0_paperRefusal_33 rfl ⟨rfl, rfl⟩
    · rw [if_pos c24] at h
      refine zw_iconst (v := (5 : Int32)) hX dX0_paperRefusal_27 (by decide) ?_
      refine zw_goto (tgt := 33) hX dX0_paperRefusal_28 (by decide) ?_
      obtain rfl := Option.some.inj h
      exact zw_iret hX hr dX0_paperRefusal_33 rfl ⟨rfl, rfl⟩
set_option maxHeartbeats 4000000 in
set_option maxRecDepth 100000 in
theorem zt_X0_noteAgainst_J56 {p : Program} {l : Launch} {e : Env} {R : Room} {s : State} {m : MethodId} {args : Array Value} {below : List Frame} {meth : Method} {c : Code} {V : zm_V} {mc ms d rc rs : Nat} (hX : zm_X p R s m args meth c RX0 "noteAgainst" cX0_noteAgainst 6 zk_E V mc ms) (hr : meth.sig.returnType = none) (hR : R.frames = d ∧ R.locals = 64 * d) (hd : 1 ≤ d) {N : Nat} {a0 : Nat} {out : (Unit × zm_S)} {S : zm_S} (h : zf_X0_noteAgainst_J56 N a0 S = some out) : zw p l e R s m args below meth c (vx_MQ below (zm_Qc zk_E V (zo_v out)) (zm_XC zk_E V zo_x) args s mc ms (fun q => V.2.2.2.1 ≤ q)) 6 zk_E V mc ms 56 [(0, .ref a0)] [] S rc rs := by
  unfold zf_X0_noteAgainst_J56 at h
  refine zw_aload_n hX dX0_noteAgainst_56 rfl ?_
  refine zw_dup hX dX0_noteAgainst_57 rfl ?_
  obtain ⟨v2, g, h⟩ := zb_some h
  refine zw_geti hX zl_X0_168 dX0_noteAgainst_58 g ?_
  refine zw_iconst (v := (1 : Int32)) hX dX0_noteAgainst_61 (by decide) ?_
  refine zw_iadd hX dX0_noteAgainst_62 ?_
  obtain ⟨S3, g, h⟩ := zb_some h
  refine zw_putv hX zl_X0_168 zt_0_15 dX0_noteAgainst_63 rfl rfl g ?_
  obtain rfl := Option.some.inj h
  exact zw_vret hX hr dX0_noteAgainst_66 ⟨rfl, rfl⟩
set_option maxHeartbeats 4000000 in
set_option maxRecDepth 100000 in
theorem zt_X0_noteAgainst {l : Launch} {V : zm_V} {N : Nat} {S : zm_S} {out : (Unit × zm_S)} {d : Nat} {a0 : Nat} {i1 : Int32} {i2 : Int32} {i3 : Int32} {i4 : Int32} (hd : 1 ≤ d) (h : zf_X0_noteAgainst N a0 i1 i2 i3 i4 S = some out) : zm_Met l zk_E V yX0_noteAgainst (.code yX0_noteAgainst cX0_noteAgainst 6 none) d [.ref a0, .int i1, .int i2, .int i3, .int i4] S 0 0 (zo_v out) zo_x := by
  refine zm_of (by decide +kernel) (Nat.le_of_ble_eq_true rfl) ?_
  intro p e R s m args below meth c hRR hX hr hxt
  have hR : R.frames = d ∧ R.locals = 64 * d := by rw [hRR]; exact ⟨rfl, rfl⟩
  have hX : zm_X p R s m args meth c RX0 "noteAgainst" cX0_noteAgainst 6 zk_E V 0 0 := hX
  unfold zf_X0_noteAgainst at h
  refine zw_sub (lv' := [(0, .ref a0), (1, .int i1), (2, .int i2), (3, .int i3), (4, .int i4)]) (List.forall_mem_cons.mpr ⟨rfl, (List.forall_mem_cons.mpr ⟨rfl, (List.forall_mem_cons.mpr ⟨rfl, (List.forall_mem_cons.mpr ⟨rfl, (List.forall_mem_cons.mpr ⟨rfl, zs_nil⟩)⟩)⟩)⟩)⟩) ?_
  refine zw_aload_n hX dX0_noteAgainst_0 rfl ?_
  obtain ⟨v1, g, h⟩ := zb_some h
  refine zw_geti hX zl_X0_168 dX0_noteAgainst_1 g ?_
  refine zw_bipush (v := (100 : Int32)) hX dX0_noteAgainst_4 (by decide) ?_
  refine zw_icmp_ge (tgt := 56) hX dX0_noteAgainst_6 (by decide) (fun c6 => ?_) (fun c6 => ?_)
  · rw [if_pos c6] at h
    refine zw_sub (lv' := [(0, .ref a0)]) (List.forall_mem_cons.mpr ⟨rfl, zs_nil⟩) ?_
    exact zt_X0_noteAgainst_J56 hX hr hR hd h
  · rw [if_neg c6] at h
    refine zw_iconst (v := (4 : Int32)) hX dX0_noteAgainst_9 (by decide) ?_
    refine zw_aload_n hX dX0_noteAgainst_10 rfl ?_
    obtain ⟨v4, g, h⟩ := zb_some h
    refine zw_geti hX zl_X0_168 dX0_noteAgainst_11 g ?_
    refine zw_imul hX dX0_noteAgainst_14 ?_
    refine zw_istore hX dX0_noteAgainst_15 (by decide) ?_
    refine zw_aload_n hX dX0_noteAgainst_17 rfl ?_
    obtain ⟨b5, g, h⟩ := zb_some h
    refine zw_getr hX zl_X0_33 dX0_noteAgainst_18 g ?_
    refine zw_iload hX dX0_noteAgainst_21 rfl ?_
    refine zw_iload_n hX dX0_noteAgainst_23 rfl ?_
    obtain ⟨S6, g, h⟩ := zb_some h
    refine zw_si hX dX0_noteAgainst_24 g ?_
    refine zw_aload_n hX dX0_noteAgainst_25 rfl ?_
    obtain ⟨b7, g, h⟩ := zb_some h
    refine zw_getr hX zl_X0_33 dX0_noteAgainst_26 g ?_
    refine zw_iload hX dX0_noteAgainst_29 rfl ?_
    refine zw_iconst (v := (1 : Int32)) hX dX0_noteAgainst_31 (by decide) ?_
    refine zw_iadd hX dX0_noteAgainst_32 ?_
    refine zw_iload_n hX dX0_noteAgainst_33 rfl ?_
    obtain ⟨S8, g, h⟩ := zb_some h
    refine zw_si hX dX0_noteAgainst_34 g ?_
    refine zw_aload_n hX dX0_noteAgainst_35 rfl ?_
    obtain ⟨b9, g, h⟩ := zb_some h
    refine zw_getr hX zl_X0_33 dX0_noteAgainst_36 g ?_
    refine zw_iload hX dX0_noteAgainst_39 rfl ?_
    refine zw_iconst (v := (2 : Int32)) hX dX0_noteAgainst_41 (by decide) ?_
    refine zw_iadd hX dX0_noteAgainst_42 ?_
    refine zw_iload_n hX dX0_noteAgainst_43 rfl ?_
    obtain ⟨S10, g, h⟩ := zb_some h
    refine zw_si hX dX0_noteAgainst_44 g ?_
    refine zw_aload_n hX dX0_noteAgainst_45 rfl ?_
    obtain ⟨b11, g, h⟩ := zb_some h
    refine zw_getr hX zl_X0_33 dX0_noteAgainst_46 g ?_
    refine zw_iload hX dX0_noteAgainst_49 rfl ?_
    refine zw_iconst (v := (3 : Int32)) hX dX0_noteAgainst_51 (by decide) ?_
    refine zw_iadd hX dX0_noteAgainst_52 ?_
    refine zw_iload hX dX0_noteAgainst_53 rfl ?_
    obtain ⟨S12, g, h⟩ := zb_some h
    refine zw_si hX dX0_noteAgainst_55 g ?_
    refine zw_sub (lv' := [(0, .ref a0)]) (List.forall_mem_cons.mpr ⟨rfl, zs_nil⟩) ?_
    exact zt_X0_noteAgainst_J56 hX hr hR hd h
set_option maxHeartbeats 4000000 in
set_option maxRecDepth 100000 in
theorem zt_X0_takeRow_J32 {p : Program} {l : Launch} {e : Env} {R : Room} {s : State} {m : MethodId} {args : Array Value} {below : List Frame} {meth : Method} {c : Code} {V : zm_V} {mc ms d rc rs : Nat} (hX : zm_X p R s m args meth c RX0 "takeRow" cX0_takeRow 8 zk_E V mc ms) (hr : meth.sig.returnType = none) (hR : R.frames = d ∧ R.locals = 64 * d) (hd : 5 ≤ d) {N : Nat} {a0 : Nat} {i1 : Int32} {i2 : Int32} {i3 : Int32} {i4 : Int32} {out : (Unit × zm_S)} {S : zm_S} (h : zf_X0_takeRow_J32 N a0 i1 i2 i3 i4 S = some out) : zw p l e R s m args below meth c (vx_MQ below (zm_Qc zk_E V (zo_v out)) (zm_XC zk_E V zo_x) args s mc ms (fun q => V.2.2.2.1 ≤ q)) 8 zk_E V mc ms 32 [(0, .ref a0), (1, .int i1), (2, .int i2), (3, .int i3), (4, .int i4)] [] S rc rs := by
  unfold zf_X0_takeRow_J32 at h
  refine zw_aload_n hX dX0_takeRow_32 rfl ?_
  refine zw_iload_n hX dX0_takeRow_33 rfl ?_
  refine zw_iload_n hX dX0_takeRow_34 rfl ?_
  refine zw_iload hX dX0_takeRow_35 rfl ?_
  refine zw_aload_n hX dX0_takeRow_37 rfl ?_
  obtain ⟨v7, g, h⟩ := zb_some h
  refine zw_geti hX zl_X0_126 dX0_takeRow_38 g ?_
  obtain ⟨_, gi, h⟩ := zb_some h
  obtain ⟨r9, g, h⟩ := zb_some h
  refine zc_Vi (as := [.int i2, .int i3, .int i4, .int v7]) hX gi (zt_X0_paperRefusal (d := d - 1) (by omega) g) zl_X0_161 rfl dX0_takeRow_41 ⟨rfl, rfl, Nat.le_of_ble_eq_true rfl⟩ ⟨by omega, by omega⟩ ?_
  refine zw_istore hX dX0_takeRow_44 (by decide) ?_
  refine zw_iload hX dX0_takeRow_46 rfl ?_
  refine zw_if_eq (tgt := 61) hX dX0_takeRow_48 (by decide) (fun c48 => ?_) (fun c48 => ?_)
  · rw [if_pos c48] at h
    obtain rfl := Option.some.inj h
    exact zw_vret hX hr dX0_takeRow_61 ⟨rfl, rfl⟩
  · rw [if_neg c48] at h
    refine zw_aload_n hX dX0_takeRow_51 rfl ?_
    refine zw_iload_n hX dX0_takeRow_52 rfl ?_
    refine zw_iload_n hX dX0_takeRow_53 rfl ?_
    refine zw_iload hX dX0_takeRow_54 rfl ?_
    refine zw_iload hX dX0_takeRow_56 rfl ?_
    obtain ⟨_, gi, h⟩ := zb_some h
    obtain ⟨r11, g, h⟩ := zb_some h
    refine zc_Vv (as := [.int i1, .int i2, .int i4, .int r9.1]) hX gi (zt_X0_noteAgainst (d := d - 1) (by omega) g) zl_X0_165 rfl dX0_takeRow_58 ⟨rfl, rfl, Nat.le_of_ble_eq_true rfl⟩ ⟨by omega, by omega⟩ ?_
    obtain rfl := Option.some.inj h
    exact zw_vret hX hr dX0_takeRow_61 ⟨rfl, rfl⟩
set_option maxHeartbeats 4000000 in
set_option maxRecDepth 100000 in
theorem zt_X0_takeRow {l : Launch} {V : zm_V} {N : Nat} {S : zm_S} {out : (Unit × zm_S)} {d : Nat} {a0 : Nat} {i1 : Int32} {i2 : Int32} {i3 : Int32} {i4 : Int32} {i5 : Int32} (hd : 5 ≤ d) (h : zf_X0_takeRow N a0 i1 i2 i3 i4 i5 S = some out) : zm_Met l zk_E V yX0_takeRow (.code yX0_takeRow cX0_takeRow 8 none) d [.ref a0, .int i1, .int i2, .int i3, .int i4, .int i5] S 0 0 (zo_v out) zo_x := by
  refine zm_of (by decide +kernel) (Nat.le_of_ble_eq_true rfl) ?_
  intro p e R s m args below meth c hRR hX hr hxt
  have hR : R.frames = d ∧ R.locals = 64 * d := by rw [hRR]; exact ⟨rfl, rfl⟩
  have hX : zm_X p R s m args meth c RX0 "takeRow" cX0_takeRow 8 zk_E V 0 0 := hX
  unfold zf_X0_takeRow at h
  refine zw_sub (lv' := [(0, .ref a0), (1, .int i1), (2, .int i2), (3, .int i3), (4, .int i4), (5, .int i5)]) (List.forall_mem_cons.mpr ⟨rfl, (List.forall_mem_cons.mpr ⟨rfl, (List.forall_mem_cons.mpr ⟨rfl, (List.forall_mem_cons.mpr ⟨rfl, (List.forall_mem_cons.mpr ⟨rfl, (List.forall_mem_cons.mpr ⟨rfl, zs_nil⟩)⟩)⟩)⟩)⟩)⟩) ?_
  refine zw_aload_n hX dX0_takeRow_0 rfl ?_
  obtain ⟨b1, g, h⟩ := zb_some h
  refine zw_getr hX zl_X0_24 dX0_takeRow_1 g ?_
  refine zw_iload_n hX dX0_takeRow_4 rfl ?_
  obtain ⟨b2, g, h⟩ := zb_some h
  refine zw_xr hX dX0_takeRow_5 g ?_
  refine zw_iconst (v := (0 : Int32)) hX dX0_takeRow_6 (by decide) ?_
  obtain ⟨v3, g, h⟩ := zb_some h
  refine zw_xi hX dX0_takeRow_7 g ?_
  refine zw_istore hX dX0_takeRow_8 (by decide) ?_
  refine zw_aload_n hX dX0_takeRow_10 rfl ?_
  obtain ⟨b4, g, h⟩ := zb_some h
  refine zw_getr hX zl_X0_44 dX0_takeRow_11 g ?_
  refine zw_iload hX dX0_takeRow_14 rfl ?_
  obtain ⟨_, gi, h⟩ := zb_some h
  obtain ⟨r6, g, h⟩ := zb_some h
  refine zc_Vi (as := [.int v3]) hX gi (zt_X10_isCaught (d := d - 1) (by omega) g) zl_X0_154 rfl dX0_takeRow_16 ⟨rfl, rfl, Nat.le_of_ble_eq_true rfl⟩ ⟨by omega, by omega⟩ ?_
  refine zw_if_ne (tgt := 32) hX dX0_takeRow_19 (by decide) (fun c19 => ?_) (fun c19 => ?_)
  · rw [if_neg c19] at h
    refine zw_sub (lv' := [(0, .ref a0), (1, .int i1), (2, .int i2), (3, .int i3), (4, .int i4)]) (List.forall_mem_cons.mpr ⟨rfl, (List.forall_mem_cons.mpr ⟨rfl, (List.forall_mem_cons.mpr ⟨rfl, (List.forall_mem_cons.mpr ⟨rfl, (List.forall_mem_cons.mpr ⟨rfl, zs_nil⟩)⟩)⟩)⟩)⟩) ?_
    exact zt_X0_takeRow_J32 hX hr hR hd h
  · rw [if_pos c19] at h
    refine zw_aload_n hX dX0_takeRow_22 rfl ?_
    refine zw_iload hX dX0_takeRow_23 rfl ?_
    refine zw_iload_n hX dX0_takeRow_25 rfl ?_
    refine zw_iload_n hX dX0_takeRow_26 rfl ?_
    refine zw_iload hX dX0_takeRow_27 rfl ?_
    obtain ⟨_, gi, h⟩ := zb_some h
    obtain ⟨r13, g, h⟩ := zb_some h
    refine zc_Vv (as := [.int v3, .int i1, .int i3, .int i5]) hX gi (zt_X0_comeIn (d := d - 1) (by omega) g) zl_X0_157 rfl dX0_takeRow_29 ⟨rfl, rfl, Nat.le_of_ble_eq_true rfl⟩ ⟨by omega, by omega⟩ ?_
    refine zw_sub (lv' := [(0, .ref a0), (1, .int i1), (2, .int i2), (3, .int i3), (4, .int i4)]) (List.forall_mem_cons.mpr ⟨rfl, (List.forall_mem_cons.mpr ⟨rfl, (List.forall_mem_cons.mpr ⟨rfl, (List.forall_mem_cons.mpr ⟨rfl, (List.forall_mem_cons.mpr ⟨rfl, zs_nil⟩)⟩)⟩)⟩)⟩) ?_
    exact zt_X0_takeRow_J32 hX hr hR hd h

